abbrev wM (ca : Nat → ClassId) (ev : Nat → Nat) (h0 h1 h2 h3 h4 h5 h6 h7 h8 h9 h10 h11 h12 h13 h14 h15 h16 h17 : Nat) (now : (Nat → Int32)) (kept : (Nat → Int32)) (isKept : Int32) (found : (Nat → Int32)) (order : (Nat → Int32)) (doubts : (Nat → Int32)) (doubtMany : Int32) (weights : (Nat → Int64)) (worn : (Nat → Int32)) (pairs : Int64) (isTwice : Int32) (doer : (Nat → Int32)) (doneTo : (Nat → Int32)) (doers : (Nat → Int64)) (tape : (Nat → Int32)) (taped : Int32) (begins : Int32) (ends : Int32) (sort : Int32) (value : Int32) (isWrong : Int32) (items : (Nat → Int32)) (itemMany : Int32) (bowThen : Int32) (doubtThen : Int32) (deedThen : Int32) (sayingThen : Int32) (widths : (Nat → Int32)) (sizes : (Nat → Int32)) (numbers : (Nat → Int64)) (moved : (Nat → Int64)) : va_W := [(h0, .inr (8, [.ref h1, .ref h2, .int isKept, .ref h3, .ref h4, .ref h5, .int doubtMany, .ref h6, .ref h7, .long pairs, .int isTwice, .ref h8, .ref h9, .ref h10, .ref h11, .int taped, .int begins, .int ends, .int sort, .int value, .int isWrong, .ref h12, .ref h13, .int itemMany, .int bowThen, .int doubtThen, .int deedThen, .int sayingThen, .ref h14, .ref h15, .ref h16, .ref h17])), (h1, .inl (ca 0, 186, .inl now)), (h2, .inl (ca 0, 186, .inl kept)), (h3, .inl (ca 0, 8, .inl found)), (h4, .inl (ca 0, 20, .inl order)), (h5, .inl (ca 0, 6, .inl doubts)), (h6, .inl (ca 1, 64, .inr (.inl weights))), (h7, .inl (ca 0, 8, .inl worn)), (h8, .inl (ca 0, 12, .inl doer)), (h9, .inl (ca 0, 12, .inl doneTo)), (h10, .inl (ca 1, 64, .inr (.inl doers))), (h11, .inl (ca 0, 120, .inl tape)), (h12, .inl (ca 4, 6, .inr (.inr (.inr (.inr (mk_kinds ev)))))), (h13, .inl (ca 0, 720, .inl items)), (h14, .inl (ca 0, 4, .inl widths)), (h15, .inl (ca 0, 4, .inl sizes)), (h16, .inl (ca 1, 160, .inr (.inl numbers))), (h17, .inl (ca 1, 40, .inr (.inl moved)))]
abbrev rm_X8_finding : Room := { frames := 0, cells := 0, slots := 0, locals := 0 }
theorem hd_X8_finding : yX8_finding.cls = RX8 ∧ yX8_finding.cls ≠ "java/lang/invoke/MethodHandle" ∧ yX8_finding.cls ≠ "java/lang/invoke/VarHandle" ∧ (parseMethodDescriptor yX8_finding.desc).map (fun d => d.parameters.length) = some 1 := by decide +kernel
set_option maxHeartbeats 4000000 in
set_option maxRecDepth 100000 in
theorem c_X8_finding {l : Launch} {G : va_G} {ca : Nat → ClassId} {ev : Nat → Nat} {h0 h1 h2 h3 h4 h5 h6 h7 h8 h9 h10 h11 h12 h13 h14 h15 h16 h17 : Nat} {now : (Nat → Int32)} {kept : (Nat → Int32)} {isKept : Int32} {found : (Nat → Int32)} {order : (Nat → Int32)} {doubts : (Nat → Int32)} {doubtMany : Int32} {weights : (Nat → Int64)} {worn : (Nat → Int32)} {pairs : Int64} {isTwice : Int32} {doer : (Nat → Int32)} {doneTo : (Nat → Int32)} {doers : (Nat → Int64)} {tape : (Nat → Int32)} {taped : Int32} {begins : Int32} {ends : Int32} {sort : Int32} {value : Int32} {isWrong : Int32} {items : (Nat → Int32)} {itemMany : Int32} {bowThen : Int32} {doubtThen : Int32} {deedThen : Int32} {sayingThen : Int32} {widths : (Nat → Int32)} {sizes : (Nat → Int32)} {numbers : (Nat → Int64)} {moved : (Nat → Int64)} {a1 : Int32} {res : Int32 × (Nat → Int32)} (h : f_X8_finding found a1 = some res) : CtI l yX8_finding wsX8_finding rm_X8_finding G ca ev [.ref h0, .int a1] (wM ca ev h0 h1 h2 h3 h4 h5 h6 h7 h8 h9 h10 h11 h12 h13 h14 h15 h16 h17 now kept isKept found order doubts doubtMany weights worn pairs isTwice doer doneTo doers tape taped begins ends sort value isWrong items itemMany bowThen doubtThen deedThen sayingThen widths sizes numbers moved) (wM ca ev h0 h1 h2 h3 h4 h5 h6 h7 h8 h9 h10 h11 h12 h13 h14 h15 h16 h17 now kept isKept res.2 order doubts doubtMany weights worn pairs isTwice doer doneTo doers tape taped begins ends sort value isWrong items itemMany bowThen doubtThen deedThen sayingThen widths sizes numbers moved) res.1 := by
  unfold f_X8_finding at h
  refine en_i (by decide) rfl (Nat.le_of_ble_eq_true rfl) ?_
  intro p e s m args below meth c A Q H locs ls hx hb hml hown hts hA hP hK hD hE hS hl hRet
  have hown : s.vm.findClass RX8 = some m.cls := hown
  have hl : lv_has ls 2 [(0, .ref h0), (1, .int a1)] := hl
  have hin_X8 : ∀ w ∈ u_ws RX8 TX8 32, w ∈ wsX8_finding := fun w h9 => List.mem_cons_of_mem _ (List.mem_append_right _ h9)
  have fk_16 := hts (.fieldLink RX8 16 "MaskBowsModel" "found" "[I") (by decide +kernel)
  refine lv_aload_n hx hb dX8_finding_0 rfl (lv_at hl 0 rfl) ?_
  refine va_get (D := G) (ci := 8) (v := .ref h3) (C := RX8) (T := TX8) (N := 32) hx hb hts hin_X8 hown hK hP 0 rfl rfl 3 (by decide) fk_16 (fun _ h9 => h9) rfl dX8_finding_1 ?_
  refine lv_ldc (v := (-1000000001 : Int32)) hx hb hown (hts (.constant RX8 77 (-1000000001)) (by decide +kernel)) dX8_finding_4 ?_
  refine lv_iload_n hx hb dX8_finding_6 rfl (lv_at hl 1 rfl) ?_
  refine lv_isub hx hb dX8_finding_7 ?_
  refine lv_iconst (v := (1 : Int32)) hx hb dX8_finding_8 (by decide) ?_
  refine lv_iadd hx hb dX8_finding_9 ?_
  refine lv_dup2_11 hx hb dX8_finding_10 rfl rfl ?_
  obtain ⟨i_1, h⟩ := gd_some h
  refine va_iald hx hb hK hP 3 0 rfl rfl (ix_in i_1) dX8_finding_11 ?_
  refine lv_iconst (v := (1 : Int32)) hx hb dX8_finding_12 (by decide) ?_
  refine lv_iadd hx hb dX8_finding_13 ?_
  refine va_iast hx hb hK hP hD hS 3 0 rfl rfl (ix_in i_1) dX8_finding_14 (fun H locs hP hD hS => ?_)
  have hP : va_P G vwCl (wM ca ev h0 h1 h2 h3 h4 h5 h6 h7 h8 h9 h10 h11 h12 h13 h14 h15 h16 h17 now kept isKept (upd found (((-1000000001 : Int32) - a1) + (1 : Int32)).toNatClampNeg ((found (((-1000000001 : Int32) - a1) + (1 : Int32)).toNatClampNeg) + (1 : Int32))) order doubts doubtMany weights worn pairs isTwice doer doneTo doers tape taped begins ends sort value isWrong items itemMany bowThen doubtThen deedThen sayingThen widths sizes numbers moved) H := hP
  have hD : va_D A (wM ca ev h0 h1 h2 h3 h4 h5 h6 h7 h8 h9 h10 h11 h12 h13 h14 h15 h16 h17 now kept isKept (upd found (((-1000000001 : Int32) - a1) + (1 : Int32)).toNatClampNeg ((found (((-1000000001 : Int32) - a1) + (1 : Int32)).toNatClampNeg) + (1 : Int32))) order doubts doubtMany weights worn pairs isTwice doer doneTo doers tape taped begins ends sort value isWrong items itemMany bowThen doubtThen deedThen sayingThen widths sizes numbers moved) := hD
  refine lv_aload_n hx hb dX8_finding_15 rfl (lv_at hl 0 rfl) ?_
  refine va_get (D := G) (ci := 8) (v := .ref h3) (C := RX8) (T := TX8) (N := 32) hx hb hts hin_X8 hown hK hP 0 rfl rfl 3 (by decide) fk_16 (fun _ h9 => h9) rfl dX8_finding_16 ?_
  refine lv_iconst (v := (0 : Int32)) hx hb dX8_finding_19 (by decide) ?_
  refine lv_dup2_11 hx hb dX8_finding_20 rfl rfl ?_
  refine va_iald hx hb hK hP 3 0 rfl rfl (ix_in (by decide)) dX8_finding_21 ?_
  refine lv_iconst (v := (1 : Int32)) hx hb dX8_finding_22 (by decide) ?_
  refine lv_iadd hx hb dX8_finding_23 ?_
  refine va_iast hx hb hK hP hD hS 3 0 rfl rfl (ix_in (by decide)) dX8_finding_24 (fun H locs hP hD hS => ?_)
  have hP : va_P G vwCl (wM ca ev h0 h1 h2 h3 h4 h5 h6 h7 h8 h9 h10 h11 h12 h13 h14 h15 h16 h17 now kept isKept (upd (upd found (((-1000000001 : Int32) - a1) + (1 : Int32)).toNatClampNeg ((found (((-1000000001 : Int32) - a1) + (1 : Int32)).toNatClampNeg) + (1 : Int32))) (0 : Int32).toNatClampNeg (((upd found (((-1000000001 : Int32) - a1) + (1 : Int32)).toNatClampNeg ((found (((-1000000001 : Int32) - a1) + (1 : Int32)).toNatClampNeg) + (1 : Int32))) (0 : Int32).toNatClampNeg) + (1 : Int32))) order doubts doubtMany weights worn pairs isTwice doer doneTo doers tape taped begins ends sort value isWrong items itemMany bowThen doubtThen deedThen sayingThen widths sizes numbers moved) H := hP
  have hD : va_D A (wM ca ev h0 h1 h2 h3 h4 h5 h6 h7 h8 h9 h10 h11 h12 h13 h14 h15 h16 h17 now kept isKept (upd (upd found (((-1000000001 : Int32) - a1) + (1 : Int32)).toNatClampNeg ((found (((-1000000001 : Int32) - a1) + (1 : Int32)).toNatClampNeg) + (1 : Int32))) (0 : Int32).toNatClampNeg (((upd found (((-1000000001 : Int32) - a1) + (1 : Int32)).toNatClampNeg ((found (((-1000000001 : Int32) - a1) + (1 : Int32)).toNatClampNeg) + (1 : Int32))) (0 : Int32).toNatClampNeg) + (1 : Int32))) order doubts doubtMany weights worn pairs isTwice doer doneTo doers tape taped begins ends sort value isWrong items itemMany bowThen doubtThen deedThen sayingThen widths sizes numbers moved) := hD
  refine lv_iload_n hx hb dX8_finding_25 rfl (lv_at hl 1 rfl) ?_
  obtain rfl := Option.some.inj h
  exact hRet hP hD hS dX8_finding_26
abbrev rm_X8_within : Room := { frames := 0, cells := 0, slots := 0, locals := 0 }
theorem hd_X8_within : yX8_within.cls ≠ "java/lang/invoke/MethodHandle" ∧ yX8_within.cls ≠ "java/lang/invoke/VarHandle" ∧ (parseMethodDescriptor yX8_within.desc).map (fun d => d.parameters.length) = some 3 := by decide +kernel
set_option maxHeartbeats 4000000 in
set_option maxRecDepth 100000 in
theorem c_X8_within {l : Launch} {G : va_G} {ca : Nat → ClassId} {ev : Nat → Nat}  {a0 : Int32} {a1 : Int32} {a2 : Int32} {res : Int32} (h : f_X8_within a0 a1 a2 = some res) : CtI l yX8_within wsX8_within rm_X8_within G ca ev [.int a0, .int a1, .int a2] [] [] res := by
  unfold f_X8_within at h
  refine en_z (by decide) rfl (Nat.le_of_ble_eq_true rfl) ?_
  intro p e s m args below meth c A Q H locs ls hx hb hml hown hts hA hP hK hD hE hS hl hRet
  have hown : s.vm.findClass RX8 = some m.cls := hown
  have hl : lv_has ls 3 [(0, .int a0), (1, .int a1), (2, .int a2)] := hl
  refine lv_iload_n hx hb dX8_within_0 rfl (lv_at hl 0 rfl) ?_
  refine lv_iload_n hx hb dX8_within_1 rfl (lv_at hl 1 rfl) ?_
  refine lv_icmp_lt (tgt := 14) hx hb dX8_within_2 (by decide) (fun c_1 => ?_) (fun c_1 => ?_)
  · have h := ifp c_1 h
    refine lv_iconst (v := (0 : Int32)) hx hb dX8_within_14 (by decide) ?_
    obtain rfl := Option.some.inj h
    exact hRet hP hD hS zb_0 dX8_within_15
  · have h := ifn c_1 h
    refine lv_iload_n hx hb dX8_within_5 rfl (lv_at hl 0 rfl) ?_
    refine lv_iload_n hx hb dX8_within_6 rfl (lv_at hl 2 rfl) ?_
    refine lv_icmp_gt (tgt := 14) hx hb dX8_within_7 (by decide) (fun c_2 => ?_) (fun c_2 => ?_)
    · have h := ifp c_2 h
      refine lv_iconst (v := (0 : Int32)) hx hb dX8_within_14 (by decide) ?_
      obtain rfl := Option.some.inj h
      exact hRet hP hD hS zb_0 dX8_within_15
    · have h := ifn c_2 h
      refine lv_iconst (v := (1 : Int32)) hx hb dX8_within_10 (by decide) ?_
      refine lv_goto (tgt := 15) hx hb dX8_within_11 (by decide) ?_
      obtain rfl := Option.some.inj h
      exact hRet hP hD hS zb_1 dX8_within_15
abbrev rm_X8_become : Room := { frames := 0, cells := 0, slots := 0, locals := 0 }
theorem hd_X8_become : yX8_become.cls = RX8 ∧ yX8_become.cls ≠ "java/lang/invoke/MethodHandle" ∧ yX8_become.cls ≠ "java/lang/invoke/VarHandle" ∧ (parseMethodDescriptor yX8_become.desc).map (fun d => d.parameters.length) = some 2 := by decide +kernel
set_option maxHeartbeats 4000000 in
set_option maxRecDepth 100000 in
theorem c_X8_become {l : Launch} {G : va_G} {ca : Nat → ClassId} {ev : Nat → Nat} {h0 h1 h2 h3 h4 h5 h6 h7 h8 h9 h10 h11 h12 h13 h14 h15 h16 h17 : Nat} {now : (Nat → Int32)} {kept : (Nat → Int32)} {isKept : Int32} {found : (Nat → Int32)} {order : (Nat → Int32)} {doubts : (Nat → Int32)} {doubtMany : Int32} {weights : (Nat → Int64)} {worn : (Nat → Int32)} {pairs : Int64} {isTwice : Int32} {doer : (Nat → Int32)} {doneTo : (Nat → Int32)} {doers : (Nat → Int64)} {tape : (Nat → Int32)} {taped : Int32} {begins : Int32} {ends : Int32} {sort : Int32} {value : Int32} {isWrong : Int32} {items : (Nat → Int32)} {itemMany : Int32} {bowThen : Int32} {doubtThen : Int32} {deedThen : Int32} {sayingThen : Int32} {widths : (Nat → Int32)} {sizes : (Nat → Int32)} {numbers : (Nat → Int64)} {moved : (Nat → Int64)} {a1 : Int32} {a2 : Int32} {res : Int32 × (Nat → Int32)} (h : f_X8_become now a1 a2 = some res) : CtI l yX8_become wsX8_become rm_X8_become G ca ev [.ref h0, .int a1, .int a2] (wM ca ev h0 h1 h2 h3 h4 h5 h6 h7 h8 h9 h10 h11 h12 h13 h14 h15 h16 h17 now kept isKept found order doubts doubtMany weights worn pairs isTwice doer doneTo doers tape taped begins ends sort value isWrong items itemMany bowThen doubtThen deedThen sayingThen widths sizes numbers moved) (wM ca ev h0 h1 h2 h3 h4 h5 h6 h7 h8 h9 h10 h11 h12 h13 h14 h15 h16 h17 res.2 kept isKept found order doubts doubtMany weights worn pairs isTwice doer doneTo doers tape taped begins ends sort value isWrong items itemMany bowThen doubtThen deedThen sayingThen widths sizes numbers moved) res.1 := by
  unfold f_X8_become at h
  refine en_i (by decide) rfl (Nat.le_of_ble_eq_true rfl) ?_
  intro p e s m args below meth c A Q H locs ls hx hb hml hown hts hA hP hK hD hE hS hl hRet
  have hown : s.vm.findClass RX8 = some m.cls := hown
  have hl : lv_has ls 4 [(0, .ref h0), (1, .int a1), (2, .int a2)] := hl
  have hin_X8 : ∀ w ∈ u_ws RX8 TX8 32, w ∈ wsX8_become := fun w h9 => List.mem_cons_of_mem _ (List.mem_append_right _ h9)
  have fk_9 := hts (.fieldLink RX8 9 "MaskBowsModel" "now" "[I") (by decide +kernel)
  refine lv_aload_n hx hb dX8_become_0 rfl (lv_at hl 0 rfl) ?_
  refine va_get (D := G) (ci := 8) (v := .ref h1) (C := RX8) (T := TX8) (N := 32) hx hb hts hin_X8 hown hK hP 0 rfl rfl 0 (by decide) fk_9 (fun _ h9 => h9) rfl dX8_become_1 ?_
  refine lv_iload_n hx hb dX8_become_4 rfl (lv_at hl 1 rfl) ?_
  obtain ⟨i_1, h⟩ := gd_some h
  refine va_iald hx hb hK hP 1 0 rfl rfl (ix_in i_1) dX8_become_5 ?_
  refine lv_istore_n (lv' := [(3, .int (now a1.toNatClampNeg)), (0, .ref h0), (1, .int a1), (2, .int a2)]) hx hb dX8_become_6 rfl hl (by decide) rfl (fun ls hl => ?_)
  refine lv_aload_n hx hb dX8_become_7 rfl (lv_at hl 1 rfl) ?_
  refine va_get (D := G) (ci := 8) (v := .ref h1) (C := RX8) (T := TX8) (N := 32) hx hb hts hin_X8 hown hK hP 0 rfl rfl 0 (by decide) fk_9 (fun _ h9 => h9) rfl dX8_become_8 ?_
  refine lv_iload_n hx hb dX8_become_11 rfl (lv_at hl 2 rfl) ?_
  refine lv_iload_n hx hb dX8_become_12 rfl (lv_at hl 3 rfl) ?_
  refine va_iast hx hb hK hP hD hS 1 0 rfl rfl (ix_in i_1) dX8_become_13 (fun H locs hP hD hS => ?_)
  have hP : va_P G vwCl (wM ca ev h0 h1 h2 h3 h4 h5 h6 h7 h8 h9 h10 h11 h12 h13 h14 h15 h16 h17 (upd now a1.toNatClampNeg a2) kept isKept found order doubts doubtMany weights worn pairs isTwice doer doneTo doers tape taped begins ends sort value isWrong items itemMany bowThen doubtThen deedThen sayingThen widths sizes numbers moved) H := hP
  have hD : va_D A (wM ca ev h0 h1 h2 h3 h4 h5 h6 h7 h8 h9 h10 h11 h12 h13 h14 h15 h16 h17 (upd now a1.toNatClampNeg a2) kept isKept found order doubts doubtMany weights worn pairs isTwice doer doneTo doers tape taped begins ends sort value isWrong items itemMany bowThen doubtThen deedThen sayingThen widths sizes numbers moved) := hD
  refine lv_iload_n hx hb dX8_become_14 rfl (lv_at hl 0 rfl) ?_
  obtain rfl := Option.some.inj h
  exact hRet hP hD hS dX8_become_15
abbrev rm_X8_isOne : Room := { frames := 1, cells := 0, slots := 0, locals := 22 }
theorem hd_X8_isOne : yX8_isOne.cls = RX8 ∧ yX8_isOne.cls ≠ "java/lang/invoke/MethodHandle" ∧ yX8_isOne.cls ≠ "java/lang/invoke/VarHandle" ∧ (parseMethodDescriptor yX8_isOne.desc).map (fun d => d.parameters.length) = some 1 := by decide +kernel
set_option maxHeartbeats 4000000 in
set_option maxRecDepth 100000 in
theorem c_X8_isOne {l : Launch} {G : va_G} {ca : Nat → ClassId} {ev : Nat → Nat} {h0 h1 h2 h3 h4 h5 h6 h7 h8 h9 h10 h11 h12 h13 h14 h15 h16 h17 : Nat} {now : (Nat → Int32)} {kept : (Nat → Int32)} {isKept : Int32} {found : (Nat → Int32)} {order : (Nat → Int32)} {doubts : (Nat → Int32)} {doubtMany : Int32} {weights : (Nat → Int64)} {worn : (Nat → Int32)} {pairs : Int64} {isTwice : Int32} {doer : (Nat → Int32)} {doneTo : (Nat → Int32)} {doers : (Nat → Int64)} {tape : (Nat → Int32)} {taped : Int32} {begins : Int32} {ends : Int32} {sort : Int32} {value : Int32} {isWrong : Int32} {items : (Nat → Int32)} {itemMany : Int32} {bowThen : Int32} {doubtThen : Int32} {deedThen : Int32} {sayingThen : Int32} {widths : (Nat → Int32)} {sizes : (Nat → Int32)} {numbers : (Nat → Int64)} {moved : (Nat → Int64)} {a1 : Int32} {res : Int32} (h : f_X8_isOne now a1 = some res) : CtI l yX8_isOne wsX8_isOne rm_X8_isOne G ca ev [.ref h0, .int a1] (wM ca ev h0 h1 h2 h3 h4 h5 h6 h7 h8 h9 h10 h11 h12 h13 h14 h15 h16 h17 now kept isKept found order doubts doubtMany weights worn pairs isTwice doer doneTo doers tape taped begins ends sort value isWrong items itemMany bowThen doubtThen deedThen sayingThen widths sizes numbers moved) (wM ca ev h0 h1 h2 h3 h4 h5 h6 h7 h8 h9 h10 h11 h12 h13 h14 h15 h16 h17 now kept isKept found order doubts doubtMany weights worn pairs isTwice doer doneTo doers tape taped begins ends sort value isWrong items itemMany bowThen doubtThen deedThen sayingThen widths sizes numbers moved) res := by
  unfold f_X8_isOne at h
  refine en_z (by decide) rfl (Nat.le_of_ble_eq_true rfl) ?_
  intro p e s m args below meth c A Q H locs ls hx hb hml hown hts hA hP hK hD hE hS hl hRet
  have hown : s.vm.findClass RX8 = some m.cls := hown
  have hl : lv_has ls 2 [(0, .ref h0), (1, .int a1)] := hl
  have hin_X8 : ∀ w ∈ u_ws RX8 TX8 32, w ∈ wsX8_isOne := fun w h9 => List.mem_cons_of_mem _ (List.mem_append_right _ h9)
  have fk_9 := hts (.fieldLink RX8 9 "MaskBowsModel" "now" "[I") (by decide +kernel)
  refine lv_iload_n hx hb dX8_isOne_0 rfl (lv_at hl 1 rfl) ?_
  refine lv_iconst (v := (0 : Int32)) hx hb dX8_isOne_1 (by decide) ?_
  refine lv_aload_n hx hb dX8_isOne_2 rfl (lv_at hl 0 rfl) ?_
  refine va_get (D := G) (ci := 8) (v := .ref h1) (C := RX8) (T := TX8) (N := 32) hx hb hts hin_X8 hown hK hP 0 rfl rfl 0 (by decide) fk_9 (fun _ h9 => h9) rfl dX8_isOne_3 ?_
  refine lv_iconst (v := (0 : Int32)) hx hb dX8_isOne_6 (by decide) ?_
  refine va_iald hx hb hK hP 1 0 rfl rfl (ix_in (by decide)) dX8_isOne_7 ?_
  refine lv_iconst (v := (1 : Int32)) hx hb dX8_isOne_8 (by decide) ?_
  refine lv_isub hx hb dX8_isOne_9 ?_
  obtain ⟨u_1, e_1, h⟩ := bd_some h
  refine cn_Si (As := [.int a1, .int (0 : Int32), .int ((now (0 : Int32).toNatClampNeg) - (1 : Int32))]) (rest := []) ⟨hx, hb, hml, hown, hts⟩ (c_X8_within e_1) (va_cwS 3 hts gX8_isOne_X8_within rfl rfl rfl hd_X8_within ⟨Nat.le_of_ble_eq_true rfl, Nat.le_of_ble_eq_true rfl⟩) hK hP hD hS hA hE rfl hl.1 rfl (Nat.le_of_ble_eq_true rfl) dX8_isOne_10 ⟨Nat.zero_le _, Nat.zero_le _⟩ (fun H locs hP hD hS => ?_)
  obtain ⟨z_2, h⟩ := gd_some h
  obtain rfl := Option.some.inj h
  exact hRet hP hD hS (isb_or z_2) dX8_isOne_13
abbrev rm_X8_isHour : Room := { frames := 1, cells := 0, slots := 0, locals := 22 }
theorem hd_X8_isHour : yX8_isHour.cls ≠ "java/lang/invoke/MethodHandle" ∧ yX8_isHour.cls ≠ "java/lang/invoke/VarHandle" ∧ (parseMethodDescriptor yX8_isHour.desc).map (fun d => d.parameters.length) = some 1 := by decide +kernel
set_option maxHeartbeats 4000000 in
set_option maxRecDepth 100000 in
theorem c_X8_isHour {l : Launch} {G : va_G} {ca : Nat → ClassId} {ev : Nat → Nat}  {a0 : Int32} {res : Int32} (h : f_X8_isHour a0 = some res) : CtI l yX8_isHour wsX8_isHour rm_X8_isHour G ca ev [.int a0] [] [] res := by
  unfold f_X8_isHour at h
  refine en_z (by decide) rfl (Nat.le_of_ble_eq_true rfl) ?_
  intro p e s m args below meth c A Q H locs ls hx hb hml hown hts hA hP hK hD hE hS hl hRet
  have hown : s.vm.findClass RX8 = some m.cls := hown
  have hl : lv_has ls 1 [(0, .int a0)] := hl
  refine lv_iload_n hx hb dX8_isHour_0 rfl (lv_at hl 0 rfl) ?_
  refine lv_iconst (v := (0 : Int32)) hx hb dX8_isHour_1 (by decide) ?_
  refine lv_bipush (v := (99 : Int32)) hx hb dX8_isHour_2 (by decide) ?_
  obtain ⟨u_1, e_1, h⟩ := bd_some h
  refine cn_Si (As := [.int a0, .int (0 : Int32), .int (99 : Int32)]) (rest := []) ⟨hx, hb, hml, hown, hts⟩ (c_X8_within e_1) (va_cwS 3 hts gX8_isHour_X8_within rfl rfl rfl hd_X8_within ⟨Nat.le_of_ble_eq_true rfl, Nat.le_of_ble_eq_true rfl⟩) hK hP hD hS hA hE rfl hl.1 rfl (Nat.le_of_ble_eq_true rfl) dX8_isHour_4 ⟨Nat.zero_le _, Nat.zero_le _⟩ (fun H locs hP hD hS => ?_)
  obtain ⟨z_2, h⟩ := gd_some h
  obtain rfl := Option.some.inj h
  exact hRet hP hD hS (isb_or z_2) dX8_isHour_7
abbrev rm_X8_areTwo : Room := { frames := 2, cells := 0, slots := 0, locals := 43 }
theorem hd_X8_areTwo : yX8_areTwo.cls = RX8 ∧ yX8_areTwo.cls ≠ "java/lang/invoke/MethodHandle" ∧ yX8_areTwo.cls ≠ "java/lang/invoke/VarHandle" ∧ (parseMethodDescriptor yX8_areTwo.desc).map (fun d => d.parameters.length) = some 2 := by decide +kernel
set_option maxHeartbeats 4000000 in
set_option maxRecDepth 100000 in
theorem c_X8_areTwo {l : Launch} {G : va_G} {ca : Nat → ClassId} {ev : Nat → Nat} {h0 h1 h2 h3 h4 h5 h6 h7 h8 h9 h10 h11 h12 h13 h14 h15 h16 h17 : Nat} {now : (Nat → Int32)} {kept : (Nat → Int32)} {isKept : Int32} {found : (Nat → Int32)} {order : (Nat → Int32)} {doubts : (Nat → Int32)} {doubtMany : Int32} {weights : (Nat → Int64)} {worn : (Nat → Int32)} {pairs : Int64} {isTwice : Int32} {doer : (Nat → Int32)} {doneTo : (Nat → Int32)} {doers : (Nat → Int64)} {tape : (Nat → Int32)} {taped : Int32} {begins : Int32} {ends : Int32} {sort : Int32} {value : Int32} {isWrong : Int32} {items : (Nat → Int32)} {itemMany : Int32} {bowThen : Int32} {doubtThen : Int32} {deedThen : Int32} {sayingThen : Int32} {widths : (Nat → Int32)} {sizes : (Nat → Int32)} {numbers : (Nat → Int64)} {moved : (Nat → Int64)} {a1 : Int32} {a2 : Int32} {res : Int32} (h : f_X8_areTwo now a1 a2 = some res) : CtI l yX8_areTwo wsX8_areTwo rm_X8_areTwo G ca ev [.ref h0, .int a1, .int a2] (wM ca ev h0 h1 h2 h3 h4 h5 h6 h7 h8 h9 h10 h11 h12 h13 h14 h15 h16 h17 now kept isKept found order doubts doubtMany weights worn pairs isTwice doer doneTo doers tape taped begins ends sort value isWrong items itemMany bowThen doubtThen deedThen sayingThen widths sizes numbers moved) (wM ca ev h0 h1 h2 h3 h4 h5 h6 h7 h8 h9 h10 h11 h12 h13 h14 h15 h16 h17 now kept isKept found order doubts doubtMany weights worn pairs isTwice doer doneTo doers tape taped begins ends sort value isWrong items itemMany bowThen doubtThen deedThen sayingThen widths sizes numbers moved) res := by
  unfold f_X8_areTwo at h
  refine en_z (by decide) rfl (Nat.le_of_ble_eq_true rfl) ?_
  intro p e s m args below meth c A Q H locs ls hx hb hml hown hts hA hP hK hD hE hS hl hRet
  have hown : s.vm.findClass RX8 = some m.cls := hown
  have hl : lv_has ls 3 [(0, .ref h0), (1, .int a1), (2, .int a2)] := hl
  refine lv_aload_n hx hb dX8_areTwo_0 rfl (lv_at hl 0 rfl) ?_
  refine lv_iload_n hx hb dX8_areTwo_1 rfl (lv_at hl 1 rfl) ?_
  obtain ⟨u_1, e_1, h⟩ := bd_some h
  refine cm_Vi (As := [.int a1]) (rest := []) ⟨hx, hb, hml, hown, hts⟩ (c_X8_isOne (ca := ca) (ev := ev) (h0 := h0) (h1 := h1) (h2 := h2) (h3 := h3) (h4 := h4) (h5 := h5) (h6 := h6) (h7 := h7) (h8 := h8) (h9 := h9) (h10 := h10) (h11 := h11) (h12 := h12) (h13 := h13) (h14 := h14) (h15 := h15) (h16 := h16) (h17 := h17) (now := now) (kept := kept) (isKept := isKept) (found := found) (order := order) (doubts := doubts) (doubtMany := doubtMany) (weights := weights) (worn := worn) (pairs := pairs) (isTwice := isTwice) (doer := doer) (doneTo := doneTo) (doers := doers) (tape := tape) (taped := taped) (begins := begins) (ends := ends) (sort := sort) (value := value) (isWrong := isWrong) (items := items) (itemMany := itemMany) (bowThen := bowThen) (doubtThen := doubtThen) (deedThen := deedThen) (sayingThen := sayingThen) (widths := widths) (sizes := sizes) (numbers := numbers) (moved := moved) e_1) (cwV 1 hts gX8_areTwo_X8_isOne rfl rfl rfl hd_X8_isOne ⟨Nat.le_of_ble_eq_true rfl, Nat.le_of_ble_eq_true rfl⟩) hK hP hD hS hA hE (q0 := 0) (ci := 8) rfl rfl rfl rfl hl.1 rfl (Nat.le_of_ble_eq_true rfl) dX8_areTwo_2 ⟨Nat.zero_le _, Nat.zero_le _⟩ (fun H locs hP hD hS => ?_)
  refine lv_if_eq (tgt := 25) hx hb dX8_areTwo_5 (by decide) (fun c_2 => ?_) (fun c_2 => ?_)
  · have h := ifp c_2 h
    refine lv_iconst (v := (0 : Int32)) hx hb dX8_areTwo_25 (by decide) ?_
    obtain rfl := Option.some.inj h
    exact hRet hP hD hS zb_0 dX8_areTwo_26
  · have h := ifn c_2 h
    refine lv_aload_n hx hb dX8_areTwo_8 rfl (lv_at hl 0 rfl) ?_
    refine lv_iload_n hx hb dX8_areTwo_9 rfl (lv_at hl 2 rfl) ?_
    obtain ⟨u_3, e_3, h⟩ := bd_some h
    refine cm_Vi (As := [.int a2]) (rest := []) ⟨hx, hb, hml, hown, hts⟩ (c_X8_isOne (ca := ca) (ev := ev) (h0 := h0) (h1 := h1) (h2 := h2) (h3 := h3) (h4 := h4) (h5 := h5) (h6 := h6) (h7 := h7) (h8 := h8) (h9 := h9) (h10 := h10) (h11 := h11) (h12 := h12) (h13 := h13) (h14 := h14) (h15 := h15) (h16 := h16) (h17 := h17) (now := now) (kept := kept) (isKept := isKept) (found := found) (order := order) (doubts := doubts) (doubtMany := doubtMany) (weights := weights) (worn := worn) (pairs := pairs) (isTwice := isTwice) (doer := doer) (doneTo := doneTo) (doers := doers) (tape := tape) (taped := taped) (begins := begins) (ends := ends) (sort := sort) (value := value) (isWrong := isWrong) (items := items) (itemMany := itemMany) (bowThen := bowThen) (doubtThen := doubtThen) (deedThen := deedThen) (sayingThen := sayingThen) (widths := widths) (sizes := sizes) (numbers := numbers) (moved := moved) e_3) (cwV 1 hts gX8_areTwo_X8_isOne rfl rfl rfl hd_X8_isOne ⟨Nat.le_of_ble_eq_true rfl, Nat.le_of_ble_eq_true rfl⟩) hK hP hD hS hA hE (q0 := 0) (ci := 8) rfl rfl rfl rfl hl.1 rfl (Nat.le_of_ble_eq_true rfl) dX8_areTwo_10 ⟨Nat.zero_le _, Nat.zero_le _⟩ (fun H locs hP hD hS => ?_)
    refine lv_if_eq (tgt := 25) hx hb dX8_areTwo_13 (by decide) (fun c_4 => ?_) (fun c_4 => ?_)
    · have h := ifp c_4 h
      refine lv_iconst (v := (0 : Int32)) hx hb dX8_areTwo_25 (by decide) ?_
      obtain rfl := Option.some.inj h
      exact hRet hP hD hS zb_0 dX8_areTwo_26
    · have h := ifn c_4 h
      refine lv_iload_n hx hb dX8_areTwo_16 rfl (lv_at hl 1 rfl) ?_
      refine lv_iload_n hx hb dX8_areTwo_17 rfl (lv_at hl 2 rfl) ?_
      refine lv_icmp_eq (tgt := 25) hx hb dX8_areTwo_18 (by decide) (fun c_5 => ?_) (fun c_5 => ?_)
      · have h := ifp c_5 h
        refine lv_iconst (v := (0 : Int32)) hx hb dX8_areTwo_25 (by decide) ?_
        obtain rfl := Option.some.inj h
        exact hRet hP hD hS zb_0 dX8_areTwo_26
      · have h := ifn c_5 h
        refine lv_iconst (v := (1 : Int32)) hx hb dX8_areTwo_21 (by decide) ?_
        refine lv_goto (tgt := 26) hx hb dX8_areTwo_22 (by decide) ?_
        obtain rfl := Option.some.inj h
        exact hRet hP hD hS zb_1 dX8_areTwo_26
abbrev rm_X8_people : Room := { frames := 1, cells := 0, slots := 0, locals := 23 }
theorem hd_X8_people : yX8_people.cls = RX8 ∧ yX8_people.cls ≠ "java/lang/invoke/MethodHandle" ∧ yX8_people.cls ≠ "java/lang/invoke/VarHandle" ∧ (parseMethodDescriptor yX8_people.desc).map (fun d => d.parameters.length) = some 1 := by decide +kernel
set_option maxHeartbeats 4000000 in
set_option maxRecDepth 100000 in
theorem c_X8_people {l : Launch} {G : va_G} {ca : Nat → ClassId} {ev : Nat → Nat} {h0 h1 h2 h3 h4 h5 h6 h7 h8 h9 h10 h11 h12 h13 h14 h15 h16 h17 : Nat} {now : (Nat → Int32)} {kept : (Nat → Int32)} {isKept : Int32} {found : (Nat → Int32)} {order : (Nat → Int32)} {doubts : (Nat → Int32)} {doubtMany : Int32} {weights : (Nat → Int64)} {worn : (Nat → Int32)} {pairs : Int64} {isTwice : Int32} {doer : (Nat → Int32)} {doneTo : (Nat → Int32)} {doers : (Nat → Int64)} {tape : (Nat → Int32)} {taped : Int32} {begins : Int32} {ends : Int32} {sort : Int32} {value : Int32} {isWrong : Int32} {items : (Nat → Int32)} {itemMany : Int32} {bowThen : Int32} {doubtThen : Int32} {deedThen : Int32} {sayingThen : Int32} {widths : (Nat → Int32)} {sizes : (Nat → Int32)} {numbers : (Nat → Int64)} {moved : (Nat → Int64)} {a1 : Int32} {res : Int32 × (Nat → Int32) × (Nat → Int32)} (h : f_X8_people now found a1 = some res) : CtI l yX8_people wsX8_people rm_X8_people G ca ev [.ref h0, .int a1] (wM ca ev h0 h1 h2 h3 h4 h5 h6 h7 h8 h9 h10 h11 h12 h13 h14 h15 h16 h17 now kept isKept found order doubts doubtMany weights worn pairs isTwice doer doneTo doers tape taped begins ends sort value isWrong items itemMany bowThen doubtThen deedThen sayingThen widths sizes numbers moved) (wM ca ev h0 h1 h2 h3 h4 h5 h6 h7 h8 h9 h10 h11 h12 h13 h14 h15 h16 h17 res.2.1 kept isKept res.2.2 order doubts doubtMany weights worn pairs isTwice doer doneTo doers tape taped begins ends sort value isWrong items itemMany bowThen doubtThen deedThen sayingThen widths sizes numbers moved) res.1 := by
  unfold f_X8_people at h
  refine en_i (by decide) rfl (Nat.le_of_ble_eq_true rfl) ?_
  intro p e s m args below meth c A Q H locs ls hx hb hml hown hts hA hP hK hD hE hS hl hRet
  have hown : s.vm.findClass RX8 = some m.cls := hown
  have hl : lv_has ls 2 [(0, .ref h0), (1, .int a1)] := hl
  have hin_X8 : ∀ w ∈ u_ws RX8 TX8 32, w ∈ wsX8_people := fun w h9 => List.mem_cons_of_mem _ (List.mem_append_right _ h9)
  have fk_9 := hts (.fieldLink RX8 9 "MaskBowsModel" "now" "[I") (by decide +kernel)
  refine lv_iload_n hx hb dX8_people_0 rfl (lv_at hl 1 rfl) ?_
  refine lv_iconst (v := (2 : Int32)) hx hb dX8_people_1 (by decide) ?_
  refine lv_bipush (v := (8 : Int32)) hx hb dX8_people_2 (by decide) ?_
  obtain ⟨u_1, e_1, h⟩ := bd_some h
  refine cn_Si (As := [.int a1, .int (2 : Int32), .int (8 : Int32)]) (rest := []) ⟨hx, hb, hml, hown, hts⟩ (c_X8_within e_1) (va_cwS 3 hts gX8_people_X8_within rfl rfl rfl hd_X8_within ⟨Nat.le_of_ble_eq_true rfl, Nat.le_of_ble_eq_true rfl⟩) hK hP hD hS hA hE rfl hl.1 rfl (Nat.le_of_ble_eq_true rfl) dX8_people_4 ⟨Nat.zero_le _, Nat.zero_le _⟩ (fun H locs hP hD hS => ?_)
  refine lv_if_ne (tgt := 17) hx hb dX8_people_7 (by decide) (fun c_2 => ?_) (fun c_2 => ?_)
  · have h := ifn c_2 h
    refine lv_aload_n hx hb dX8_people_17 rfl (lv_at hl 0 rfl) ?_
    refine va_get (D := G) (ci := 8) (v := .ref h1) (C := RX8) (T := TX8) (N := 32) hx hb hts hin_X8 hown hK hP 0 rfl rfl 0 (by decide) fk_9 (fun _ h9 => h9) rfl dX8_people_18 ?_
    refine lv_iconst (v := (3 : Int32)) hx hb dX8_people_21 (by decide) ?_
    refine va_iald hx hb hK hP 1 0 rfl rfl (ix_in (by decide)) dX8_people_22 ?_
    refine lv_aload_n hx hb dX8_people_23 rfl (lv_at hl 0 rfl) ?_
    refine va_get (D := G) (ci := 8) (v := .ref h1) (C := RX8) (T := TX8) (N := 32) hx hb hts hin_X8 hown hK hP 0 rfl rfl 0 (by decide) fk_9 (fun _ h9 => h9) rfl dX8_people_24 ?_
    refine lv_iconst (v := (4 : Int32)) hx hb dX8_people_27 (by decide) ?_
    refine va_iald hx hb hK hP 1 0 rfl rfl (ix_in (by decide)) dX8_people_28 ?_
    refine lv_iadd hx hb dX8_people_29 ?_
    refine lv_aload_n hx hb dX8_people_30 rfl (lv_at hl 0 rfl) ?_
    refine va_get (D := G) (ci := 8) (v := .ref h1) (C := RX8) (T := TX8) (N := 32) hx hb hts hin_X8 hown hK hP 0 rfl rfl 0 (by decide) fk_9 (fun _ h9 => h9) rfl dX8_people_31 ?_
    refine lv_iconst (v := (5 : Int32)) hx hb dX8_people_34 (by decide) ?_
    refine va_iald hx hb hK hP 1 0 rfl rfl (ix_in (by decide)) dX8_people_35 ?_
    refine lv_iadd hx hb dX8_people_36 ?_
    refine lv_if_le (tgt := 49) hx hb dX8_people_37 (by decide) (fun c_3 => ?_) (fun c_3 => ?_)
    · have h := ifp c_3 h
      refine lv_aload_n hx hb dX8_people_49 rfl (lv_at hl 0 rfl) ?_
      refine lv_iconst (v := (0 : Int32)) hx hb dX8_people_50 (by decide) ?_
      refine lv_iload_n hx hb dX8_people_51 rfl (lv_at hl 1 rfl) ?_
      obtain ⟨u_4, e_4, h⟩ := bd_some h
      refine cm_Vi (As := [.int (0 : Int32), .int a1]) (rest := []) ⟨hx, hb, hml, hown, hts⟩ (c_X8_become (ca := ca) (ev := ev) (h0 := h0) (h1 := h1) (h2 := h2) (h3 := h3) (h4 := h4) (h5 := h5) (h6 := h6) (h7 := h7) (h8 := h8) (h9 := h9) (h10 := h10) (h11 := h11) (h12 := h12) (h13 := h13) (h14 := h14) (h15 := h15) (h16 := h16) (h17 := h17) (now := now) (kept := kept) (isKept := isKept) (found := found) (order := order) (doubts := doubts) (doubtMany := doubtMany) (weights := weights) (worn := worn) (pairs := pairs) (isTwice := isTwice) (doer := doer) (doneTo := doneTo) (doers := doers) (tape := tape) (taped := taped) (begins := begins) (ends := ends) (sort := sort) (value := value) (isWrong := isWrong) (items := items) (itemMany := itemMany) (bowThen := bowThen) (doubtThen := doubtThen) (deedThen := deedThen) (sayingThen := sayingThen) (widths := widths) (sizes := sizes) (numbers := numbers) (moved := moved) e_4) (cwV 2 hts gX8_people_X8_become rfl rfl rfl hd_X8_become ⟨Nat.le_of_ble_eq_true rfl, Nat.le_of_ble_eq_true rfl⟩) hK hP hD hS hA hE (q0 := 0) (ci := 8) rfl rfl rfl rfl hl.1 rfl (Nat.le_of_ble_eq_true rfl) dX8_people_52 ⟨Nat.zero_le _, Nat.zero_le _⟩ (fun H locs hP hD hS => ?_)
      obtain rfl := Option.some.inj h
      exact hRet hP hD hS dX8_people_55
    · have h := ifn c_3 h
      refine lv_aload_n hx hb dX8_people_40 rfl (lv_at hl 0 rfl) ?_
      refine lv_ldc (v := (-1000000005 : Int32)) hx hb hown (hts (.constant RX8 90 (-1000000005)) (by decide +kernel)) dX8_people_41 ?_
      obtain ⟨u_5, e_5, h⟩ := bd_some h
      refine cm_Vi (As := [.int (-1000000005 : Int32)]) (rest := []) ⟨hx, hb, hml, hown, hts⟩ (c_X8_finding (ca := ca) (ev := ev) (h0 := h0) (h1 := h1) (h2 := h2) (h3 := h3) (h4 := h4) (h5 := h5) (h6 := h6) (h7 := h7) (h8 := h8) (h9 := h9) (h10 := h10) (h11 := h11) (h12 := h12) (h13 := h13) (h14 := h14) (h15 := h15) (h16 := h16) (h17 := h17) (now := now) (kept := kept) (isKept := isKept) (found := found) (order := order) (doubts := doubts) (doubtMany := doubtMany) (weights := weights) (worn := worn) (pairs := pairs) (isTwice := isTwice) (doer := doer) (doneTo := doneTo) (doers := doers) (tape := tape) (taped := taped) (begins := begins) (ends := ends) (sort := sort) (value := value) (isWrong := isWrong) (items := items) (itemMany := itemMany) (bowThen := bowThen) (doubtThen := doubtThen) (deedThen := deedThen) (sayingThen := sayingThen) (widths := widths) (sizes := sizes) (numbers := numbers) (moved := moved) e_5) (cwV 1 hts gX8_people_X8_finding rfl rfl rfl hd_X8_finding ⟨Nat.le_of_ble_eq_true rfl, Nat.le_of_ble_eq_true rfl⟩) hK hP hD hS hA hE (q0 := 0) (ci := 8) rfl rfl rfl rfl hl.1 rfl (Nat.le_of_ble_eq_true rfl) dX8_people_43 ⟨Nat.zero_le _, Nat.zero_le _⟩ (fun H locs hP hD hS => ?_)
      refine lv_goto (tgt := 55) hx hb dX8_people_46 (by decide) ?_
      obtain rfl := Option.some.inj h
      exact hRet hP hD hS dX8_people_55
  · have h := ifp c_2 h
    refine lv_aload_n hx hb dX8_people_10 rfl (lv_at hl 0 rfl) ?_
    refine lv_ldc (v := (-1000000001 : Int32)) hx hb hown (hts (.constant RX8 77 (-1000000001)) (by decide +kernel)) dX8_people_11 ?_
    obtain ⟨u_6, e_6, h⟩ := bd_some h
    refine cm_Vi (As := [.int (-1000000001 : Int32)]) (rest := []) ⟨hx, hb, hml, hown, hts⟩ (c_X8_finding (ca := ca) (ev := ev) (h0 := h0) (h1 := h1) (h2 := h2) (h3 := h3) (h4 := h4) (h5 := h5) (h6 := h6) (h7 := h7) (h8 := h8) (h9 := h9) (h10 := h10) (h11 := h11) (h12 := h12) (h13 := h13) (h14 := h14) (h15 := h15) (h16 := h16) (h17 := h17) (now := now) (kept := kept) (isKept := isKept) (found := found) (order := order) (doubts := doubts) (doubtMany := doubtMany) (weights := weights) (worn := worn) (pairs := pairs) (isTwice := isTwice) (doer := doer) (doneTo := doneTo) (doers := doers) (tape := tape) (taped := taped) (begins := begins) (ends := ends) (sort := sort) (value := value) (isWrong := isWrong) (items := items) (itemMany := itemMany) (bowThen := bowThen) (doubtThen := doubtThen) (deedThen := deedThen) (sayingThen := sayingThen) (widths := widths) (sizes := sizes) (numbers := numbers) (moved := moved) e_6) (cwV 1 hts gX8_people_X8_finding rfl rfl rfl hd_X8_finding ⟨Nat.le_of_ble_eq_true rfl, Nat.le_of_ble_eq_true rfl⟩) hK hP hD hS hA hE (q0 := 0) (ci := 8) rfl rfl rfl rfl hl.1 rfl (Nat.le_of_ble_eq_true rfl) dX8_people_13 ⟨Nat.zero_le _, Nat.zero_le _⟩ (fun H locs hP hD hS => ?_)
    obtain rfl := Option.some.inj h
    exact hRet hP hD hS dX8_people_16
abbrev rm_X8_bowIs : Room := { frames := 0, cells := 0, slots := 0, locals := 0 }
theorem hd_X8_bowIs : yX8_bowIs.cls = RX8 ∧ yX8_bowIs.cls ≠ "java/lang/invoke/MethodHandle" ∧ yX8_bowIs.cls ≠ "java/lang/invoke/VarHandle" ∧ (parseMethodDescriptor yX8_bowIs.desc).map (fun d => d.parameters.length) = some 2 := by decide +kernel
set_option maxHeartbeats 4000000 in
set_option maxRecDepth 100000 in
theorem c_X8_bowIs {l : Launch} {G : va_G} {ca : Nat → ClassId} {ev : Nat → Nat} {h0 h1 h2 h3 h4 h5 h6 h7 h8 h9 h10 h11 h12 h13 h14 h15 h16 h17 : Nat} {now : (Nat → Int32)} {kept : (Nat → Int32)} {isKept : Int32} {found : (Nat → Int32)} {order : (Nat → Int32)} {doubts : (Nat → Int32)} {doubtMany : Int32} {weights : (Nat → Int64)} {worn : (Nat → Int32)} {pairs : Int64} {isTwice : Int32} {doer : (Nat → Int32)} {doneTo : (Nat → Int32)} {doers : (Nat → Int64)} {tape : (Nat → Int32)} {taped : Int32} {begins : Int32} {ends : Int32} {sort : Int32} {value : Int32} {isWrong : Int32} {items : (Nat → Int32)} {itemMany : Int32} {bowThen : Int32} {doubtThen : Int32} {deedThen : Int32} {sayingThen : Int32} {widths : (Nat → Int32)} {sizes : (Nat → Int32)} {numbers : (Nat → Int64)} {moved : (Nat → Int64)} {a1 : Int32} {a2 : Int32} {res : Int32} (h : f_X8_bowIs now a1 a2 = some res) : CtI l yX8_bowIs wsX8_bowIs rm_X8_bowIs G ca ev [.ref h0, .int a1, .int a2] (wM ca ev h0 h1 h2 h3 h4 h5 h6 h7 h8 h9 h10 h11 h12 h13 h14 h15 h16 h17 now kept isKept found order doubts doubtMany weights worn pairs isTwice doer doneTo doers tape taped begins ends sort value isWrong items itemMany bowThen doubtThen deedThen sayingThen widths sizes numbers moved) (wM ca ev h0 h1 h2 h3 h4 h5 h6 h7 h8 h9 h10 h11 h12 h13 h14 h15 h16 h17 now kept isKept found order doubts doubtMany weights worn pairs isTwice doer doneTo doers tape taped begins ends sort value isWrong items itemMany bowThen doubtThen deedThen sayingThen widths sizes numbers moved) res := by
  unfold f_X8_bowIs at h
  refine en_i (by decide) rfl (Nat.le_of_ble_eq_true rfl) ?_
  intro p e s m args below meth c A Q H locs ls hx hb hml hown hts hA hP hK hD hE hS hl hRet
  have hown : s.vm.findClass RX8 = some m.cls := hown
  have hl : lv_has ls 3 [(0, .ref h0), (1, .int a1), (2, .int a2)] := hl
  have hin_X8 : ∀ w ∈ u_ws RX8 TX8 32, w ∈ wsX8_bowIs := fun w h9 => List.mem_cons_of_mem _ (List.mem_append_right _ h9)
  have fk_9 := hts (.fieldLink RX8 9 "MaskBowsModel" "now" "[I") (by decide +kernel)
  refine lv_aload_n hx hb dX8_bowIs_0 rfl (lv_at hl 0 rfl) ?_
  refine va_get (D := G) (ci := 8) (v := .ref h1) (C := RX8) (T := TX8) (N := 32) hx hb hts hin_X8 hown hK hP 0 rfl rfl 0 (by decide) fk_9 (fun _ h9 => h9) rfl dX8_bowIs_1 ?_
  refine lv_bipush (v := (6 : Int32)) hx hb dX8_bowIs_4 (by decide) ?_
  refine lv_iconst (v := (4 : Int32)) hx hb dX8_bowIs_6 (by decide) ?_
  refine lv_iload_n hx hb dX8_bowIs_7 rfl (lv_at hl 1 rfl) ?_
  refine lv_imul hx hb dX8_bowIs_8 ?_
  refine lv_iadd hx hb dX8_bowIs_9 ?_
  refine lv_iload_n hx hb dX8_bowIs_10 rfl (lv_at hl 2 rfl) ?_
  refine lv_iadd hx hb dX8_bowIs_11 ?_
  obtain ⟨i_1, h⟩ := gd_some h
  refine va_iald hx hb hK hP 1 0 rfl rfl (ix_in i_1) dX8_bowIs_12 ?_
  obtain rfl := Option.some.inj h
  exact hRet hP hD hS dX8_bowIs_13
abbrev rm_X8_isBow : Room := { frames := 1, cells := 0, slots := 0, locals := 22 }
theorem hd_X8_isBow : yX8_isBow.cls = RX8 ∧ yX8_isBow.cls ≠ "java/lang/invoke/MethodHandle" ∧ yX8_isBow.cls ≠ "java/lang/invoke/VarHandle" ∧ (parseMethodDescriptor yX8_isBow.desc).map (fun d => d.parameters.length) = some 1 := by decide +kernel
set_option maxHeartbeats 4000000 in
set_option maxRecDepth 100000 in
theorem c_X8_isBow {l : Launch} {G : va_G} {ca : Nat → ClassId} {ev : Nat → Nat} {h0 h1 h2 h3 h4 h5 h6 h7 h8 h9 h10 h11 h12 h13 h14 h15 h16 h17 : Nat} {now : (Nat → Int32)} {kept : (Nat → Int32)} {isKept : Int32} {found : (Nat → Int32)} {order : (Nat → Int32)} {doubts : (Nat → Int32)} {doubtMany : Int32} {weights : (Nat → Int64)} {worn : (Nat → Int32)} {pairs : Int64} {isTwice : Int32} {doer : (Nat → Int32)} {doneTo : (Nat → Int32)} {doers : (Nat → Int64)} {tape : (Nat → Int32)} {taped : Int32} {begins : Int32} {ends : Int32} {sort : Int32} {value : Int32} {isWrong : Int32} {items : (Nat → Int32)} {itemMany : Int32} {bowThen : Int32} {doubtThen : Int32} {deedThen : Int32} {sayingThen : Int32} {widths : (Nat → Int32)} {sizes : (Nat → Int32)} {numbers : (Nat → Int64)} {moved : (Nat → Int64)} {a1 : Int32} {res : Int32} (h : f_X8_isBow now a1 = some res) : CtI l yX8_isBow wsX8_isBow rm_X8_isBow G ca ev [.ref h0, .int a1] (wM ca ev h0 h1 h2 h3 h4 h5 h6 h7 h8 h9 h10 h11 h12 h13 h14 h15 h16 h17 now kept isKept found order doubts doubtMany weights worn pairs isTwice doer doneTo doers tape taped begins ends sort value isWrong items itemMany bowThen doubtThen deedThen sayingThen widths sizes numbers moved) (wM ca ev h0 h1 h2 h3 h4 h5 h6 h7 h8 h9 h10 h11 h12 h13 h14 h15 h16 h17 now kept isKept found order doubts doubtMany weights worn pairs isTwice doer doneTo doers tape taped begins ends sort value isWrong items itemMany bowThen doubtThen deedThen sayingThen widths sizes numbers moved) res := by
  unfold f_X8_isBow at h
  refine en_z (by decide) rfl (Nat.le_of_ble_eq_true rfl) ?_
  intro p e s m args below meth c A Q H locs ls hx hb hml hown hts hA hP hK hD hE hS hl hRet
  have hown : s.vm.findClass RX8 = some m.cls := hown
  have hl : lv_has ls 2 [(0, .ref h0), (1, .int a1)] := hl
  have hin_X8 : ∀ w ∈ u_ws RX8 TX8 32, w ∈ wsX8_isBow := fun w h9 => List.mem_cons_of_mem _ (List.mem_append_right _ h9)
  have fk_9 := hts (.fieldLink RX8 9 "MaskBowsModel" "now" "[I") (by decide +kernel)
  refine lv_iload_n hx hb dX8_isBow_0 rfl (lv_at hl 1 rfl) ?_
  refine lv_iconst (v := (0 : Int32)) hx hb dX8_isBow_1 (by decide) ?_
  refine lv_aload_n hx hb dX8_isBow_2 rfl (lv_at hl 0 rfl) ?_
  refine va_get (D := G) (ci := 8) (v := .ref h1) (C := RX8) (T := TX8) (N := 32) hx hb hts hin_X8 hown hK hP 0 rfl rfl 0 (by decide) fk_9 (fun _ h9 => h9) rfl dX8_isBow_3 ?_
  refine lv_iconst (v := (3 : Int32)) hx hb dX8_isBow_6 (by decide) ?_
  refine va_iald hx hb hK hP 1 0 rfl rfl (ix_in (by decide)) dX8_isBow_7 ?_
  refine lv_iconst (v := (1 : Int32)) hx hb dX8_isBow_8 (by decide) ?_
  refine lv_isub hx hb dX8_isBow_9 ?_
  obtain ⟨u_1, e_1, h⟩ := bd_some h
  refine cn_Si (As := [.int a1, .int (0 : Int32), .int ((now (3 : Int32).toNatClampNeg) - (1 : Int32))]) (rest := []) ⟨hx, hb, hml, hown, hts⟩ (c_X8_within e_1) (va_cwS 3 hts gX8_isBow_X8_within rfl rfl rfl hd_X8_within ⟨Nat.le_of_ble_eq_true rfl, Nat.le_of_ble_eq_true rfl⟩) hK hP hD hS hA hE rfl hl.1 rfl (Nat.le_of_ble_eq_true rfl) dX8_isBow_10 ⟨Nat.zero_le _, Nat.zero_le _⟩ (fun H locs hP hD hS => ?_)
  obtain ⟨z_2, h⟩ := gd_some h
  obtain rfl := Option.some.inj h
  exact hRet hP hD hS (isb_or z_2) dX8_isBow_13
abbrev rm_X8_doubtedOnes : Room := { frames := 1, cells := 0, slots := 0, locals := 22 }
theorem hd_X8_doubtedOnes : yX8_doubtedOnes.cls = RX8 ∧ yX8_doubtedOnes.cls ≠ "java/lang/invoke/MethodHandle" ∧ yX8_doubtedOnes.cls ≠ "java/lang/invoke/VarHandle" ∧ (parseMethodDescriptor yX8_doubtedOnes.desc).map (fun d => d.parameters.length) = some 0 := by decide +kernel
set_option maxHeartbeats 4000000 in
set_option maxRecDepth 100000 in
theorem c_X8_doubtedOnes {l : Launch} {G : va_G} {ca : Nat → ClassId} {ev : Nat → Nat} {h0 h1 h2 h3 h4 h5 h6 h7 h8 h9 h10 h11 h12 h13 h14 h15 h16 h17 : Nat} {now : (Nat → Int32)} {kept : (Nat → Int32)} {isKept : Int32} {found : (Nat → Int32)} {order : (Nat → Int32)} {doubts : (Nat → Int32)} {doubtMany : Int32} {weights : (Nat → Int64)} {worn : (Nat → Int32)} {pairs : Int64} {isTwice : Int32} {doer : (Nat → Int32)} {doneTo : (Nat → Int32)} {doers : (Nat → Int64)} {tape : (Nat → Int32)} {taped : Int32} {begins : Int32} {ends : Int32} {sort : Int32} {value : Int32} {isWrong : Int32} {items : (Nat → Int32)} {itemMany : Int32} {bowThen : Int32} {doubtThen : Int32} {deedThen : Int32} {sayingThen : Int32} {widths : (Nat → Int32)} {sizes : (Nat → Int32)} {numbers : (Nat → Int64)} {moved : (Nat → Int64)}  {N : Nat} {res : Int32} (h : f_X8_doubtedOnes N now = some res) : CtI l yX8_doubtedOnes wsX8_doubtedOnes rm_X8_doubtedOnes G ca ev [.ref h0] (wM ca ev h0 h1 h2 h3 h4 h5 h6 h7 h8 h9 h10 h11 h12 h13 h14 h15 h16 h17 now kept isKept found order doubts doubtMany weights worn pairs isTwice doer doneTo doers tape taped begins ends sort value isWrong items itemMany bowThen doubtThen deedThen sayingThen widths sizes numbers moved) (wM ca ev h0 h1 h2 h3 h4 h5 h6 h7 h8 h9 h10 h11 h12 h13 h14 h15 h16 h17 now kept isKept found order doubts doubtMany weights worn pairs isTwice doer doneTo doers tape taped begins ends sort value isWrong items itemMany bowThen doubtThen deedThen sayingThen widths sizes numbers moved) res := by
  unfold f_X8_doubtedOnes at h
  refine en_i (by decide) rfl (Nat.le_of_ble_eq_true rfl) ?_
  intro p e s m args below meth c A Q H locs ls hx hb hml hown hts hA hP hK hD hE hS hl hRet
  have hown : s.vm.findClass RX8 = some m.cls := hown
  have hl : lv_has ls 3 [(0, .ref h0)] := hl
  have hin_X8 : ∀ w ∈ u_ws RX8 TX8 32, w ∈ wsX8_doubtedOnes := fun w h9 => List.mem_cons_of_mem _ (List.mem_append_right _ h9)
  have fk_9 := hts (.fieldLink RX8 9 "MaskBowsModel" "now" "[I") (by decide +kernel)
  refine lv_iconst (v := (0 : Int32)) hx hb dX8_doubtedOnes_0 (by decide) ?_
  refine lv_istore_n (lv' := [(1, .int (0 : Int32)), (0, .ref h0)]) hx hb dX8_doubtedOnes_1 rfl hl (by decide) rfl (fun ls hl => ?_)
  refine lv_iconst (v := (0 : Int32)) hx hb dX8_doubtedOnes_2 (by decide) ?_
  refine lv_istore_n (lv' := [(2, .int (0 : Int32)), (1, .int (0 : Int32)), (0, .ref h0)]) hx hb dX8_doubtedOnes_3 rfl hl (by decide) rfl (fun ls hl => ?_)
  have L_4 : ∀  {now_4 : (Nat → Int32)} (n_4 : Nat) {x1_4 : Int32} {x2_4 : Int32} {uL_4 : Int32} {H : Heap} {locs : List Loc} {ls : Array Slot}, f_X8_doubtedOnes_4 now_4  n_4 x1_4 x2_4 = some uL_4 → va_P G vwCl (wM ca ev h0 h1 h2 h3 h4 h5 h6 h7 h8 h9 h10 h11 h12 h13 h14 h15 h16 h17 now_4 kept isKept found order doubts doubtMany weights worn pairs isTwice doer doneTo doers tape taped begins ends sort value isWrong items itemMany bowThen doubtThen deedThen sayingThen widths sizes numbers moved) H → va_D A (wM ca ev h0 h1 h2 h3 h4 h5 h6 h7 h8 h9 h10 h11 h12 h13 h14 h15 h16 h17 now_4 kept isKept found order doubts doubtMany weights worn pairs isTwice doer doneTo doers tape taped begins ends sort value isWrong items itemMany bowThen doubtThen deedThen sayingThen widths sizes numbers moved) → va_S A s.heap H locs → lv_has ls 3 [(0, .ref h0), (1, .int x1_4), (2, .int x2_4)] → (∀ {H : Heap} {locs : List Loc} {ls : Array Slot}, va_P G vwCl (wM ca ev h0 h1 h2 h3 h4 h5 h6 h7 h8 h9 h10 h11 h12 h13 h14 h15 h16 h17 now_4 kept isKept found order doubts doubtMany weights worn pairs isTwice doer doneTo doers tape taped begins ends sort value isWrong items itemMany bowThen doubtThen deedThen sayingThen widths sizes numbers moved) H → va_D A (wM ca ev h0 h1 h2 h3 h4 h5 h6 h7 h8 h9 h10 h11 h12 h13 h14 h15 h16 h17 now_4 kept isKept found order doubts doubtMany weights worn pairs isTwice doer doneTo doers tape taped begins ends sort value isWrong items itemMany bowThen doubtThen deedThen sayingThen widths sizes numbers moved) → va_S A s.heap H locs → lv_has ls 3 [(1, .int uL_4)] → W p l e rm_X8_doubtedOnes s m args below meth c H locs 0 0 Q (F0 m 39 ls [])) → W p l e rm_X8_doubtedOnes s m args below meth c H locs 0 0 Q (F0 m 4 ls []) := by
    intro now_4 n_4
    induction n_4 with
    | zero => intro x1_4 x2_4 uL_4 H locs ls h; exact absurd h (by rw [f_X8_doubtedOnes_4]; exact fun z => nomatch z)
    | succ n_4 ih =>
      intro x1_4 x2_4 uL_4 H locs ls h hP hD hS hl JK_4
      rw [f_X8_doubtedOnes_4] at h
      refine lv_iload_n hx hb dX8_doubtedOnes_4 rfl (lv_at hl 2 rfl) ?_
      refine lv_aload_n hx hb dX8_doubtedOnes_5 rfl (lv_at hl 0 rfl) ?_
      refine va_get (D := G) (ci := 8) (v := .ref h1) (C := RX8) (T := TX8) (N := 32) hx hb hts hin_X8 hown hK hP 0 rfl rfl 0 (by decide) fk_9 (fun _ h9 => h9) rfl dX8_doubtedOnes_6 ?_
      refine lv_iconst (v := (3 : Int32)) hx hb dX8_doubtedOnes_9 (by decide) ?_
      refine va_iald hx hb hK hP 1 0 rfl rfl (ix_in (by decide)) dX8_doubtedOnes_10 ?_
      refine lv_icmp_ge (tgt := 39) hx hb dX8_doubtedOnes_11 (by decide) (fun c_1 => ?_) (fun c_1 => ?_)
      · have h := ifp c_1 h
        obtain rfl := Option.some.inj h
        exact JK_4 hP hD hS (lv_sub hl [1] rfl)
      · have h := ifn c_1 h
        refine lv_iload_n hx hb dX8_doubtedOnes_14 rfl (lv_at hl 1 rfl) ?_
        refine lv_aload_n hx hb dX8_doubtedOnes_15 rfl (lv_at hl 0 rfl) ?_
        refine lv_iload_n hx hb dX8_doubtedOnes_16 rfl (lv_at hl 2 rfl) ?_
        refine lv_iconst (v := (3 : Int32)) hx hb dX8_doubtedOnes_17 (by decide) ?_
        obtain ⟨u_2, e_2, h⟩ := bd_some h
        refine cm_Vi (As := [.int x2_4, .int (3 : Int32)]) (rest := [.int x1_4]) ⟨hx, hb, hml, hown, hts⟩ (c_X8_bowIs (ca := ca) (ev := ev) (h0 := h0) (h1 := h1) (h2 := h2) (h3 := h3) (h4 := h4) (h5 := h5) (h6 := h6) (h7 := h7) (h8 := h8) (h9 := h9) (h10 := h10) (h11 := h11) (h12 := h12) (h13 := h13) (h14 := h14) (h15 := h15) (h16 := h16) (h17 := h17) (now := now_4) (kept := kept) (isKept := isKept) (found := found) (order := order) (doubts := doubts) (doubtMany := doubtMany) (weights := weights) (worn := worn) (pairs := pairs) (isTwice := isTwice) (doer := doer) (doneTo := doneTo) (doers := doers) (tape := tape) (taped := taped) (begins := begins) (ends := ends) (sort := sort) (value := value) (isWrong := isWrong) (items := items) (itemMany := itemMany) (bowThen := bowThen) (doubtThen := doubtThen) (deedThen := deedThen) (sayingThen := sayingThen) (widths := widths) (sizes := sizes) (numbers := numbers) (moved := moved) e_2) (cwV 2 hts gX8_doubtedOnes_X8_bowIs rfl rfl rfl hd_X8_bowIs ⟨Nat.le_of_ble_eq_true rfl, Nat.le_of_ble_eq_true rfl⟩) hK hP hD hS hA hE (q0 := 0) (ci := 8) rfl rfl rfl rfl hl.1 rfl (Nat.le_of_ble_eq_true rfl) dX8_doubtedOnes_18 ⟨Nat.zero_le _, Nat.zero_le _⟩ (fun H locs hP hD hS => ?_)
        refine lv_bipush (v := (10 : Int32)) hx hb dX8_doubtedOnes_21 (by decide) ?_
        obtain ⟨u_3, e_3, h⟩ := bd_some h
        have J_3 : ∀ {H : Heap} {locs : List Loc} {ls : Array Slot}, va_P G vwCl (wM ca ev h0 h1 h2 h3 h4 h5 h6 h7 h8 h9 h10 h11 h12 h13 h14 h15 h16 h17 now_4 kept isKept found order doubts doubtMany weights worn pairs isTwice doer doneTo doers tape taped begins ends sort value isWrong items itemMany bowThen doubtThen deedThen sayingThen widths sizes numbers moved) H → va_D A (wM ca ev h0 h1 h2 h3 h4 h5 h6 h7 h8 h9 h10 h11 h12 h13 h14 h15 h16 h17 now_4 kept isKept found order doubts doubtMany weights worn pairs isTwice doer doneTo doers tape taped begins ends sort value isWrong items itemMany bowThen doubtThen deedThen sayingThen widths sizes numbers moved) → va_S A s.heap H locs → lv_has ls 3 [(0, .ref h0), (2, .int x2_4)] → (u_3 = 0 ∨ u_3 = 1) → W p l e rm_X8_doubtedOnes s m args below meth c H locs 0 0 Q (F0 m 31 ls [.int u_3, .int x1_4]) := by
          intro H locs ls hP hD hS hl zj_3_0
          refine lv_iadd hx hb dX8_doubtedOnes_31 ?_
          refine lv_istore_n (lv' := [(1, .int (x1_4 + u_3)), (0, .ref h0), (2, .int x2_4)]) hx hb dX8_doubtedOnes_32 rfl hl (by decide) rfl (fun ls hl => ?_)
          refine lv_iinc (v := (x2_4 + (1 : Int32))) (lv' := [(2, .int (x2_4 + (1 : Int32))), (1, .int (x1_4 + u_3)), (0, .ref h0)]) hx hb dX8_doubtedOnes_33 hl (k := 2) rfl rfl (by decide) rfl (fun ls hl => ?_)
          refine lv_goto (tgt := 4) hx hb dX8_doubtedOnes_36 (by decide) ?_
          exact ih h hP hD hS (lv_sub hl [2, 1, 0] rfl) JK_4
        have h := e_3
        clear e_3
        refine lv_icmp_ge (tgt := 30) hx hb dX8_doubtedOnes_23 (by decide) (fun c_3 => ?_) (fun c_3 => ?_)
        · have h := ifp c_3 h
          refine lv_iconst (v := (0 : Int32)) hx hb dX8_doubtedOnes_30 (by decide) ?_
          obtain rfl := Option.some.inj h
          exact J_3 hP hD hS (lv_sub hl [0, 2] rfl) zb_0
        · have h := ifn c_3 h
          refine lv_iconst (v := (1 : Int32)) hx hb dX8_doubtedOnes_26 (by decide) ?_
          refine lv_goto (tgt := 31) hx hb dX8_doubtedOnes_27 (by decide) ?_
          obtain rfl := Option.some.inj h
          exact J_3 hP hD hS (lv_sub hl [0, 2] rfl) zb_1
  obtain ⟨u_4, e_4, h⟩ := bd_some h
  refine L_4 _ e_4 hP hD hS (lv_sub hl [2, 1, 0] rfl) ?_
  intro H locs ls hP hD hS hl
  refine lv_iload_n hx hb dX8_doubtedOnes_39 rfl (lv_at hl 0 rfl) ?_
  obtain rfl := Option.some.inj h
  exact hRet hP hD hS dX8_doubtedOnes_40
abbrev rm_X8_bowed : Room := { frames := 0, cells := 0, slots := 0, locals := 0 }
theorem hd_X8_bowed : yX8_bowed.cls = RX8 ∧ yX8_bowed.cls ≠ "java/lang/invoke/MethodHandle" ∧ yX8_bowed.cls ≠ "java/lang/invoke/VarHandle" ∧ (parseMethodDescriptor yX8_bowed.desc).map (fun d => d.parameters.length) = some 4 := by decide +kernel
set_option maxHeartbeats 4000000 in
set_option maxRecDepth 100000 in
theorem c_X8_bowed {l : Launch} {G : va_G} {ca : Nat → ClassId} {ev : Nat → Nat} {h0 h1 h2 h3 h4 h5 h6 h7 h8 h9 h10 h11 h12 h13 h14 h15 h16 h17 : Nat} {now : (Nat → Int32)} {kept : (Nat → Int32)} {isKept : Int32} {found : (Nat → Int32)} {order : (Nat → Int32)} {doubts : (Nat → Int32)} {doubtMany : Int32} {weights : (Nat → Int64)} {worn : (Nat → Int32)} {pairs : Int64} {isTwice : Int32} {doer : (Nat → Int32)} {doneTo : (Nat → Int32)} {doers : (Nat → Int64)} {tape : (Nat → Int32)} {taped : Int32} {begins : Int32} {ends : Int32} {sort : Int32} {value : Int32} {isWrong : Int32} {items : (Nat → Int32)} {itemMany : Int32} {bowThen : Int32} {doubtThen : Int32} {deedThen : Int32} {sayingThen : Int32} {widths : (Nat → Int32)} {sizes : (Nat → Int32)} {numbers : (Nat → Int64)} {moved : (Nat → Int64)} {a1 : Int32} {a2 : Int32} {a3 : Int32} {a4 : Int32} {res : Int32 × (Nat → Int32)} (h : f_X8_bowed now a1 a2 a3 a4 = some res) : CtI l yX8_bowed wsX8_bowed rm_X8_bowed G ca ev [.ref h0, .int a1, .int a2, .int a3, .int a4] (wM ca ev h0 h1 h2 h3 h4 h5 h6 h7 h8 h9 h10 h11 h12 h13 h14 h15 h16 h17 now kept isKept found order doubts doubtMany weights worn pairs isTwice doer doneTo doers tape taped begins ends sort value isWrong items itemMany bowThen doubtThen deedThen sayingThen widths sizes numbers moved) (wM ca ev h0 h1 h2 h3 h4 h5 h6 h7 h8 h9 h10 h11 h12 h13 h14 h15 h16 h17 res.2 kept isKept found order doubts doubtMany weights worn pairs isTwice doer doneTo doers tape taped begins ends sort value isWrong items itemMany bowThen doubtThen deedThen sayingThen widths sizes numbers moved) res.1 := by
  unfold f_X8_bowed at h
  refine en_i (by decide) rfl (Nat.le_of_ble_eq_true rfl) ?_
  intro p e s m args below meth c A Q H locs ls hx hb hml hown hts hA hP hK hD hE hS hl hRet
  have hown : s.vm.findClass RX8 = some m.cls := hown
  have hl : lv_has ls 7 [(0, .ref h0), (1, .int a1), (2, .int a2), (3, .int a3), (4, .int a4)] := hl
  have hin_X8 : ∀ w ∈ u_ws RX8 TX8 32, w ∈ wsX8_bowed := fun w h9 => List.mem_cons_of_mem _ (List.mem_append_right _ h9)
  have fk_9 := hts (.fieldLink RX8 9 "MaskBowsModel" "now" "[I") (by decide +kernel)
  refine lv_aload_n hx hb dX8_bowed_0 rfl (lv_at hl 0 rfl) ?_
  refine va_get (D := G) (ci := 8) (v := .ref h1) (C := RX8) (T := TX8) (N := 32) hx hb hts hin_X8 hown hK hP 0 rfl rfl 0 (by decide) fk_9 (fun _ h9 => h9) rfl dX8_bowed_1 ?_
  refine lv_iconst (v := (3 : Int32)) hx hb dX8_bowed_4 (by decide) ?_
  refine va_iald hx hb hK hP 1 0 rfl rfl (ix_in (by decide)) dX8_bowed_5 ?_
  refine lv_istore (lv' := [(5, .int (now (3 : Int32).toNatClampNeg)), (0, .ref h0), (1, .int a1), (2, .int a2), (3, .int a3), (4, .int a4)]) hx hb dX8_bowed_6 hl (by decide) rfl (fun ls hl => ?_)
  refine lv_bipush (v := (6 : Int32)) hx hb dX8_bowed_8 (by decide) ?_
  refine lv_iconst (v := (4 : Int32)) hx hb dX8_bowed_10 (by decide) ?_
  refine lv_iload hx hb dX8_bowed_11 (lv_at hl 0 rfl) ?_
  refine lv_imul hx hb dX8_bowed_13 ?_
  refine lv_iadd hx hb dX8_bowed_14 ?_
  refine lv_istore (lv' := [(6, .int ((6 : Int32) + ((4 : Int32) * (now (3 : Int32).toNatClampNeg)))), (5, .int (now (3 : Int32).toNatClampNeg)), (0, .ref h0), (1, .int a1), (2, .int a2), (3, .int a3), (4, .int a4)]) hx hb dX8_bowed_15 hl (by decide) rfl (fun ls hl => ?_)
  refine lv_aload_n hx hb dX8_bowed_17 rfl (lv_at hl 2 rfl) ?_
  refine va_get (D := G) (ci := 8) (v := .ref h1) (C := RX8) (T := TX8) (N := 32) hx hb hts hin_X8 hown hK hP 0 rfl rfl 0 (by decide) fk_9 (fun _ h9 => h9) rfl dX8_bowed_18 ?_
  refine lv_iload hx hb dX8_bowed_21 (lv_at hl 0 rfl) ?_
  refine lv_iconst (v := (0 : Int32)) hx hb dX8_bowed_23 (by decide) ?_
  refine lv_iadd hx hb dX8_bowed_24 ?_
  refine lv_iload_n hx hb dX8_bowed_25 rfl (lv_at hl 3 rfl) ?_
  obtain ⟨i_1, h⟩ := gd_some h
  refine va_iast hx hb hK hP hD hS 1 0 rfl rfl (ix_in i_1) dX8_bowed_26 (fun H locs hP hD hS => ?_)
  have hP : va_P G vwCl (wM ca ev h0 h1 h2 h3 h4 h5 h6 h7 h8 h9 h10 h11 h12 h13 h14 h15 h16 h17 (upd now (((6 : Int32) + ((4 : Int32) * (now (3 : Int32).toNatClampNeg))) + (0 : Int32)).toNatClampNeg a1) kept isKept found order doubts doubtMany weights worn pairs isTwice doer doneTo doers tape taped begins ends sort value isWrong items itemMany bowThen doubtThen deedThen sayingThen widths sizes numbers moved) H := hP
  have hD : va_D A (wM ca ev h0 h1 h2 h3 h4 h5 h6 h7 h8 h9 h10 h11 h12 h13 h14 h15 h16 h17 (upd now (((6 : Int32) + ((4 : Int32) * (now (3 : Int32).toNatClampNeg))) + (0 : Int32)).toNatClampNeg a1) kept isKept found order doubts doubtMany weights worn pairs isTwice doer doneTo doers tape taped begins ends sort value isWrong items itemMany bowThen doubtThen deedThen sayingThen widths sizes numbers moved) := hD
  refine lv_aload_n hx hb dX8_bowed_27 rfl (lv_at hl 2 rfl) ?_
  refine va_get (D := G) (ci := 8) (v := .ref h1) (C := RX8) (T := TX8) (N := 32) hx hb hts hin_X8 hown hK hP 0 rfl rfl 0 (by decide) fk_9 (fun _ h9 => h9) rfl dX8_bowed_28 ?_
  refine lv_iload hx hb dX8_bowed_31 (lv_at hl 0 rfl) ?_
  refine lv_iconst (v := (1 : Int32)) hx hb dX8_bowed_33 (by decide) ?_
  refine lv_iadd hx hb dX8_bowed_34 ?_
  refine lv_iload_n hx hb dX8_bowed_35 rfl (lv_at hl 4 rfl) ?_
  obtain ⟨i_2, h⟩ := gd_some h
  refine va_iast hx hb hK hP hD hS 1 0 rfl rfl (ix_in i_2) dX8_bowed_36 (fun H locs hP hD hS => ?_)
  have hP : va_P G vwCl (wM ca ev h0 h1 h2 h3 h4 h5 h6 h7 h8 h9 h10 h11 h12 h13 h14 h15 h16 h17 (upd (upd now (((6 : Int32) + ((4 : Int32) * (now (3 : Int32).toNatClampNeg))) + (0 : Int32)).toNatClampNeg a1) (((6 : Int32) + ((4 : Int32) * (now (3 : Int32).toNatClampNeg))) + (1 : Int32)).toNatClampNeg a2) kept isKept found order doubts doubtMany weights worn pairs isTwice doer doneTo doers tape taped begins ends sort value isWrong items itemMany bowThen doubtThen deedThen sayingThen widths sizes numbers moved) H := hP
  have hD : va_D A (wM ca ev h0 h1 h2 h3 h4 h5 h6 h7 h8 h9 h10 h11 h12 h13 h14 h15 h16 h17 (upd (upd now (((6 : Int32) + ((4 : Int32) * (now (3 : Int32).toNatClampNeg))) + (0 : Int32)).toNatClampNeg a1) (((6 : Int32) + ((4 : Int32) * (now (3 : Int32).toNatClampNeg))) + (1 : Int32)).toNatClampNeg a2) kept isKept found order doubts doubtMany weights worn pairs isTwice doer doneTo doers tape taped begins ends sort value isWrong items itemMany bowThen doubtThen deedThen sayingThen widths sizes numbers moved) := hD
  refine lv_aload_n hx hb dX8_bowed_37 rfl (lv_at hl 2 rfl) ?_
  refine va_get (D := G) (ci := 8) (v := .ref h1) (C := RX8) (T := TX8) (N := 32) hx hb hts hin_X8 hown hK hP 0 rfl rfl 0 (by decide) fk_9 (fun _ h9 => h9) rfl dX8_bowed_38 ?_
  refine lv_iload hx hb dX8_bowed_41 (lv_at hl 0 rfl) ?_
  refine lv_iconst (v := (2 : Int32)) hx hb dX8_bowed_43 (by decide) ?_
  refine lv_iadd hx hb dX8_bowed_44 ?_
  refine lv_iload_n hx hb dX8_bowed_45 rfl (lv_at hl 5 rfl) ?_
  obtain ⟨i_3, h⟩ := gd_some h
  refine va_iast hx hb hK hP hD hS 1 0 rfl rfl (ix_in i_3) dX8_bowed_46 (fun H locs hP hD hS => ?_)
  have hP : va_P G vwCl (wM ca ev h0 h1 h2 h3 h4 h5 h6 h7 h8 h9 h10 h11 h12 h13 h14 h15 h16 h17 (upd (upd (upd now (((6 : Int32) + ((4 : Int32) * (now (3 : Int32).toNatClampNeg))) + (0 : Int32)).toNatClampNeg a1) (((6 : Int32) + ((4 : Int32) * (now (3 : Int32).toNatClampNeg))) + (1 : Int32)).toNatClampNeg a2) (((6 : Int32) + ((4 : Int32) * (now (3 : Int32).toNatClampNeg))) + (2 : Int32)).toNatClampNeg a3) kept isKept found order doubts doubtMany weights worn pairs isTwice doer doneTo doers tape taped begins ends sort value isWrong items itemMany bowThen doubtThen deedThen sayingThen widths sizes numbers moved) H := hP
  have hD : va_D A (wM ca ev h0 h1 h2 h3 h4 h5 h6 h7 h8 h9 h10 h11 h12 h13 h14 h15 h16 h17 (upd (upd (upd now (((6 : Int32) + ((4 : Int32) * (now (3 : Int32).toNatClampNeg))) + (0 : Int32)).toNatClampNeg a1) (((6 : Int32) + ((4 : Int32) * (now (3 : Int32).toNatClampNeg))) + (1 : Int32)).toNatClampNeg a2) (((6 : Int32) + ((4 : Int32) * (now (3 : Int32).toNatClampNeg))) + (2 : Int32)).toNatClampNeg a3) kept isKept found order doubts doubtMany weights worn pairs isTwice doer doneTo doers tape taped begins ends sort value isWrong items itemMany bowThen doubtThen deedThen sayingThen widths sizes numbers moved) := hD
  refine lv_aload_n hx hb dX8_bowed_47 rfl (lv_at hl 2 rfl) ?_
  refine va_get (D := G) (ci := 8) (v := .ref h1) (C := RX8) (T := TX8) (N := 32) hx hb hts hin_X8 hown hK hP 0 rfl rfl 0 (by decide) fk_9 (fun _ h9 => h9) rfl dX8_bowed_48 ?_
  refine lv_iload hx hb dX8_bowed_51 (lv_at hl 0 rfl) ?_
  refine lv_iconst (v := (3 : Int32)) hx hb dX8_bowed_53 (by decide) ?_
  refine lv_iadd hx hb dX8_bowed_54 ?_
  refine lv_iload hx hb dX8_bowed_55 (lv_at hl 6 rfl) ?_
  obtain ⟨i_4, h⟩ := gd_some h
  refine va_iast hx hb hK hP hD hS 1 0 rfl rfl (ix_in i_4) dX8_bowed_57 (fun H locs hP hD hS => ?_)
  have hP : va_P G vwCl (wM ca ev h0 h1 h2 h3 h4 h5 h6 h7 h8 h9 h10 h11 h12 h13 h14 h15 h16 h17 (upd (upd (upd (upd now (((6 : Int32) + ((4 : Int32) * (now (3 : Int32).toNatClampNeg))) + (0 : Int32)).toNatClampNeg a1) (((6 : Int32) + ((4 : Int32) * (now (3 : Int32).toNatClampNeg))) + (1 : Int32)).toNatClampNeg a2) (((6 : Int32) + ((4 : Int32) * (now (3 : Int32).toNatClampNeg))) + (2 : Int32)).toNatClampNeg a3) (((6 : Int32) + ((4 : Int32) * (now (3 : Int32).toNatClampNeg))) + (3 : Int32)).toNatClampNeg a4) kept isKept found order doubts doubtMany weights worn pairs isTwice doer doneTo doers tape taped begins ends sort value isWrong items itemMany bowThen doubtThen deedThen sayingThen widths sizes numbers moved) H := hP
  have hD : va_D A (wM ca ev h0 h1 h2 h3 h4 h5 h6 h7 h8 h9 h10 h11 h12 h13 h14 h15 h16 h17 (upd (upd (upd (upd now (((6 : Int32) + ((4 : Int32) * (now (3 : Int32).toNatClampNeg))) + (0 : Int32)).toNatClampNeg a1) (((6 : Int32) + ((4 : Int32) * (now (3 : Int32).toNatClampNeg))) + (1 : Int32)).toNatClampNeg a2) (((6 : Int32) + ((4 : Int32) * (now (3 : Int32).toNatClampNeg))) + (2 : Int32)).toNatClampNeg a3) (((6 : Int32) + ((4 : Int32) * (now (3 : Int32).toNatClampNeg))) + (3 : Int32)).toNatClampNeg a4) kept isKept found order doubts doubtMany weights worn pairs isTwice doer doneTo doers tape taped begins ends sort value isWrong items itemMany bowThen doubtThen deedThen sayingThen widths sizes numbers moved) := hD
  refine lv_aload_n hx hb dX8_bowed_58 rfl (lv_at hl 2 rfl) ?_
  refine va_get (D := G) (ci := 8) (v := .ref h1) (C := RX8) (T := TX8) (N := 32) hx hb hts hin_X8 hown hK hP 0 rfl rfl 0 (by decide) fk_9 (fun _ h9 => h9) rfl dX8_bowed_59 ?_
  refine lv_iconst (v := (3 : Int32)) hx hb dX8_bowed_62 (by decide) ?_
  refine lv_dup2_11 hx hb dX8_bowed_63 rfl rfl ?_
  refine va_iald hx hb hK hP 1 0 rfl rfl (ix_in (by decide)) dX8_bowed_64 ?_
  refine lv_iconst (v := (1 : Int32)) hx hb dX8_bowed_65 (by decide) ?_
  refine lv_iadd hx hb dX8_bowed_66 ?_
  refine va_iast hx hb hK hP hD hS 1 0 rfl rfl (ix_in (by decide)) dX8_bowed_67 (fun H locs hP hD hS => ?_)
  have hP : va_P G vwCl (wM ca ev h0 h1 h2 h3 h4 h5 h6 h7 h8 h9 h10 h11 h12 h13 h14 h15 h16 h17 (upd (upd (upd (upd (upd now (((6 : Int32) + ((4 : Int32) * (now (3 : Int32).toNatClampNeg))) + (0 : Int32)).toNatClampNeg a1) (((6 : Int32) + ((4 : Int32) * (now (3 : Int32).toNatClampNeg))) + (1 : Int32)).toNatClampNeg a2) (((6 : Int32) + ((4 : Int32) * (now (3 : Int32).toNatClampNeg))) + (2 : Int32)).toNatClampNeg a3) (((6 : Int32) + ((4 : Int32) * (now (3 : Int32).toNatClampNeg))) + (3 : Int32)).toNatClampNeg a4) (3 : Int32).toNatClampNeg (((upd (upd (upd (upd now (((6 : Int32) + ((4 : Int32) * (now (3 : Int32).toNatClampNeg))) + (0 : Int32)).toNatClampNeg a1) (((6 : Int32) + ((4 : Int32) * (now (3 : Int32).toNatClampNeg))) + (1 : Int32)).toNatClampNeg a2) (((6 : Int32) + ((4 : Int32) * (now (3 : Int32).toNatClampNeg))) + (2 : Int32)).toNatClampNeg a3) (((6 : Int32) + ((4 : Int32) * (now (3 : Int32).toNatClampNeg))) + (3 : Int32)).toNatClampNeg a4) (3 : Int32).toNatClampNeg) + (1 : Int32))) kept isKept found order doubts doubtMany weights worn pairs isTwice doer doneTo doers tape taped begins ends sort value isWrong items itemMany bowThen doubtThen deedThen sayingThen widths sizes numbers moved) H := hP
  have hD : va_D A (wM ca ev h0 h1 h2 h3 h4 h5 h6 h7 h8 h9 h10 h11 h12 h13 h14 h15 h16 h17 (upd (upd (upd (upd (upd now (((6 : Int32) + ((4 : Int32) * (now (3 : Int32).toNatClampNeg))) + (0 : Int32)).toNatClampNeg a1) (((6 : Int32) + ((4 : Int32) * (now (3 : Int32).toNatClampNeg))) + (1 : Int32)).toNatClampNeg a2) (((6 : Int32) + ((4 : Int32) * (now (3 : Int32).toNatClampNeg))) + (2 : Int32)).toNatClampNeg a3) (((6 : Int32) + ((4 : Int32) * (now (3 : Int32).toNatClampNeg))) + (3 : Int32)).toNatClampNeg a4) (3 : Int32).toNatClampNeg (((upd (upd (upd (upd now (((6 : Int32) + ((4 : Int32) * (now (3 : Int32).toNatClampNeg))) + (0 : Int32)).toNatClampNeg a1) (((6 : Int32) + ((4 : Int32) * (now (3 : Int32).toNatClampNeg))) + (1 : Int32)).toNatClampNeg a2) (((6 : Int32) + ((4 : Int32) * (now (3 : Int32).toNatClampNeg))) + (2 : Int32)).toNatClampNeg a3) (((6 : Int32) + ((4 : Int32) * (now (3 : Int32).toNatClampNeg))) + (3 : Int32)).toNatClampNeg a4) (3 : Int32).toNatClampNeg) + (1 : Int32))) kept isKept found order doubts doubtMany weights worn pairs isTwice doer doneTo doers tape taped begins ends sort value isWrong items itemMany bowThen doubtThen deedThen sayingThen widths sizes numbers moved) := hD
  refine lv_iload hx hb dX8_bowed_68 (lv_at hl 1 rfl) ?_
  obtain rfl := Option.some.inj h
  exact hRet hP hD hS dX8_bowed_70
abbrev rm_X8_bow : Room := { frames := 3, cells := 0, slots := 0, locals := 65 }
theorem hd_X8_bow : yX8_bow.cls = RX8 ∧ yX8_bow.cls ≠ "java/lang/invoke/MethodHandle" ∧ yX8_bow.cls ≠ "java/lang/invoke/VarHandle" ∧ (parseMethodDescriptor yX8_bow.desc).map (fun d => d.parameters.length) = some 4 := by decide +kernel
set_option maxHeartbeats 4000000 in
set_option maxRecDepth 100000 in
theorem c_X8_bow {l : Launch} {G : va_G} {ca : Nat → ClassId} {ev : Nat → Nat} {h0 h1 h2 h3 h4 h5 h6 h7 h8 h9 h10 h11 h12 h13 h14 h15 h16 h17 : Nat} {now : (Nat → Int32)} {kept : (Nat → Int32)} {isKept : Int32} {found : (Nat → Int32)} {order : (Nat → Int32)} {doubts : (Nat → Int32)} {doubtMany : Int32} {weights : (Nat → Int64)} {worn : (Nat → Int32)} {pairs : Int64} {isTwice : Int32} {doer : (Nat → Int32)} {doneTo : (Nat → Int32)} {doers : (Nat → Int64)} {tape : (Nat → Int32)} {taped : Int32} {begins : Int32} {ends : Int32} {sort : Int32} {value : Int32} {isWrong : Int32} {items : (Nat → Int32)} {itemMany : Int32} {bowThen : Int32} {doubtThen : Int32} {deedThen : Int32} {sayingThen : Int32} {widths : (Nat → Int32)} {sizes : (Nat → Int32)} {numbers : (Nat → Int64)} {moved : (Nat → Int64)} {a1 : Int32} {a2 : Int32} {a3 : Int32} {a4 : Int32} {N : Nat} {res : Int32 × (Nat → Int32) × (Nat → Int32)} (h : f_X8_bow N now found a1 a2 a3 a4 = some res) : CtI l yX8_bow wsX8_bow rm_X8_bow G ca ev [.ref h0, .int a1, .int a2, .int a3, .int a4] (wM ca ev h0 h1 h2 h3 h4 h5 h6 h7 h8 h9 h10 h11 h12 h13 h14 h15 h16 h17 now kept isKept found order doubts doubtMany weights worn pairs isTwice doer doneTo doers tape taped begins ends sort value isWrong items itemMany bowThen doubtThen deedThen sayingThen widths sizes numbers moved) (wM ca ev h0 h1 h2 h3 h4 h5 h6 h7 h8 h9 h10 h11 h12 h13 h14 h15 h16 h17 res.2.1 kept isKept res.2.2 order doubts doubtMany weights worn pairs isTwice doer doneTo doers tape taped begins ends sort value isWrong items itemMany bowThen doubtThen deedThen sayingThen widths sizes numbers moved) res.1 := by
  unfold f_X8_bow at h
  refine en_i (by decide) rfl (Nat.le_of_ble_eq_true rfl) ?_
  intro p e s m args below meth c A Q H locs ls hx hb hml hown hts hA hP hK hD hE hS hl hRet
  have hown : s.vm.findClass RX8 = some m.cls := hown
  have hl : lv_has ls 5 [(0, .ref h0), (1, .int a1), (2, .int a2), (3, .int a3), (4, .int a4)] := hl
  have hin_X8 : ∀ w ∈ u_ws RX8 TX8 32, w ∈ wsX8_bow := fun w h9 => List.mem_cons_of_mem _ (List.mem_append_right _ h9)
  have fk_9 := hts (.fieldLink RX8 9 "MaskBowsModel" "now" "[I") (by decide +kernel)
  refine lv_iload_n hx hb dX8_bow_0 rfl (lv_at hl 1 rfl) ?_
  obtain ⟨u_1, e_1, h⟩ := bd_some h
  refine cn_Si (As := [.int a1]) (rest := []) ⟨hx, hb, hml, hown, hts⟩ (c_X8_isHour e_1) (va_cwS 1 hts gX8_bow_X8_isHour rfl rfl rfl hd_X8_isHour ⟨Nat.le_of_ble_eq_true rfl, Nat.le_of_ble_eq_true rfl⟩) hK hP hD hS hA hE rfl hl.1 rfl (Nat.le_of_ble_eq_true rfl) dX8_bow_1 ⟨Nat.zero_le _, Nat.zero_le _⟩ (fun H locs hP hD hS => ?_)
  refine lv_if_eq (tgt := 27) hx hb dX8_bow_4 (by decide) (fun c_2 => ?_) (fun c_2 => ?_)
  · have h := ifp c_2 h
    refine lv_aload_n hx hb dX8_bow_27 rfl (lv_at hl 0 rfl) ?_
    refine lv_ldc (v := (-1000000001 : Int32)) hx hb hown (hts (.constant RX8 77 (-1000000001)) (by decide +kernel)) dX8_bow_28 ?_
    obtain ⟨u_3, e_3, h⟩ := bd_some h
    refine cm_Vi (As := [.int (-1000000001 : Int32)]) (rest := []) ⟨hx, hb, hml, hown, hts⟩ (c_X8_finding (ca := ca) (ev := ev) (h0 := h0) (h1 := h1) (h2 := h2) (h3 := h3) (h4 := h4) (h5 := h5) (h6 := h6) (h7 := h7) (h8 := h8) (h9 := h9) (h10 := h10) (h11 := h11) (h12 := h12) (h13 := h13) (h14 := h14) (h15 := h15) (h16 := h16) (h17 := h17) (now := now) (kept := kept) (isKept := isKept) (found := found) (order := order) (doubts := doubts) (doubtMany := doubtMany) (weights := weights) (worn := worn) (pairs := pairs) (isTwice := isTwice) (doer := doer) (doneTo := doneTo) (doers := doers) (tape := tape) (taped := taped) (begins := begins) (ends := ends) (sort := sort) (value := value) (isWrong := isWrong) (items := items) (itemMany := itemMany) (bowThen := bowThen) (doubtThen := doubtThen) (deedThen := deedThen) (sayingThen := sayingThen) (widths := widths) (sizes := sizes) (numbers := numbers) (moved := moved) e_3) (cwV 1 hts gX8_bow_X8_finding rfl rfl rfl hd_X8_finding ⟨Nat.le_of_ble_eq_true rfl, Nat.le_of_ble_eq_true rfl⟩) hK hP hD hS hA hE (q0 := 0) (ci := 8) rfl rfl rfl rfl hl.1 rfl (Nat.le_of_ble_eq_true rfl) dX8_bow_30 ⟨Nat.zero_le _, Nat.zero_le _⟩ (fun H locs hP hD hS => ?_)
    obtain rfl := Option.some.inj h
    exact hRet hP hD hS dX8_bow_33
  · have h := ifn c_2 h
    refine lv_aload_n hx hb dX8_bow_7 rfl (lv_at hl 0 rfl) ?_
    refine lv_iload_n hx hb dX8_bow_8 rfl (lv_at hl 2 rfl) ?_
    refine lv_iload_n hx hb dX8_bow_9 rfl (lv_at hl 3 rfl) ?_
    obtain ⟨u_4, e_4, h⟩ := bd_some h
    refine cm_Vi (As := [.int a2, .int a3]) (rest := []) ⟨hx, hb, hml, hown, hts⟩ (c_X8_areTwo (ca := ca) (ev := ev) (h0 := h0) (h1 := h1) (h2 := h2) (h3 := h3) (h4 := h4) (h5 := h5) (h6 := h6) (h7 := h7) (h8 := h8) (h9 := h9) (h10 := h10) (h11 := h11) (h12 := h12) (h13 := h13) (h14 := h14) (h15 := h15) (h16 := h16) (h17 := h17) (now := now) (kept := kept) (isKept := isKept) (found := found) (order := order) (doubts := doubts) (doubtMany := doubtMany) (weights := weights) (worn := worn) (pairs := pairs) (isTwice := isTwice) (doer := doer) (doneTo := doneTo) (doers := doers) (tape := tape) (taped := taped) (begins := begins) (ends := ends) (sort := sort) (value := value) (isWrong := isWrong) (items := items) (itemMany := itemMany) (bowThen := bowThen) (doubtThen := doubtThen) (deedThen := deedThen) (sayingThen := sayingThen) (widths := widths) (sizes := sizes) (numbers := numbers) (moved := moved) e_4) (cwV 2 hts gX8_bow_X8_areTwo rfl rfl rfl hd_X8_areTwo ⟨Nat.le_of_ble_eq_true rfl, Nat.le_of_ble_eq_true rfl⟩) hK hP hD hS hA hE (q0 := 0) (ci := 8) rfl rfl rfl rfl hl.1 rfl (Nat.le_of_ble_eq_true rfl) dX8_bow_10 ⟨Nat.zero_le _, Nat.zero_le _⟩ (fun H locs hP hD hS => ?_)
    refine lv_if_eq (tgt := 27) hx hb dX8_bow_13 (by decide) (fun c_5 => ?_) (fun c_5 => ?_)
    · have h := ifp c_5 h
      refine lv_aload_n hx hb dX8_bow_27 rfl (lv_at hl 0 rfl) ?_
      refine lv_ldc (v := (-1000000001 : Int32)) hx hb hown (hts (.constant RX8 77 (-1000000001)) (by decide +kernel)) dX8_bow_28 ?_
      obtain ⟨u_6, e_6, h⟩ := bd_some h
      refine cm_Vi (As := [.int (-1000000001 : Int32)]) (rest := []) ⟨hx, hb, hml, hown, hts⟩ (c_X8_finding (ca := ca) (ev := ev) (h0 := h0) (h1 := h1) (h2 := h2) (h3 := h3) (h4 := h4) (h5 := h5) (h6 := h6) (h7 := h7) (h8 := h8) (h9 := h9) (h10 := h10) (h11 := h11) (h12 := h12) (h13 := h13) (h14 := h14) (h15 := h15) (h16 := h16) (h17 := h17) (now := now) (kept := kept) (isKept := isKept) (found := found) (order := order) (doubts := doubts) (doubtMany := doubtMany) (weights := weights) (worn := worn) (pairs := pairs) (isTwice := isTwice) (doer := doer) (doneTo := doneTo) (doers := doers) (tape := tape) (taped := taped) (begins := begins) (ends := ends) (sort := sort) (value := value) (isWrong := isWrong) (items := items) (itemMany := itemMany) (bowThen := bowThen) (doubtThen := doubtThen) (deedThen := deedThen) (sayingThen := sayingThen) (widths := widths) (sizes := sizes) (numbers := numbers) (moved := moved) e_6) (cwV 1 hts gX8_bow_X8_finding rfl rfl rfl hd_X8_finding ⟨Nat.le_of_ble_eq_true rfl, Nat.le_of_ble_eq_true rfl⟩) hK hP hD hS hA hE (q0 := 0) (ci := 8) rfl rfl rfl rfl hl.1 rfl (Nat.le_of_ble_eq_true rfl) dX8_bow_30 ⟨Nat.zero_le _, Nat.zero_le _⟩ (fun H locs hP hD hS => ?_)
      obtain rfl := Option.some.inj h
      exact hRet hP hD hS dX8_bow_33
    · have h := ifn c_5 h
      refine lv_iload hx hb dX8_bow_16 (lv_at hl 4 rfl) ?_
      refine lv_iconst (v := (0 : Int32)) hx hb dX8_bow_18 (by decide) ?_
      refine lv_bipush (v := (10 : Int32)) hx hb dX8_bow_19 (by decide) ?_
      obtain ⟨u_7, e_7, h⟩ := bd_some h
      refine cn_Si (As := [.int a4, .int (0 : Int32), .int (10 : Int32)]) (rest := []) ⟨hx, hb, hml, hown, hts⟩ (c_X8_within e_7) (va_cwS 3 hts gX8_bow_X8_within rfl rfl rfl hd_X8_within ⟨Nat.le_of_ble_eq_true rfl, Nat.le_of_ble_eq_true rfl⟩) hK hP hD hS hA hE rfl hl.1 rfl (Nat.le_of_ble_eq_true rfl) dX8_bow_21 ⟨Nat.zero_le _, Nat.zero_le _⟩ (fun H locs hP hD hS => ?_)
      refine lv_if_ne (tgt := 34) hx hb dX8_bow_24 (by decide) (fun c_8 => ?_) (fun c_8 => ?_)
      · have h := ifn c_8 h
        refine lv_aload_n hx hb dX8_bow_34 rfl (lv_at hl 0 rfl) ?_
        refine va_get (D := G) (ci := 8) (v := .ref h1) (C := RX8) (T := TX8) (N := 32) hx hb hts hin_X8 hown hK hP 0 rfl rfl 0 (by decide) fk_9 (fun _ h9 => h9) rfl dX8_bow_35 ?_
        refine lv_iconst (v := (3 : Int32)) hx hb dX8_bow_38 (by decide) ?_
        refine va_iald hx hb hK hP 1 0 rfl rfl (ix_in (by decide)) dX8_bow_39 ?_
        refine lv_bipush (v := (20 : Int32)) hx hb dX8_bow_40 (by decide) ?_
        refine lv_icmp_eq (tgt := 61) hx hb dX8_bow_42 (by decide) (fun c_9 => ?_) (fun c_9 => ?_)
        · have h := ifp c_9 h
          refine lv_aload_n hx hb dX8_bow_61 rfl (lv_at hl 0 rfl) ?_
          refine lv_ldc (v := (-1000000002 : Int32)) hx hb hown (hts (.constant RX8 109 (-1000000002)) (by decide +kernel)) dX8_bow_62 ?_
          obtain ⟨u_10, e_10, h⟩ := bd_some h
          refine cm_Vi (As := [.int (-1000000002 : Int32)]) (rest := []) ⟨hx, hb, hml, hown, hts⟩ (c_X8_finding (ca := ca) (ev := ev) (h0 := h0) (h1 := h1) (h2 := h2) (h3 := h3) (h4 := h4) (h5 := h5) (h6 := h6) (h7 := h7) (h8 := h8) (h9 := h9) (h10 := h10) (h11 := h11) (h12 := h12) (h13 := h13) (h14 := h14) (h15 := h15) (h16 := h16) (h17 := h17) (now := now) (kept := kept) (isKept := isKept) (found := found) (order := order) (doubts := doubts) (doubtMany := doubtMany) (weights := weights) (worn := worn) (pairs := pairs) (isTwice := isTwice) (doer := doer) (doneTo := doneTo) (doers := doers) (tape := tape) (taped := taped) (begins := begins) (ends := ends) (sort := sort) (value := value) (isWrong := isWrong) (items := items) (itemMany := itemMany) (bowThen := bowThen) (doubtThen := doubtThen) (deedThen := deedThen) (sayingThen := sayingThen) (widths := widths) (sizes := sizes) (numbers := numbers) (moved := moved) e_10) (cwV 1 hts gX8_bow_X8_finding rfl rfl rfl hd_X8_finding ⟨Nat.le_of_ble_eq_true rfl, Nat.le_of_ble_eq_true rfl⟩) hK hP hD hS hA hE (q0 := 0) (ci := 8) rfl rfl rfl rfl hl.1 rfl (Nat.le_of_ble_eq_true rfl) dX8_bow_64 ⟨Nat.zero_le _, Nat.zero_le _⟩ (fun H locs hP hD hS => ?_)
          obtain rfl := Option.some.inj h
          exact hRet hP hD hS dX8_bow_67
        · have h := ifn c_9 h
          refine lv_iload hx hb dX8_bow_45 (lv_at hl 4 rfl) ?_
          refine lv_bipush (v := (10 : Int32)) hx hb dX8_bow_47 (by decide) ?_
          refine lv_icmp_ge (tgt := 68) hx hb dX8_bow_49 (by decide) (fun c_11 => ?_) (fun c_11 => ?_)
          · have h := ifp c_11 h
            refine lv_aload_n hx hb dX8_bow_68 rfl (lv_at hl 0 rfl) ?_
            refine lv_iload_n hx hb dX8_bow_69 rfl (lv_at hl 1 rfl) ?_
            refine lv_iload_n hx hb dX8_bow_70 rfl (lv_at hl 2 rfl) ?_
            refine lv_iload_n hx hb dX8_bow_71 rfl (lv_at hl 3 rfl) ?_
            refine lv_iload hx hb dX8_bow_72 (lv_at hl 4 rfl) ?_
            obtain ⟨u_12, e_12, h⟩ := bd_some h
            refine cm_Vi (As := [.int a1, .int a2, .int a3, .int a4]) (rest := []) ⟨hx, hb, hml, hown, hts⟩ (c_X8_bowed (ca := ca) (ev := ev) (h0 := h0) (h1 := h1) (h2 := h2) (h3 := h3) (h4 := h4) (h5 := h5) (h6 := h6) (h7 := h7) (h8 := h8) (h9 := h9) (h10 := h10) (h11 := h11) (h12 := h12) (h13 := h13) (h14 := h14) (h15 := h15) (h16 := h16) (h17 := h17) (now := now) (kept := kept) (isKept := isKept) (found := found) (order := order) (doubts := doubts) (doubtMany := doubtMany) (weights := weights) (worn := worn) (pairs := pairs) (isTwice := isTwice) (doer := doer) (doneTo := doneTo) (doers := doers) (tape := tape) (taped := taped) (begins := begins) (ends := ends) (sort := sort) (value := value) (isWrong := isWrong) (items := items) (itemMany := itemMany) (bowThen := bowThen) (doubtThen := doubtThen) (deedThen := deedThen) (sayingThen := sayingThen) (widths := widths) (sizes := sizes) (numbers := numbers) (moved := moved) e_12) (cwV 4 hts gX8_bow_X8_bowed rfl rfl rfl hd_X8_bowed ⟨Nat.le_of_ble_eq_true rfl, Nat.le_of_ble_eq_true rfl⟩) hK hP hD hS hA hE (q0 := 0) (ci := 8) rfl rfl rfl rfl hl.1 rfl (Nat.le_of_ble_eq_true rfl) dX8_bow_74 ⟨Nat.zero_le _, Nat.zero_le _⟩ (fun H locs hP hD hS => ?_)
            obtain rfl := Option.some.inj h
            exact hRet hP hD hS dX8_bow_77
          · have h := ifn c_11 h
            refine lv_aload_n hx hb dX8_bow_52 rfl (lv_at hl 0 rfl) ?_
            obtain ⟨u_13, e_13, h⟩ := bd_some h
            refine cm_Vi (As := []) (rest := []) ⟨hx, hb, hml, hown, hts⟩ (c_X8_doubtedOnes (ca := ca) (ev := ev) (h0 := h0) (h1 := h1) (h2 := h2) (h3 := h3) (h4 := h4) (h5 := h5) (h6 := h6) (h7 := h7) (h8 := h8) (h9 := h9) (h10 := h10) (h11 := h11) (h12 := h12) (h13 := h13) (h14 := h14) (h15 := h15) (h16 := h16) (h17 := h17) (now := now) (kept := kept) (isKept := isKept) (found := found) (order := order) (doubts := doubts) (doubtMany := doubtMany) (weights := weights) (worn := worn) (pairs := pairs) (isTwice := isTwice) (doer := doer) (doneTo := doneTo) (doers := doers) (tape := tape) (taped := taped) (begins := begins) (ends := ends) (sort := sort) (value := value) (isWrong := isWrong) (items := items) (itemMany := itemMany) (bowThen := bowThen) (doubtThen := doubtThen) (deedThen := deedThen) (sayingThen := sayingThen) (widths := widths) (sizes := sizes) (numbers := numbers) (moved := moved) e_13) (cwV 0 hts gX8_bow_X8_doubtedOnes rfl rfl rfl hd_X8_doubtedOnes ⟨Nat.le_of_ble_eq_true rfl, Nat.le_of_ble_eq_true rfl⟩) hK hP hD hS hA hE (q0 := 0) (ci := 8) rfl rfl rfl rfl hl.1 rfl (Nat.le_of_ble_eq_true rfl) dX8_bow_53 ⟨Nat.zero_le _, Nat.zero_le _⟩ (fun H locs hP hD hS => ?_)
            refine lv_bipush (v := (6 : Int32)) hx hb dX8_bow_56 (by decide) ?_
            refine lv_icmp_ne (tgt := 68) hx hb dX8_bow_58 (by decide) (fun c_14 => ?_) (fun c_14 => ?_)
            · have h := ifn c_14 h
              refine lv_aload_n hx hb dX8_bow_68 rfl (lv_at hl 0 rfl) ?_
              refine lv_iload_n hx hb dX8_bow_69 rfl (lv_at hl 1 rfl) ?_
              refine lv_iload_n hx hb dX8_bow_70 rfl (lv_at hl 2 rfl) ?_
              refine lv_iload_n hx hb dX8_bow_71 rfl (lv_at hl 3 rfl) ?_
              refine lv_iload hx hb dX8_bow_72 (lv_at hl 4 rfl) ?_
              obtain ⟨u_15, e_15, h⟩ := bd_some h
              refine cm_Vi (As := [.int a1, .int a2, .int a3, .int a4]) (rest := []) ⟨hx, hb, hml, hown, hts⟩ (c_X8_bowed (ca := ca) (ev := ev) (h0 := h0) (h1 := h1) (h2 := h2) (h3 := h3) (h4 := h4) (h5 := h5) (h6 := h6) (h7 := h7) (h8 := h8) (h9 := h9) (h10 := h10) (h11 := h11) (h12 := h12) (h13 := h13) (h14 := h14) (h15 := h15) (h16 := h16) (h17 := h17) (now := now) (kept := kept) (isKept := isKept) (found := found) (order := order) (doubts := doubts) (doubtMany := doubtMany) (weights := weights) (worn := worn) (pairs := pairs) (isTwice := isTwice) (doer := doer) (doneTo := doneTo) (doers := doers) (tape := tape) (taped := taped) (begins := begins) (ends := ends) (sort := sort) (value := value) (isWrong := isWrong) (items := items) (itemMany := itemMany) (bowThen := bowThen) (doubtThen := doubtThen) (deedThen := deedThen) (sayingThen := sayingThen) (widths := widths) (sizes := sizes) (numbers := numbers) (moved := moved) e_15) (cwV 4 hts gX8_bow_X8_bowed rfl rfl rfl hd_X8_bowed ⟨Nat.le_of_ble_eq_true rfl, Nat.le_of_ble_eq_true rfl⟩) hK hP hD hS hA hE (q0 := 0) (ci := 8) rfl rfl rfl rfl hl.1 rfl (Nat.le_of_ble_eq_true rfl) dX8_bow_74 ⟨Nat.zero_le _, Nat.zero_le _⟩ (fun H locs hP hD hS => ?_)
              obtain rfl := Option.some.inj h
              exact hRet hP hD hS dX8_bow_77
            · have h := ifp c_14 h
              refine lv_aload_n hx hb dX8_bow_61 rfl (lv_at hl 0 rfl) ?_
              refine lv_ldc (v := (-1000000002 : Int32)) hx hb hown (hts (.constant RX8 109 (-1000000002)) (by decide +kernel)) dX8_bow_62 ?_
              obtain ⟨u_16, e_16, h⟩ := bd_some h
              refine cm_Vi (As := [.int (-1000000002 : Int32)]) (rest := []) ⟨hx, hb, hml, hown, hts⟩ (c_X8_finding (ca := ca) (ev := ev) (h0 := h0) (h1 := h1) (h2 := h2) (h3 := h3) (h4 := h4) (h5 := h5) (h6 := h6) (h7 := h7) (h8 := h8) (h9 := h9) (h10 := h10) (h11 := h11) (h12 := h12) (h13 := h13) (h14 := h14) (h15 := h15) (h16 := h16) (h17 := h17) (now := now) (kept := kept) (isKept := isKept) (found := found) (order := order) (doubts := doubts) (doubtMany := doubtMany) (weights := weights) (worn := worn) (pairs := pairs) (isTwice := isTwice) (doer := doer) (doneTo := doneTo) (doers := doers) (tape := tape) (taped := taped) (begins := begins) (ends := ends) (sort := sort) (value := value) (isWrong := isWrong) (items := items) (itemMany := itemMany) (bowThen := bowThen) (doubtThen := doubtThen) (deedThen := deedThen) (sayingThen := sayingThen) (widths := widths) (sizes := sizes) (numbers := numbers) (moved := moved) e_16) (cwV 1 hts gX8_bow_X8_finding rfl rfl rfl hd_X8_finding ⟨Nat.le_of_ble_eq_true rfl, Nat.le_of_ble_eq_true rfl⟩) hK hP hD hS hA hE (q0 := 0) (ci := 8) rfl rfl rfl rfl hl.1 rfl (Nat.le_of_ble_eq_true rfl) dX8_bow_64 ⟨Nat.zero_le _, Nat.zero_le _⟩ (fun H locs hP hD hS => ?_)
              obtain rfl := Option.some.inj h
              exact hRet hP hD hS dX8_bow_67
      · have h := ifp c_8 h
        refine lv_aload_n hx hb dX8_bow_27 rfl (lv_at hl 0 rfl) ?_
        refine lv_ldc (v := (-1000000001 : Int32)) hx hb hown (hts (.constant RX8 77 (-1000000001)) (by decide +kernel)) dX8_bow_28 ?_
        obtain ⟨u_17, e_17, h⟩ := bd_some h
        refine cm_Vi (As := [.int (-1000000001 : Int32)]) (rest := []) ⟨hx, hb, hml, hown, hts⟩ (c_X8_finding (ca := ca) (ev := ev) (h0 := h0) (h1 := h1) (h2 := h2) (h3 := h3) (h4 := h4) (h5 := h5) (h6 := h6) (h7 := h7) (h8 := h8) (h9 := h9) (h10 := h10) (h11 := h11) (h12 := h12) (h13 := h13) (h14 := h14) (h15 := h15) (h16 := h16) (h17 := h17) (now := now) (kept := kept) (isKept := isKept) (found := found) (order := order) (doubts := doubts) (doubtMany := doubtMany) (weights := weights) (worn := worn) (pairs := pairs) (isTwice := isTwice) (doer := doer) (doneTo := doneTo) (doers := doers) (tape := tape) (taped := taped) (begins := begins) (ends := ends) (sort := sort) (value := value) (isWrong := isWrong) (items := items) (itemMany := itemMany) (bowThen := bowThen) (doubtThen := doubtThen) (deedThen := deedThen) (sayingThen := sayingThen) (widths := widths) (sizes := sizes) (numbers := numbers) (moved := moved) e_17) (cwV 1 hts gX8_bow_X8_finding rfl rfl rfl hd_X8_finding ⟨Nat.le_of_ble_eq_true rfl, Nat.le_of_ble_eq_true rfl⟩) hK hP hD hS hA hE (q0 := 0) (ci := 8) rfl rfl rfl rfl hl.1 rfl (Nat.le_of_ble_eq_true rfl) dX8_bow_30 ⟨Nat.zero_le _, Nat.zero_le _⟩ (fun H locs hP hD hS => ?_)
        obtain rfl := Option.some.inj h
        exact hRet hP hD hS dX8_bow_33
abbrev rm_X8_bowOf : Room := { frames := 2, cells := 0, slots := 0, locals := 43 }
theorem hd_X8_bowOf : yX8_bowOf.cls = RX8 ∧ yX8_bowOf.cls ≠ "java/lang/invoke/MethodHandle" ∧ yX8_bowOf.cls ≠ "java/lang/invoke/VarHandle" ∧ (parseMethodDescriptor yX8_bowOf.desc).map (fun d => d.parameters.length) = some 2 := by decide +kernel
set_option maxHeartbeats 4000000 in
set_option maxRecDepth 100000 in
theorem c_X8_bowOf {l : Launch} {G : va_G} {ca : Nat → ClassId} {ev : Nat → Nat} {h0 h1 h2 h3 h4 h5 h6 h7 h8 h9 h10 h11 h12 h13 h14 h15 h16 h17 : Nat} {now : (Nat → Int32)} {kept : (Nat → Int32)} {isKept : Int32} {found : (Nat → Int32)} {order : (Nat → Int32)} {doubts : (Nat → Int32)} {doubtMany : Int32} {weights : (Nat → Int64)} {worn : (Nat → Int32)} {pairs : Int64} {isTwice : Int32} {doer : (Nat → Int32)} {doneTo : (Nat → Int32)} {doers : (Nat → Int64)} {tape : (Nat → Int32)} {taped : Int32} {begins : Int32} {ends : Int32} {sort : Int32} {value : Int32} {isWrong : Int32} {items : (Nat → Int32)} {itemMany : Int32} {bowThen : Int32} {doubtThen : Int32} {deedThen : Int32} {sayingThen : Int32} {widths : (Nat → Int32)} {sizes : (Nat → Int32)} {numbers : (Nat → Int64)} {moved : (Nat → Int64)} {a1 : Int32} {a2 : Int32} {res : Int32 × (Nat → Int32)} (h : f_X8_bowOf now found a1 a2 = some res) : CtI l yX8_bowOf wsX8_bowOf rm_X8_bowOf G ca ev [.ref h0, .int a1, .int a2] (wM ca ev h0 h1 h2 h3 h4 h5 h6 h7 h8 h9 h10 h11 h12 h13 h14 h15 h16 h17 now kept isKept found order doubts doubtMany weights worn pairs isTwice doer doneTo doers tape taped begins ends sort value isWrong items itemMany bowThen doubtThen deedThen sayingThen widths sizes numbers moved) (wM ca ev h0 h1 h2 h3 h4 h5 h6 h7 h8 h9 h10 h11 h12 h13 h14 h15 h16 h17 now kept isKept res.2 order doubts doubtMany weights worn pairs isTwice doer doneTo doers tape taped begins ends sort value isWrong items itemMany bowThen doubtThen deedThen sayingThen widths sizes numbers moved) res.1 := by
  unfold f_X8_bowOf at h
  refine en_i (by decide) rfl (Nat.le_of_ble_eq_true rfl) ?_
  intro p e s m args below meth c A Q H locs ls hx hb hml hown hts hA hP hK hD hE hS hl hRet
  have hown : s.vm.findClass RX8 = some m.cls := hown
  have hl : lv_has ls 3 [(0, .ref h0), (1, .int a1), (2, .int a2)] := hl
  refine lv_aload_n hx hb dX8_bowOf_0 rfl (lv_at hl 0 rfl) ?_
  refine lv_iload_n hx hb dX8_bowOf_1 rfl (lv_at hl 1 rfl) ?_
  obtain ⟨u_1, e_1, h⟩ := bd_some h
  refine cm_Vi (As := [.int a1]) (rest := []) ⟨hx, hb, hml, hown, hts⟩ (c_X8_isBow (ca := ca) (ev := ev) (h0 := h0) (h1 := h1) (h2 := h2) (h3 := h3) (h4 := h4) (h5 := h5) (h6 := h6) (h7 := h7) (h8 := h8) (h9 := h9) (h10 := h10) (h11 := h11) (h12 := h12) (h13 := h13) (h14 := h14) (h15 := h15) (h16 := h16) (h17 := h17) (now := now) (kept := kept) (isKept := isKept) (found := found) (order := order) (doubts := doubts) (doubtMany := doubtMany) (weights := weights) (worn := worn) (pairs := pairs) (isTwice := isTwice) (doer := doer) (doneTo := doneTo) (doers := doers) (tape := tape) (taped := taped) (begins := begins) (ends := ends) (sort := sort) (value := value) (isWrong := isWrong) (items := items) (itemMany := itemMany) (bowThen := bowThen) (doubtThen := doubtThen) (deedThen := deedThen) (sayingThen := sayingThen) (widths := widths) (sizes := sizes) (numbers := numbers) (moved := moved) e_1) (cwV 1 hts gX8_bowOf_X8_isBow rfl rfl rfl hd_X8_isBow ⟨Nat.le_of_ble_eq_true rfl, Nat.le_of_ble_eq_true rfl⟩) hK hP hD hS hA hE (q0 := 0) (ci := 8) rfl rfl rfl rfl hl.1 rfl (Nat.le_of_ble_eq_true rfl) dX8_bowOf_2 ⟨Nat.zero_le _, Nat.zero_le _⟩ (fun H locs hP hD hS => ?_)
  refine lv_if_eq (tgt := 26) hx hb dX8_bowOf_5 (by decide) (fun c_2 => ?_) (fun c_2 => ?_)
  · have h := ifp c_2 h
    refine lv_aload_n hx hb dX8_bowOf_26 rfl (lv_at hl 0 rfl) ?_
    refine lv_ldc (v := (-1000000001 : Int32)) hx hb hown (hts (.constant RX8 77 (-1000000001)) (by decide +kernel)) dX8_bowOf_27 ?_
    obtain ⟨u_3, e_3, h⟩ := bd_some h
    refine cm_Vi (As := [.int (-1000000001 : Int32)]) (rest := []) ⟨hx, hb, hml, hown, hts⟩ (c_X8_finding (ca := ca) (ev := ev) (h0 := h0) (h1 := h1) (h2 := h2) (h3 := h3) (h4 := h4) (h5 := h5) (h6 := h6) (h7 := h7) (h8 := h8) (h9 := h9) (h10 := h10) (h11 := h11) (h12 := h12) (h13 := h13) (h14 := h14) (h15 := h15) (h16 := h16) (h17 := h17) (now := now) (kept := kept) (isKept := isKept) (found := found) (order := order) (doubts := doubts) (doubtMany := doubtMany) (weights := weights) (worn := worn) (pairs := pairs) (isTwice := isTwice) (doer := doer) (doneTo := doneTo) (doers := doers) (tape := tape) (taped := taped) (begins := begins) (ends := ends) (sort := sort) (value := value) (isWrong := isWrong) (items := items) (itemMany := itemMany) (bowThen := bowThen) (doubtThen := doubtThen) (deedThen := deedThen) (sayingThen := sayingThen) (widths := widths) (sizes := sizes) (numbers := numbers) (moved := moved) e_3) (cwV 1 hts gX8_bowOf_X8_finding rfl rfl rfl hd_X8_finding ⟨Nat.le_of_ble_eq_true rfl, Nat.le_of_ble_eq_true rfl⟩) hK hP hD hS hA hE (q0 := 0) (ci := 8) rfl rfl rfl rfl hl.1 rfl (Nat.le_of_ble_eq_true rfl) dX8_bowOf_29 ⟨Nat.zero_le _, Nat.zero_le _⟩ (fun H locs hP hD hS => ?_)
    obtain rfl := Option.some.inj h
    exact hRet hP hD hS dX8_bowOf_32
  · have h := ifn c_2 h
    refine lv_iload_n hx hb dX8_bowOf_8 rfl (lv_at hl 2 rfl) ?_
    refine lv_iconst (v := (0 : Int32)) hx hb dX8_bowOf_9 (by decide) ?_
    refine lv_iconst (v := (3 : Int32)) hx hb dX8_bowOf_10 (by decide) ?_
    obtain ⟨u_4, e_4, h⟩ := bd_some h
    refine cn_Si (As := [.int a2, .int (0 : Int32), .int (3 : Int32)]) (rest := []) ⟨hx, hb, hml, hown, hts⟩ (c_X8_within e_4) (va_cwS 3 hts gX8_bowOf_X8_within rfl rfl rfl hd_X8_within ⟨Nat.le_of_ble_eq_true rfl, Nat.le_of_ble_eq_true rfl⟩) hK hP hD hS hA hE rfl hl.1 rfl (Nat.le_of_ble_eq_true rfl) dX8_bowOf_11 ⟨Nat.zero_le _, Nat.zero_le _⟩ (fun H locs hP hD hS => ?_)
    refine lv_if_eq (tgt := 26) hx hb dX8_bowOf_14 (by decide) (fun c_5 => ?_) (fun c_5 => ?_)
    · have h := ifp c_5 h
      refine lv_aload_n hx hb dX8_bowOf_26 rfl (lv_at hl 0 rfl) ?_
      refine lv_ldc (v := (-1000000001 : Int32)) hx hb hown (hts (.constant RX8 77 (-1000000001)) (by decide +kernel)) dX8_bowOf_27 ?_
      obtain ⟨u_6, e_6, h⟩ := bd_some h
      refine cm_Vi (As := [.int (-1000000001 : Int32)]) (rest := []) ⟨hx, hb, hml, hown, hts⟩ (c_X8_finding (ca := ca) (ev := ev) (h0 := h0) (h1 := h1) (h2 := h2) (h3 := h3) (h4 := h4) (h5 := h5) (h6 := h6) (h7 := h7) (h8 := h8) (h9 := h9) (h10 := h10) (h11 := h11) (h12 := h12) (h13 := h13) (h14 := h14) (h15 := h15) (h16 := h16) (h17 := h17) (now := now) (kept := kept) (isKept := isKept) (found := found) (order := order) (doubts := doubts) (doubtMany := doubtMany) (weights := weights) (worn := worn) (pairs := pairs) (isTwice := isTwice) (doer := doer) (doneTo := doneTo) (doers := doers) (tape := tape) (taped := taped) (begins := begins) (ends := ends) (sort := sort) (value := value) (isWrong := isWrong) (items := items) (itemMany := itemMany) (bowThen := bowThen) (doubtThen := doubtThen) (deedThen := deedThen) (sayingThen := sayingThen) (widths := widths) (sizes := sizes) (numbers := numbers) (moved := moved) e_6) (cwV 1 hts gX8_bowOf_X8_finding rfl rfl rfl hd_X8_finding ⟨Nat.le_of_ble_eq_true rfl, Nat.le_of_ble_eq_true rfl⟩) hK hP hD hS hA hE (q0 := 0) (ci := 8) rfl rfl rfl rfl hl.1 rfl (Nat.le_of_ble_eq_true rfl) dX8_bowOf_29 ⟨Nat.zero_le _, Nat.zero_le _⟩ (fun H locs hP hD hS => ?_)
      obtain rfl := Option.some.inj h
      exact hRet hP hD hS dX8_bowOf_32
    · have h := ifn c_5 h
      refine lv_aload_n hx hb dX8_bowOf_17 rfl (lv_at hl 0 rfl) ?_
      refine lv_iload_n hx hb dX8_bowOf_18 rfl (lv_at hl 1 rfl) ?_
      refine lv_iload_n hx hb dX8_bowOf_19 rfl (lv_at hl 2 rfl) ?_
      obtain ⟨u_7, e_7, h⟩ := bd_some h
      refine cm_Vi (As := [.int a1, .int a2]) (rest := []) ⟨hx, hb, hml, hown, hts⟩ (c_X8_bowIs (ca := ca) (ev := ev) (h0 := h0) (h1 := h1) (h2 := h2) (h3 := h3) (h4 := h4) (h5 := h5) (h6 := h6) (h7 := h7) (h8 := h8) (h9 := h9) (h10 := h10) (h11 := h11) (h12 := h12) (h13 := h13) (h14 := h14) (h15 := h15) (h16 := h16) (h17 := h17) (now := now) (kept := kept) (isKept := isKept) (found := found) (order := order) (doubts := doubts) (doubtMany := doubtMany) (weights := weights) (worn := worn) (pairs := pairs) (isTwice := isTwice) (doer := doer) (doneTo := doneTo) (doers := doers) (tape := tape) (taped := taped) (begins := begins) (ends := ends) (sort := sort) (value := value) (isWrong := isWrong) (items := items) (itemMany := itemMany) (bowThen := bowThen) (doubtThen := doubtThen) (deedThen := deedThen) (sayingThen := sayingThen) (widths := widths) (sizes := sizes) (numbers := numbers) (moved := moved) e_7) (cwV 2 hts gX8_bowOf_X8_bowIs rfl rfl rfl hd_X8_bowIs ⟨Nat.le_of_ble_eq_true rfl, Nat.le_of_ble_eq_true rfl⟩) hK hP hD hS hA hE (q0 := 0) (ci := 8) rfl rfl rfl rfl hl.1 rfl (Nat.le_of_ble_eq_true rfl) dX8_bowOf_20 ⟨Nat.zero_le _, Nat.zero_le _⟩ (fun H locs hP hD hS => ?_)
      refine lv_goto (tgt := 32) hx hb dX8_bowOf_23 (by decide) ?_
      obtain rfl := Option.some.inj h
      exact hRet hP hD hS dX8_bowOf_32
abbrev rm_X8_wouldBeOneTooMany : Room := { frames := 2, cells := 0, slots := 0, locals := 44 }
theorem hd_X8_wouldBeOneTooMany : yX8_wouldBeOneTooMany.cls = RX8 ∧ yX8_wouldBeOneTooMany.cls ≠ "java/lang/invoke/MethodHandle" ∧ yX8_wouldBeOneTooMany.cls ≠ "java/lang/invoke/VarHandle" ∧ (parseMethodDescriptor yX8_wouldBeOneTooMany.desc).map (fun d => d.parameters.length) = some 2 := by decide +kernel
set_option maxHeartbeats 4000000 in
set_option maxRecDepth 100000 in
theorem c_X8_wouldBeOneTooMany {l : Launch} {G : va_G} {ca : Nat → ClassId} {ev : Nat → Nat} {h0 h1 h2 h3 h4 h5 h6 h7 h8 h9 h10 h11 h12 h13 h14 h15 h16 h17 : Nat} {now : (Nat → Int32)} {kept : (Nat → Int32)} {isKept : Int32} {found : (Nat → Int32)} {order : (Nat → Int32)} {doubts : (Nat → Int32)} {doubtMany : Int32} {weights : (Nat → Int64)} {worn : (Nat → Int32)} {pairs : Int64} {isTwice : Int32} {doer : (Nat → Int32)} {doneTo : (Nat → Int32)} {doers : (Nat → Int64)} {tape : (Nat → Int32)} {taped : Int32} {begins : Int32} {ends : Int32} {sort : Int32} {value : Int32} {isWrong : Int32} {items : (Nat → Int32)} {itemMany : Int32} {bowThen : Int32} {doubtThen : Int32} {deedThen : Int32} {sayingThen : Int32} {widths : (Nat → Int32)} {sizes : (Nat → Int32)} {numbers : (Nat → Int64)} {moved : (Nat → Int64)} {a1 : Int32} {a2 : Int32} {N : Nat} {res : Int32} (h : f_X8_wouldBeOneTooMany N now a1 a2 = some res) : CtI l yX8_wouldBeOneTooMany wsX8_wouldBeOneTooMany rm_X8_wouldBeOneTooMany G ca ev [.ref h0, .int a1, .int a2] (wM ca ev h0 h1 h2 h3 h4 h5 h6 h7 h8 h9 h10 h11 h12 h13 h14 h15 h16 h17 now kept isKept found order doubts doubtMany weights worn pairs isTwice doer doneTo doers tape taped begins ends sort value isWrong items itemMany bowThen doubtThen deedThen sayingThen widths sizes numbers moved) (wM ca ev h0 h1 h2 h3 h4 h5 h6 h7 h8 h9 h10 h11 h12 h13 h14 h15 h16 h17 now kept isKept found order doubts doubtMany weights worn pairs isTwice doer doneTo doers tape taped begins ends sort value isWrong items itemMany bowThen doubtThen deedThen sayingThen widths sizes numbers moved) res := by
  unfold f_X8_wouldBeOneTooMany at h
  refine en_z (by decide) rfl (Nat.le_of_ble_eq_true rfl) ?_
  intro p e s m args below meth c A Q H locs ls hx hb hml hown hts hA hP hK hD hE hS hl hRet
  have hown : s.vm.findClass RX8 = some m.cls := hown
  have hl : lv_has ls 3 [(0, .ref h0), (1, .int a1), (2, .int a2)] := hl
  refine lv_iload_n hx hb dX8_wouldBeOneTooMany_0 rfl (lv_at hl 2 rfl) ?_
  refine lv_bipush (v := (10 : Int32)) hx hb dX8_wouldBeOneTooMany_1 (by decide) ?_
  refine lv_icmp_ge (tgt := 30) hx hb dX8_wouldBeOneTooMany_3 (by decide) (fun c_1 => ?_) (fun c_1 => ?_)
  · have h := ifp c_1 h
    refine lv_iconst (v := (0 : Int32)) hx hb dX8_wouldBeOneTooMany_30 (by decide) ?_
    obtain rfl := Option.some.inj h
    exact hRet hP hD hS zb_0 dX8_wouldBeOneTooMany_31
  · have h := ifn c_1 h
    refine lv_aload_n hx hb dX8_wouldBeOneTooMany_6 rfl (lv_at hl 0 rfl) ?_
    refine lv_iload_n hx hb dX8_wouldBeOneTooMany_7 rfl (lv_at hl 1 rfl) ?_
    refine lv_iconst (v := (3 : Int32)) hx hb dX8_wouldBeOneTooMany_8 (by decide) ?_
    obtain ⟨u_2, e_2, h⟩ := bd_some h
    refine cm_Vi (As := [.int a1, .int (3 : Int32)]) (rest := []) ⟨hx, hb, hml, hown, hts⟩ (c_X8_bowIs (ca := ca) (ev := ev) (h0 := h0) (h1 := h1) (h2 := h2) (h3 := h3) (h4 := h4) (h5 := h5) (h6 := h6) (h7 := h7) (h8 := h8) (h9 := h9) (h10 := h10) (h11 := h11) (h12 := h12) (h13 := h13) (h14 := h14) (h15 := h15) (h16 := h16) (h17 := h17) (now := now) (kept := kept) (isKept := isKept) (found := found) (order := order) (doubts := doubts) (doubtMany := doubtMany) (weights := weights) (worn := worn) (pairs := pairs) (isTwice := isTwice) (doer := doer) (doneTo := doneTo) (doers := doers) (tape := tape) (taped := taped) (begins := begins) (ends := ends) (sort := sort) (value := value) (isWrong := isWrong) (items := items) (itemMany := itemMany) (bowThen := bowThen) (doubtThen := doubtThen) (deedThen := deedThen) (sayingThen := sayingThen) (widths := widths) (sizes := sizes) (numbers := numbers) (moved := moved) e_2) (cwV 2 hts gX8_wouldBeOneTooMany_X8_bowIs rfl rfl rfl hd_X8_bowIs ⟨Nat.le_of_ble_eq_true rfl, Nat.le_of_ble_eq_true rfl⟩) hK hP hD hS hA hE (q0 := 0) (ci := 8) rfl rfl rfl rfl hl.1 rfl (Nat.le_of_ble_eq_true rfl) dX8_wouldBeOneTooMany_9 ⟨Nat.zero_le _, Nat.zero_le _⟩ (fun H locs hP hD hS => ?_)
    refine lv_bipush (v := (10 : Int32)) hx hb dX8_wouldBeOneTooMany_12 (by decide) ?_
    refine lv_icmp_ne (tgt := 30) hx hb dX8_wouldBeOneTooMany_14 (by decide) (fun c_3 => ?_) (fun c_3 => ?_)
    · have h := ifn c_3 h
      refine lv_iconst (v := (0 : Int32)) hx hb dX8_wouldBeOneTooMany_30 (by decide) ?_
      obtain rfl := Option.some.inj h
      exact hRet hP hD hS zb_0 dX8_wouldBeOneTooMany_31
    · have h := ifp c_3 h
      refine lv_aload_n hx hb dX8_wouldBeOneTooMany_17 rfl (lv_at hl 0 rfl) ?_
      obtain ⟨u_4, e_4, h⟩ := bd_some h
      refine cm_Vi (As := []) (rest := []) ⟨hx, hb, hml, hown, hts⟩ (c_X8_doubtedOnes (ca := ca) (ev := ev) (h0 := h0) (h1 := h1) (h2 := h2) (h3 := h3) (h4 := h4) (h5 := h5) (h6 := h6) (h7 := h7) (h8 := h8) (h9 := h9) (h10 := h10) (h11 := h11) (h12 := h12) (h13 := h13) (h14 := h14) (h15 := h15) (h16 := h16) (h17 := h17) (now := now) (kept := kept) (isKept := isKept) (found := found) (order := order) (doubts := doubts) (doubtMany := doubtMany) (weights := weights) (worn := worn) (pairs := pairs) (isTwice := isTwice) (doer := doer) (doneTo := doneTo) (doers := doers) (tape := tape) (taped := taped) (begins := begins) (ends := ends) (sort := sort) (value := value) (isWrong := isWrong) (items := items) (itemMany := itemMany) (bowThen := bowThen) (doubtThen := doubtThen) (deedThen := deedThen) (sayingThen := sayingThen) (widths := widths) (sizes := sizes) (numbers := numbers) (moved := moved) e_4) (cwV 0 hts gX8_wouldBeOneTooMany_X8_doubtedOnes rfl rfl rfl hd_X8_doubtedOnes ⟨Nat.le_of_ble_eq_true rfl, Nat.le_of_ble_eq_true rfl⟩) hK hP hD hS hA hE (q0 := 0) (ci := 8) rfl rfl rfl rfl hl.1 rfl (Nat.le_of_ble_eq_true rfl) dX8_wouldBeOneTooMany_18 ⟨Nat.zero_le _, Nat.zero_le _⟩ (fun H locs hP hD hS => ?_)
      refine lv_bipush (v := (6 : Int32)) hx hb dX8_wouldBeOneTooMany_21 (by decide) ?_
      refine lv_icmp_ne (tgt := 30) hx hb dX8_wouldBeOneTooMany_23 (by decide) (fun c_5 => ?_) (fun c_5 => ?_)
      · have h := ifn c_5 h
        refine lv_iconst (v := (0 : Int32)) hx hb dX8_wouldBeOneTooMany_30 (by decide) ?_
        obtain rfl := Option.some.inj h
        exact hRet hP hD hS zb_0 dX8_wouldBeOneTooMany_31
      · have h := ifp c_5 h
        refine lv_iconst (v := (1 : Int32)) hx hb dX8_wouldBeOneTooMany_26 (by decide) ?_
        refine lv_goto (tgt := 31) hx hb dX8_wouldBeOneTooMany_27 (by decide) ?_
        obtain rfl := Option.some.inj h
        exact hRet hP hD hS zb_1 dX8_wouldBeOneTooMany_31
abbrev rm_X8_doubt : Room := { frames := 3, cells := 0, slots := 0, locals := 66 }
theorem hd_X8_doubt : yX8_doubt.cls = RX8 ∧ yX8_doubt.cls ≠ "java/lang/invoke/MethodHandle" ∧ yX8_doubt.cls ≠ "java/lang/invoke/VarHandle" ∧ (parseMethodDescriptor yX8_doubt.desc).map (fun d => d.parameters.length) = some 2 := by decide +kernel
set_option maxHeartbeats 4000000 in
set_option maxRecDepth 100000 in
theorem c_X8_doubt {l : Launch} {G : va_G} {ca : Nat → ClassId} {ev : Nat → Nat} {h0 h1 h2 h3 h4 h5 h6 h7 h8 h9 h10 h11 h12 h13 h14 h15 h16 h17 : Nat} {now : (Nat → Int32)} {kept : (Nat → Int32)} {isKept : Int32} {found : (Nat → Int32)} {order : (Nat → Int32)} {doubts : (Nat → Int32)} {doubtMany : Int32} {weights : (Nat → Int64)} {worn : (Nat → Int32)} {pairs : Int64} {isTwice : Int32} {doer : (Nat → Int32)} {doneTo : (Nat → Int32)} {doers : (Nat → Int64)} {tape : (Nat → Int32)} {taped : Int32} {begins : Int32} {ends : Int32} {sort : Int32} {value : Int32} {isWrong : Int32} {items : (Nat → Int32)} {itemMany : Int32} {bowThen : Int32} {doubtThen : Int32} {deedThen : Int32} {sayingThen : Int32} {widths : (Nat → Int32)} {sizes : (Nat → Int32)} {numbers : (Nat → Int64)} {moved : (Nat → Int64)} {a1 : Int32} {a2 : Int32} {N : Nat} {res : Int32 × (Nat → Int32) × (Nat → Int32)} (h : f_X8_doubt N now found a1 a2 = some res) : CtI l yX8_doubt wsX8_doubt rm_X8_doubt G ca ev [.ref h0, .int a1, .int a2] (wM ca ev h0 h1 h2 h3 h4 h5 h6 h7 h8 h9 h10 h11 h12 h13 h14 h15 h16 h17 now kept isKept found order doubts doubtMany weights worn pairs isTwice doer doneTo doers tape taped begins ends sort value isWrong items itemMany bowThen doubtThen deedThen sayingThen widths sizes numbers moved) (wM ca ev h0 h1 h2 h3 h4 h5 h6 h7 h8 h9 h10 h11 h12 h13 h14 h15 h16 h17 res.2.1 kept isKept res.2.2 order doubts doubtMany weights worn pairs isTwice doer doneTo doers tape taped begins ends sort value isWrong items itemMany bowThen doubtThen deedThen sayingThen widths sizes numbers moved) res.1 := by
  unfold f_X8_doubt at h
  refine en_i (by decide) rfl (Nat.le_of_ble_eq_true rfl) ?_
  intro p e s m args below meth c A Q H locs ls hx hb hml hown hts hA hP hK hD hE hS hl hRet
  have hown : s.vm.findClass RX8 = some m.cls := hown
  have hl : lv_has ls 3 [(0, .ref h0), (1, .int a1), (2, .int a2)] := hl
  refine lv_aload_n hx hb dX8_doubt_0 rfl (lv_at hl 0 rfl) ?_
  refine lv_iload_n hx hb dX8_doubt_1 rfl (lv_at hl 1 rfl) ?_
  obtain ⟨u_1, e_1, h⟩ := bd_some h
  refine cm_Vi (As := [.int a1]) (rest := []) ⟨hx, hb, hml, hown, hts⟩ (c_X8_isBow (ca := ca) (ev := ev) (h0 := h0) (h1 := h1) (h2 := h2) (h3 := h3) (h4 := h4) (h5 := h5) (h6 := h6) (h7 := h7) (h8 := h8) (h9 := h9) (h10 := h10) (h11 := h11) (h12 := h12) (h13 := h13) (h14 := h14) (h15 := h15) (h16 := h16) (h17 := h17) (now := now) (kept := kept) (isKept := isKept) (found := found) (order := order) (doubts := doubts) (doubtMany := doubtMany) (weights := weights) (worn := worn) (pairs := pairs) (isTwice := isTwice) (doer := doer) (doneTo := doneTo) (doers := doers) (tape := tape) (taped := taped) (begins := begins) (ends := ends) (sort := sort) (value := value) (isWrong := isWrong) (items := items) (itemMany := itemMany) (bowThen := bowThen) (doubtThen := doubtThen) (deedThen := deedThen) (sayingThen := sayingThen) (widths := widths) (sizes := sizes) (numbers := numbers) (moved := moved) e_1) (cwV 1 hts gX8_doubt_X8_isBow rfl rfl rfl hd_X8_isBow ⟨Nat.le_of_ble_eq_true rfl, Nat.le_of_ble_eq_true rfl⟩) hK hP hD hS hA hE (q0 := 0) (ci := 8) rfl rfl rfl rfl hl.1 rfl (Nat.le_of_ble_eq_true rfl) dX8_doubt_2 ⟨Nat.zero_le _, Nat.zero_le _⟩ (fun H locs hP hD hS => ?_)
  refine lv_if_eq (tgt := 18) hx hb dX8_doubt_5 (by decide) (fun c_2 => ?_) (fun c_2 => ?_)
  · have h := ifp c_2 h
    refine lv_aload_n hx hb dX8_doubt_18 rfl (lv_at hl 0 rfl) ?_
    refine lv_ldc (v := (-1000000001 : Int32)) hx hb hown (hts (.constant RX8 77 (-1000000001)) (by decide +kernel)) dX8_doubt_19 ?_
    obtain ⟨u_3, e_3, h⟩ := bd_some h
    refine cm_Vi (As := [.int (-1000000001 : Int32)]) (rest := []) ⟨hx, hb, hml, hown, hts⟩ (c_X8_finding (ca := ca) (ev := ev) (h0 := h0) (h1 := h1) (h2 := h2) (h3 := h3) (h4 := h4) (h5 := h5) (h6 := h6) (h7 := h7) (h8 := h8) (h9 := h9) (h10 := h10) (h11 := h11) (h12 := h12) (h13 := h13) (h14 := h14) (h15 := h15) (h16 := h16) (h17 := h17) (now := now) (kept := kept) (isKept := isKept) (found := found) (order := order) (doubts := doubts) (doubtMany := doubtMany) (weights := weights) (worn := worn) (pairs := pairs) (isTwice := isTwice) (doer := doer) (doneTo := doneTo) (doers := doers) (tape := tape) (taped := taped) (begins := begins) (ends := ends) (sort := sort) (value := value) (isWrong := isWrong) (items := items) (itemMany := itemMany) (bowThen := bowThen) (doubtThen := doubtThen) (deedThen := deedThen) (sayingThen := sayingThen) (widths := widths) (sizes := sizes) (numbers := numbers) (moved := moved) e_3) (cwV 1 hts gX8_doubt_X8_finding rfl rfl rfl hd_X8_finding ⟨Nat.le_of_ble_eq_true rfl, Nat.le_of_ble_eq_true rfl⟩) hK hP hD hS hA hE (q0 := 0) (ci := 8) rfl rfl rfl rfl hl.1 rfl (Nat.le_of_ble_eq_true rfl) dX8_doubt_21 ⟨Nat.zero_le _, Nat.zero_le _⟩ (fun H locs hP hD hS => ?_)
    obtain rfl := Option.some.inj h
    exact hRet hP hD hS dX8_doubt_24
  · have h := ifn c_2 h
    refine lv_iload_n hx hb dX8_doubt_8 rfl (lv_at hl 2 rfl) ?_
    refine lv_iconst (v := (0 : Int32)) hx hb dX8_doubt_9 (by decide) ?_
    refine lv_bipush (v := (10 : Int32)) hx hb dX8_doubt_10 (by decide) ?_
    obtain ⟨u_4, e_4, h⟩ := bd_some h
    refine cn_Si (As := [.int a2, .int (0 : Int32), .int (10 : Int32)]) (rest := []) ⟨hx, hb, hml, hown, hts⟩ (c_X8_within e_4) (va_cwS 3 hts gX8_doubt_X8_within rfl rfl rfl hd_X8_within ⟨Nat.le_of_ble_eq_true rfl, Nat.le_of_ble_eq_true rfl⟩) hK hP hD hS hA hE rfl hl.1 rfl (Nat.le_of_ble_eq_true rfl) dX8_doubt_12 ⟨Nat.zero_le _, Nat.zero_le _⟩ (fun H locs hP hD hS => ?_)
    refine lv_if_ne (tgt := 25) hx hb dX8_doubt_15 (by decide) (fun c_5 => ?_) (fun c_5 => ?_)
    · have h := ifn c_5 h
      refine lv_aload_n hx hb dX8_doubt_25 rfl (lv_at hl 0 rfl) ?_
      refine lv_iload_n hx hb dX8_doubt_26 rfl (lv_at hl 1 rfl) ?_
      refine lv_iload_n hx hb dX8_doubt_27 rfl (lv_at hl 2 rfl) ?_
      obtain ⟨u_6, e_6, h⟩ := bd_some h
      refine cm_Vi (As := [.int a1, .int a2]) (rest := []) ⟨hx, hb, hml, hown, hts⟩ (c_X8_wouldBeOneTooMany (ca := ca) (ev := ev) (h0 := h0) (h1 := h1) (h2 := h2) (h3 := h3) (h4 := h4) (h5 := h5) (h6 := h6) (h7 := h7) (h8 := h8) (h9 := h9) (h10 := h10) (h11 := h11) (h12 := h12) (h13 := h13) (h14 := h14) (h15 := h15) (h16 := h16) (h17 := h17) (now := now) (kept := kept) (isKept := isKept) (found := found) (order := order) (doubts := doubts) (doubtMany := doubtMany) (weights := weights) (worn := worn) (pairs := pairs) (isTwice := isTwice) (doer := doer) (doneTo := doneTo) (doers := doers) (tape := tape) (taped := taped) (begins := begins) (ends := ends) (sort := sort) (value := value) (isWrong := isWrong) (items := items) (itemMany := itemMany) (bowThen := bowThen) (doubtThen := doubtThen) (deedThen := deedThen) (sayingThen := sayingThen) (widths := widths) (sizes := sizes) (numbers := numbers) (moved := moved) e_6) (cwV 2 hts gX8_doubt_X8_wouldBeOneTooMany rfl rfl rfl hd_X8_wouldBeOneTooMany ⟨Nat.le_of_ble_eq_true rfl, Nat.le_of_ble_eq_true rfl⟩) hK hP hD hS hA hE (q0 := 0) (ci := 8) rfl rfl rfl rfl hl.1 rfl (Nat.le_of_ble_eq_true rfl) dX8_doubt_28 ⟨Nat.zero_le _, Nat.zero_le _⟩ (fun H locs hP hD hS => ?_)
      refine lv_if_eq (tgt := 43) hx hb dX8_doubt_31 (by decide) (fun c_7 => ?_) (fun c_7 => ?_)
      · have h := ifp c_7 h
        refine lv_aload_n hx hb dX8_doubt_43 rfl (lv_at hl 0 rfl) ?_
        refine lv_bipush (v := (6 : Int32)) hx hb dX8_doubt_44 (by decide) ?_
        refine lv_iconst (v := (4 : Int32)) hx hb dX8_doubt_46 (by decide) ?_
        refine lv_iload_n hx hb dX8_doubt_47 rfl (lv_at hl 1 rfl) ?_
        refine lv_imul hx hb dX8_doubt_48 ?_
        refine lv_iadd hx hb dX8_doubt_49 ?_
        refine lv_iconst (v := (3 : Int32)) hx hb dX8_doubt_50 (by decide) ?_
        refine lv_iadd hx hb dX8_doubt_51 ?_
        refine lv_iload_n hx hb dX8_doubt_52 rfl (lv_at hl 2 rfl) ?_
        obtain ⟨u_8, e_8, h⟩ := bd_some h
        refine cm_Vi (As := [.int (((6 : Int32) + ((4 : Int32) * a1)) + (3 : Int32)), .int a2]) (rest := []) ⟨hx, hb, hml, hown, hts⟩ (c_X8_become (ca := ca) (ev := ev) (h0 := h0) (h1 := h1) (h2 := h2) (h3 := h3) (h4 := h4) (h5 := h5) (h6 := h6) (h7 := h7) (h8 := h8) (h9 := h9) (h10 := h10) (h11 := h11) (h12 := h12) (h13 := h13) (h14 := h14) (h15 := h15) (h16 := h16) (h17 := h17) (now := now) (kept := kept) (isKept := isKept) (found := found) (order := order) (doubts := doubts) (doubtMany := doubtMany) (weights := weights) (worn := worn) (pairs := pairs) (isTwice := isTwice) (doer := doer) (doneTo := doneTo) (doers := doers) (tape := tape) (taped := taped) (begins := begins) (ends := ends) (sort := sort) (value := value) (isWrong := isWrong) (items := items) (itemMany := itemMany) (bowThen := bowThen) (doubtThen := doubtThen) (deedThen := deedThen) (sayingThen := sayingThen) (widths := widths) (sizes := sizes) (numbers := numbers) (moved := moved) e_8) (cwV 2 hts gX8_doubt_X8_become rfl rfl rfl hd_X8_become ⟨Nat.le_of_ble_eq_true rfl, Nat.le_of_ble_eq_true rfl⟩) hK hP hD hS hA hE (q0 := 0) (ci := 8) rfl rfl rfl rfl hl.1 rfl (Nat.le_of_ble_eq_true rfl) dX8_doubt_53 ⟨Nat.zero_le _, Nat.zero_le _⟩ (fun H locs hP hD hS => ?_)
        obtain rfl := Option.some.inj h
        exact hRet hP hD hS dX8_doubt_56
      · have h := ifn c_7 h
        refine lv_aload_n hx hb dX8_doubt_34 rfl (lv_at hl 0 rfl) ?_
        refine lv_ldc (v := (-1000000002 : Int32)) hx hb hown (hts (.constant RX8 109 (-1000000002)) (by decide +kernel)) dX8_doubt_35 ?_
        obtain ⟨u_9, e_9, h⟩ := bd_some h
        refine cm_Vi (As := [.int (-1000000002 : Int32)]) (rest := []) ⟨hx, hb, hml, hown, hts⟩ (c_X8_finding (ca := ca) (ev := ev) (h0 := h0) (h1 := h1) (h2 := h2) (h3 := h3) (h4 := h4) (h5 := h5) (h6 := h6) (h7 := h7) (h8 := h8) (h9 := h9) (h10 := h10) (h11 := h11) (h12 := h12) (h13 := h13) (h14 := h14) (h15 := h15) (h16 := h16) (h17 := h17) (now := now) (kept := kept) (isKept := isKept) (found := found) (order := order) (doubts := doubts) (doubtMany := doubtMany) (weights := weights) (worn := worn) (pairs := pairs) (isTwice := isTwice) (doer := doer) (doneTo := doneTo) (doers := doers) (tape := tape) (taped := taped) (begins := begins) (ends := ends) (sort := sort) (value := value) (isWrong := isWrong) (items := items) (itemMany := itemMany) (bowThen := bowThen) (doubtThen := doubtThen) (deedThen := deedThen) (sayingThen := sayingThen) (widths := widths) (sizes := sizes) (numbers := numbers) (moved := moved) e_9) (cwV 1 hts gX8_doubt_X8_finding rfl rfl rfl hd_X8_finding ⟨Nat.le_of_ble_eq_true rfl, Nat.le_of_ble_eq_true rfl⟩) hK hP hD hS hA hE (q0 := 0) (ci := 8) rfl rfl rfl rfl hl.1 rfl (Nat.le_of_ble_eq_true rfl) dX8_doubt_37 ⟨Nat.zero_le _, Nat.zero_le _⟩ (fun H locs hP hD hS => ?_)
        refine lv_goto (tgt := 56) hx hb dX8_doubt_40 (by decide) ?_
        obtain rfl := Option.some.inj h
        exact hRet hP hD hS dX8_doubt_56
    · have h := ifp c_5 h
      refine lv_aload_n hx hb dX8_doubt_18 rfl (lv_at hl 0 rfl) ?_
      refine lv_ldc (v := (-1000000001 : Int32)) hx hb hown (hts (.constant RX8 77 (-1000000001)) (by decide +kernel)) dX8_doubt_19 ?_
      obtain ⟨u_10, e_10, h⟩ := bd_some h
      refine cm_Vi (As := [.int (-1000000001 : Int32)]) (rest := []) ⟨hx, hb, hml, hown, hts⟩ (c_X8_finding (ca := ca) (ev := ev) (h0 := h0) (h1 := h1) (h2 := h2) (h3 := h3) (h4 := h4) (h5 := h5) (h6 := h6) (h7 := h7) (h8 := h8) (h9 := h9) (h10 := h10) (h11 := h11) (h12 := h12) (h13 := h13) (h14 := h14) (h15 := h15) (h16 := h16) (h17 := h17) (now := now) (kept := kept) (isKept := isKept) (found := found) (order := order) (doubts := doubts) (doubtMany := doubtMany) (weights := weights) (worn := worn) (pairs := pairs) (isTwice := isTwice) (doer := doer) (doneTo := doneTo) (doers := doers) (tape := tape) (taped := taped) (begins := begins) (ends := ends) (sort := sort) (value := value) (isWrong := isWrong) (items := items) (itemMany := itemMany) (bowThen := bowThen) (doubtThen := doubtThen) (deedThen := deedThen) (sayingThen := sayingThen) (widths := widths) (sizes := sizes) (numbers := numbers) (moved := moved) e_10) (cwV 1 hts gX8_doubt_X8_finding rfl rfl rfl hd_X8_finding ⟨Nat.le_of_ble_eq_true rfl, Nat.le_of_ble_eq_true rfl⟩) hK hP hD hS hA hE (q0 := 0) (ci := 8) rfl rfl rfl rfl hl.1 rfl (Nat.le_of_ble_eq_true rfl) dX8_doubt_21 ⟨Nat.zero_le _, Nat.zero_le _⟩ (fun H locs hP hD hS => ?_)
      obtain rfl := Option.some.inj h
      exact hRet hP hD hS dX8_doubt_24
abbrev rm_X8_let : Room := { frames := 1, cells := 0, slots := 0, locals := 23 }
theorem hd_X8_let : yX8_let.cls = RX8 ∧ yX8_let.cls ≠ "java/lang/invoke/MethodHandle" ∧ yX8_let.cls ≠ "java/lang/invoke/VarHandle" ∧ (parseMethodDescriptor yX8_let.desc).map (fun d => d.parameters.length) = some 2 := by decide +kernel
set_option maxHeartbeats 4000000 in
set_option maxRecDepth 100000 in
theorem c_X8_let {l : Launch} {G : va_G} {ca : Nat → ClassId} {ev : Nat → Nat} {h0 h1 h2 h3 h4 h5 h6 h7 h8 h9 h10 h11 h12 h13 h14 h15 h16 h17 : Nat} {now : (Nat → Int32)} {kept : (Nat → Int32)} {isKept : Int32} {found : (Nat → Int32)} {order : (Nat → Int32)} {doubts : (Nat → Int32)} {doubtMany : Int32} {weights : (Nat → Int64)} {worn : (Nat → Int32)} {pairs : Int64} {isTwice : Int32} {doer : (Nat → Int32)} {doneTo : (Nat → Int32)} {doers : (Nat → Int64)} {tape : (Nat → Int32)} {taped : Int32} {begins : Int32} {ends : Int32} {sort : Int32} {value : Int32} {isWrong : Int32} {items : (Nat → Int32)} {itemMany : Int32} {bowThen : Int32} {doubtThen : Int32} {deedThen : Int32} {sayingThen : Int32} {widths : (Nat → Int32)} {sizes : (Nat → Int32)} {numbers : (Nat → Int64)} {moved : (Nat → Int64)} {a1 : Int32} {a2 : Int32} {res : Int32 × (Nat → Int32) × (Nat → Int32)} (h : f_X8_let now found a1 a2 = some res) : CtI l yX8_let wsX8_let rm_X8_let G ca ev [.ref h0, .int a1, .int a2] (wM ca ev h0 h1 h2 h3 h4 h5 h6 h7 h8 h9 h10 h11 h12 h13 h14 h15 h16 h17 now kept isKept found order doubts doubtMany weights worn pairs isTwice doer doneTo doers tape taped begins ends sort value isWrong items itemMany bowThen doubtThen deedThen sayingThen widths sizes numbers moved) (wM ca ev h0 h1 h2 h3 h4 h5 h6 h7 h8 h9 h10 h11 h12 h13 h14 h15 h16 h17 res.2.1 kept isKept res.2.2 order doubts doubtMany weights worn pairs isTwice doer doneTo doers tape taped begins ends sort value isWrong items itemMany bowThen doubtThen deedThen sayingThen widths sizes numbers moved) res.1 := by
  unfold f_X8_let at h
  refine en_i (by decide) rfl (Nat.le_of_ble_eq_true rfl) ?_
  intro p e s m args below meth c A Q H locs ls hx hb hml hown hts hA hP hK hD hE hS hl hRet
  have hown : s.vm.findClass RX8 = some m.cls := hown
  have hl : lv_has ls 4 [(0, .ref h0), (1, .int a1), (2, .int a2)] := hl
  refine lv_iload_n hx hb dX8_let_0 rfl (lv_at hl 1 rfl) ?_
  refine lv_iconst (v := (0 : Int32)) hx hb dX8_let_1 (by decide) ?_
  refine lv_iconst (v := (1 : Int32)) hx hb dX8_let_2 (by decide) ?_
  obtain ⟨u_1, e_1, h⟩ := bd_some h
  refine cn_Si (As := [.int a1, .int (0 : Int32), .int (1 : Int32)]) (rest := []) ⟨hx, hb, hml, hown, hts⟩ (c_X8_within e_1) (va_cwS 3 hts gX8_let_X8_within rfl rfl rfl hd_X8_within ⟨Nat.le_of_ble_eq_true rfl, Nat.le_of_ble_eq_true rfl⟩) hK hP hD hS hA hE rfl hl.1 rfl (Nat.le_of_ble_eq_true rfl) dX8_let_3 ⟨Nat.zero_le _, Nat.zero_le _⟩ (fun H locs hP hD hS => ?_)
  refine lv_if_ne (tgt := 16) hx hb dX8_let_6 (by decide) (fun c_2 => ?_) (fun c_2 => ?_)
  · have h := ifn c_2 h
    refine lv_iload_n hx hb dX8_let_16 rfl (lv_at hl 2 rfl) ?_
    obtain ⟨u_3, e_3, h⟩ := bd_some h
    have J_3 : ∀ {H : Heap} {locs : List Loc} {ls : Array Slot}, va_P G vwCl (wM ca ev h0 h1 h2 h3 h4 h5 h6 h7 h8 h9 h10 h11 h12 h13 h14 h15 h16 h17 now kept isKept found order doubts doubtMany weights worn pairs isTwice doer doneTo doers tape taped begins ends sort value isWrong items itemMany bowThen doubtThen deedThen sayingThen widths sizes numbers moved) H → va_D A (wM ca ev h0 h1 h2 h3 h4 h5 h6 h7 h8 h9 h10 h11 h12 h13 h14 h15 h16 h17 now kept isKept found order doubts doubtMany weights worn pairs isTwice doer doneTo doers tape taped begins ends sort value isWrong items itemMany bowThen doubtThen deedThen sayingThen widths sizes numbers moved) → va_S A s.heap H locs → lv_has ls 4 [(0, .ref h0), (1, .int a1)] → (u_3 = 0 ∨ u_3 = 1) → W p l e rm_X8_let s m args below meth c H locs 0 0 Q (F0 m 25 ls [.int u_3]) := by
      intro H locs ls hP hD hS hl zj_3_0
      refine lv_istore_n (lv' := [(3, .int u_3), (0, .ref h0), (1, .int a1)]) hx hb dX8_let_25 rfl hl (by decide) rfl (fun ls hl => ?_)
      refine lv_aload_n hx hb dX8_let_26 rfl (lv_at hl 1 rfl) ?_
      refine lv_iconst (v := (1 : Int32)) hx hb dX8_let_27 (by decide) ?_
      refine lv_iload_n hx hb dX8_let_28 rfl (lv_at hl 2 rfl) ?_
      refine lv_iadd hx hb dX8_let_29 ?_
      refine lv_iload_n hx hb dX8_let_30 rfl (lv_at hl 0 rfl) ?_
      obtain ⟨u_4, e_4, h⟩ := bd_some h
      refine cm_Vi (As := [.int ((1 : Int32) + a1), .int u_3]) (rest := []) ⟨hx, hb, hml, hown, hts⟩ (c_X8_become (ca := ca) (ev := ev) (h0 := h0) (h1 := h1) (h2 := h2) (h3 := h3) (h4 := h4) (h5 := h5) (h6 := h6) (h7 := h7) (h8 := h8) (h9 := h9) (h10 := h10) (h11 := h11) (h12 := h12) (h13 := h13) (h14 := h14) (h15 := h15) (h16 := h16) (h17 := h17) (now := now) (kept := kept) (isKept := isKept) (found := found) (order := order) (doubts := doubts) (doubtMany := doubtMany) (weights := weights) (worn := worn) (pairs := pairs) (isTwice := isTwice) (doer := doer) (doneTo := doneTo) (doers := doers) (tape := tape) (taped := taped) (begins := begins) (ends := ends) (sort := sort) (value := value) (isWrong := isWrong) (items := items) (itemMany := itemMany) (bowThen := bowThen) (doubtThen := doubtThen) (deedThen := deedThen) (sayingThen := sayingThen) (widths := widths) (sizes := sizes) (numbers := numbers) (moved := moved) e_4) (cwV 2 hts gX8_let_X8_become rfl rfl rfl hd_X8_become ⟨Nat.le_of_ble_eq_true rfl, Nat.le_of_ble_eq_true rfl⟩) hK hP hD hS hA hE (q0 := 0) (ci := 8) rfl rfl rfl rfl hl.1 rfl (Nat.le_of_ble_eq_true rfl) dX8_let_31 ⟨Nat.zero_le _, Nat.zero_le _⟩ (fun H locs hP hD hS => ?_)
      refine lv_iload_n hx hb dX8_let_34 rfl (lv_at hl 0 rfl) ?_
      refine lv_icmp_ne (tgt := 42) hx hb dX8_let_35 (by decide) (fun c_5 => ?_) (fun c_5 => ?_)
      · have h := ifn c_5 h
        refine lv_iconst (v := (1 : Int32)) hx hb dX8_let_42 (by decide) ?_
        obtain rfl := Option.some.inj h
        exact hRet hP hD hS dX8_let_43
      · have h := ifp c_5 h
        refine lv_iconst (v := (0 : Int32)) hx hb dX8_let_38 (by decide) ?_
        refine lv_goto (tgt := 43) hx hb dX8_let_39 (by decide) ?_
        obtain rfl := Option.some.inj h
        exact hRet hP hD hS dX8_let_43
    have h := e_3
    clear e_3
    refine lv_if_eq (tgt := 24) hx hb dX8_let_17 (by decide) (fun c_3 => ?_) (fun c_3 => ?_)
    · have h := ifp c_3 h
      refine lv_iconst (v := (0 : Int32)) hx hb dX8_let_24 (by decide) ?_
      obtain rfl := Option.some.inj h
      exact J_3 hP hD hS (lv_sub hl [0, 1] rfl) zb_0
    · have h := ifn c_3 h
      refine lv_iconst (v := (1 : Int32)) hx hb dX8_let_20 (by decide) ?_
      refine lv_goto (tgt := 25) hx hb dX8_let_21 (by decide) ?_
      obtain rfl := Option.some.inj h
      exact J_3 hP hD hS (lv_sub hl [0, 1] rfl) zb_1
  · have h := ifp c_2 h
    refine lv_aload_n hx hb dX8_let_9 rfl (lv_at hl 0 rfl) ?_
    refine lv_ldc (v := (-1000000001 : Int32)) hx hb hown (hts (.constant RX8 77 (-1000000001)) (by decide +kernel)) dX8_let_10 ?_
    obtain ⟨u_6, e_6, h⟩ := bd_some h
    refine cm_Vi (As := [.int (-1000000001 : Int32)]) (rest := []) ⟨hx, hb, hml, hown, hts⟩ (c_X8_finding (ca := ca) (ev := ev) (h0 := h0) (h1 := h1) (h2 := h2) (h3 := h3) (h4 := h4) (h5 := h5) (h6 := h6) (h7 := h7) (h8 := h8) (h9 := h9) (h10 := h10) (h11 := h11) (h12 := h12) (h13 := h13) (h14 := h14) (h15 := h15) (h16 := h16) (h17 := h17) (now := now) (kept := kept) (isKept := isKept) (found := found) (order := order) (doubts := doubts) (doubtMany := doubtMany) (weights := weights) (worn := worn) (pairs := pairs) (isTwice := isTwice) (doer := doer) (doneTo := doneTo) (doers := doers) (tape := tape) (taped := taped) (begins := begins) (ends := ends) (sort := sort) (value := value) (isWrong := isWrong) (items := items) (itemMany := itemMany) (bowThen := bowThen) (doubtThen := doubtThen) (deedThen := deedThen) (sayingThen := sayingThen) (widths := widths) (sizes := sizes) (numbers := numbers) (moved := moved) e_6) (cwV 1 hts gX8_let_X8_finding rfl rfl rfl hd_X8_finding ⟨Nat.le_of_ble_eq_true rfl, Nat.le_of_ble_eq_true rfl⟩) hK hP hD hS hA hE (q0 := 0) (ci := 8) rfl rfl rfl rfl hl.1 rfl (Nat.le_of_ble_eq_true rfl) dX8_let_12 ⟨Nat.zero_le _, Nat.zero_le _⟩ (fun H locs hP hD hS => ?_)
    obtain rfl := Option.some.inj h
    exact hRet hP hD hS dX8_let_15
abbrev rm_X8_said : Room := { frames := 0, cells := 0, slots := 0, locals := 0 }
theorem hd_X8_said : yX8_said.cls = RX8 ∧ yX8_said.cls ≠ "java/lang/invoke/MethodHandle" ∧ yX8_said.cls ≠ "java/lang/invoke/VarHandle" ∧ (parseMethodDescriptor yX8_said.desc).map (fun d => d.parameters.length) = some 4 := by decide +kernel
set_option maxHeartbeats 4000000 in
set_option maxRecDepth 100000 in
theorem c_X8_said {l : Launch} {G : va_G} {ca : Nat → ClassId} {ev : Nat → Nat} {h0 h1 h2 h3 h4 h5 h6 h7 h8 h9 h10 h11 h12 h13 h14 h15 h16 h17 : Nat} {now : (Nat → Int32)} {kept : (Nat → Int32)} {isKept : Int32} {found : (Nat → Int32)} {order : (Nat → Int32)} {doubts : (Nat → Int32)} {doubtMany : Int32} {weights : (Nat → Int64)} {worn : (Nat → Int32)} {pairs : Int64} {isTwice : Int32} {doer : (Nat → Int32)} {doneTo : (Nat → Int32)} {doers : (Nat → Int64)} {tape : (Nat → Int32)} {taped : Int32} {begins : Int32} {ends : Int32} {sort : Int32} {value : Int32} {isWrong : Int32} {items : (Nat → Int32)} {itemMany : Int32} {bowThen : Int32} {doubtThen : Int32} {deedThen : Int32} {sayingThen : Int32} {widths : (Nat → Int32)} {sizes : (Nat → Int32)} {numbers : (Nat → Int64)} {moved : (Nat → Int64)} {a1 : Int32} {a2 : Int32} {a3 : Int32} {a4 : Int32} {res : Int32 × (Nat → Int32)} (h : f_X8_said now a1 a2 a3 a4 = some res) : CtI l yX8_said wsX8_said rm_X8_said G ca ev [.ref h0, .int a1, .int a2, .int a3, .int a4] (wM ca ev h0 h1 h2 h3 h4 h5 h6 h7 h8 h9 h10 h11 h12 h13 h14 h15 h16 h17 now kept isKept found order doubts doubtMany weights worn pairs isTwice doer doneTo doers tape taped begins ends sort value isWrong items itemMany bowThen doubtThen deedThen sayingThen widths sizes numbers moved) (wM ca ev h0 h1 h2 h3 h4 h5 h6 h7 h8 h9 h10 h11 h12 h13 h14 h15 h16 h17 res.2 kept isKept found order doubts doubtMany weights worn pairs isTwice doer doneTo doers tape taped begins ends sort value isWrong items itemMany bowThen doubtThen deedThen sayingThen widths sizes numbers moved) res.1 := by
  unfold f_X8_said at h
  refine en_i (by decide) rfl (Nat.le_of_ble_eq_true rfl) ?_
  intro p e s m args below meth c A Q H locs ls hx hb hml hown hts hA hP hK hD hE hS hl hRet
  have hown : s.vm.findClass RX8 = some m.cls := hown
  have hl : lv_has ls 7 [(0, .ref h0), (1, .int a1), (2, .int a2), (3, .int a3), (4, .int a4)] := hl
  have hin_X8 : ∀ w ∈ u_ws RX8 TX8 32, w ∈ wsX8_said := fun w h9 => List.mem_cons_of_mem _ (List.mem_append_right _ h9)
  have fk_9 := hts (.fieldLink RX8 9 "MaskBowsModel" "now" "[I") (by decide +kernel)
  refine lv_aload_n hx hb dX8_said_0 rfl (lv_at hl 0 rfl) ?_
  refine va_get (D := G) (ci := 8) (v := .ref h1) (C := RX8) (T := TX8) (N := 32) hx hb hts hin_X8 hown hK hP 0 rfl rfl 0 (by decide) fk_9 (fun _ h9 => h9) rfl dX8_said_1 ?_
  refine lv_iconst (v := (5 : Int32)) hx hb dX8_said_4 (by decide) ?_
  refine va_iald hx hb hK hP 1 0 rfl rfl (ix_in (by decide)) dX8_said_5 ?_
  refine lv_istore (lv' := [(5, .int (now (5 : Int32).toNatClampNeg)), (0, .ref h0), (1, .int a1), (2, .int a2), (3, .int a3), (4, .int a4)]) hx hb dX8_said_6 hl (by decide) rfl (fun ls hl => ?_)
  refine lv_sipush (v := (146 : Int32)) hx hb dX8_said_8 (by decide) ?_
  refine lv_iconst (v := (4 : Int32)) hx hb dX8_said_11 (by decide) ?_
  refine lv_iload hx hb dX8_said_12 (lv_at hl 0 rfl) ?_
  refine lv_imul hx hb dX8_said_14 ?_
  refine lv_iadd hx hb dX8_said_15 ?_
  refine lv_istore (lv' := [(6, .int ((146 : Int32) + ((4 : Int32) * (now (5 : Int32).toNatClampNeg)))), (5, .int (now (5 : Int32).toNatClampNeg)), (0, .ref h0), (1, .int a1), (2, .int a2), (3, .int a3), (4, .int a4)]) hx hb dX8_said_16 hl (by decide) rfl (fun ls hl => ?_)
  refine lv_aload_n hx hb dX8_said_18 rfl (lv_at hl 2 rfl) ?_
  refine va_get (D := G) (ci := 8) (v := .ref h1) (C := RX8) (T := TX8) (N := 32) hx hb hts hin_X8 hown hK hP 0 rfl rfl 0 (by decide) fk_9 (fun _ h9 => h9) rfl dX8_said_19 ?_
  refine lv_iload hx hb dX8_said_22 (lv_at hl 0 rfl) ?_
  refine lv_iconst (v := (0 : Int32)) hx hb dX8_said_24 (by decide) ?_
  refine lv_iadd hx hb dX8_said_25 ?_
  refine lv_iload_n hx hb dX8_said_26 rfl (lv_at hl 3 rfl) ?_
  obtain ⟨i_1, h⟩ := gd_some h
  refine va_iast hx hb hK hP hD hS 1 0 rfl rfl (ix_in i_1) dX8_said_27 (fun H locs hP hD hS => ?_)
  have hP : va_P G vwCl (wM ca ev h0 h1 h2 h3 h4 h5 h6 h7 h8 h9 h10 h11 h12 h13 h14 h15 h16 h17 (upd now (((146 : Int32) + ((4 : Int32) * (now (5 : Int32).toNatClampNeg))) + (0 : Int32)).toNatClampNeg a1) kept isKept found order doubts doubtMany weights worn pairs isTwice doer doneTo doers tape taped begins ends sort value isWrong items itemMany bowThen doubtThen deedThen sayingThen widths sizes numbers moved) H := hP
  have hD : va_D A (wM ca ev h0 h1 h2 h3 h4 h5 h6 h7 h8 h9 h10 h11 h12 h13 h14 h15 h16 h17 (upd now (((146 : Int32) + ((4 : Int32) * (now (5 : Int32).toNatClampNeg))) + (0 : Int32)).toNatClampNeg a1) kept isKept found order doubts doubtMany weights worn pairs isTwice doer doneTo doers tape taped begins ends sort value isWrong items itemMany bowThen doubtThen deedThen sayingThen widths sizes numbers moved) := hD
  refine lv_aload_n hx hb dX8_said_28 rfl (lv_at hl 2 rfl) ?_
  refine va_get (D := G) (ci := 8) (v := .ref h1) (C := RX8) (T := TX8) (N := 32) hx hb hts hin_X8 hown hK hP 0 rfl rfl 0 (by decide) fk_9 (fun _ h9 => h9) rfl dX8_said_29 ?_
  refine lv_iload hx hb dX8_said_32 (lv_at hl 0 rfl) ?_
  refine lv_iconst (v := (1 : Int32)) hx hb dX8_said_34 (by decide) ?_
  refine lv_iadd hx hb dX8_said_35 ?_
  refine lv_iload_n hx hb dX8_said_36 rfl (lv_at hl 4 rfl) ?_
  obtain ⟨i_2, h⟩ := gd_some h
  refine va_iast hx hb hK hP hD hS 1 0 rfl rfl (ix_in i_2) dX8_said_37 (fun H locs hP hD hS => ?_)
  have hP : va_P G vwCl (wM ca ev h0 h1 h2 h3 h4 h5 h6 h7 h8 h9 h10 h11 h12 h13 h14 h15 h16 h17 (upd (upd now (((146 : Int32) + ((4 : Int32) * (now (5 : Int32).toNatClampNeg))) + (0 : Int32)).toNatClampNeg a1) (((146 : Int32) + ((4 : Int32) * (now (5 : Int32).toNatClampNeg))) + (1 : Int32)).toNatClampNeg a2) kept isKept found order doubts doubtMany weights worn pairs isTwice doer doneTo doers tape taped begins ends sort value isWrong items itemMany bowThen doubtThen deedThen sayingThen widths sizes numbers moved) H := hP
  have hD : va_D A (wM ca ev h0 h1 h2 h3 h4 h5 h6 h7 h8 h9 h10 h11 h12 h13 h14 h15 h16 h17 (upd (upd now (((146 : Int32) + ((4 : Int32) * (now (5 : Int32).toNatClampNeg))) + (0 : Int32)).toNatClampNeg a1) (((146 : Int32) + ((4 : Int32) * (now (5 : Int32).toNatClampNeg))) + (1 : Int32)).toNatClampNeg a2) kept isKept found order doubts doubtMany weights worn pairs isTwice doer doneTo doers tape taped begins ends sort value isWrong items itemMany bowThen doubtThen deedThen sayingThen widths sizes numbers moved) := hD
  refine lv_aload_n hx hb dX8_said_38 rfl (lv_at hl 2 rfl) ?_
  refine va_get (D := G) (ci := 8) (v := .ref h1) (C := RX8) (T := TX8) (N := 32) hx hb hts hin_X8 hown hK hP 0 rfl rfl 0 (by decide) fk_9 (fun _ h9 => h9) rfl dX8_said_39 ?_
  refine lv_iload hx hb dX8_said_42 (lv_at hl 0 rfl) ?_
  refine lv_iconst (v := (2 : Int32)) hx hb dX8_said_44 (by decide) ?_
  refine lv_iadd hx hb dX8_said_45 ?_
  refine lv_iload_n hx hb dX8_said_46 rfl (lv_at hl 5 rfl) ?_
  obtain ⟨i_3, h⟩ := gd_some h
  refine va_iast hx hb hK hP hD hS 1 0 rfl rfl (ix_in i_3) dX8_said_47 (fun H locs hP hD hS => ?_)
  have hP : va_P G vwCl (wM ca ev h0 h1 h2 h3 h4 h5 h6 h7 h8 h9 h10 h11 h12 h13 h14 h15 h16 h17 (upd (upd (upd now (((146 : Int32) + ((4 : Int32) * (now (5 : Int32).toNatClampNeg))) + (0 : Int32)).toNatClampNeg a1) (((146 : Int32) + ((4 : Int32) * (now (5 : Int32).toNatClampNeg))) + (1 : Int32)).toNatClampNeg a2) (((146 : Int32) + ((4 : Int32) * (now (5 : Int32).toNatClampNeg))) + (2 : Int32)).toNatClampNeg a3) kept isKept found order doubts doubtMany weights worn pairs isTwice doer doneTo doers tape taped begins ends sort value isWrong items itemMany bowThen doubtThen deedThen sayingThen widths sizes numbers moved) H := hP
  have hD : va_D A (wM ca ev h0 h1 h2 h3 h4 h5 h6 h7 h8 h9 h10 h11 h12 h13 h14 h15 h16 h17 (upd (upd (upd now (((146 : Int32) + ((4 : Int32) * (now (5 : Int32).toNatClampNeg))) + (0 : Int32)).toNatClampNeg a1) (((146 : Int32) + ((4 : Int32) * (now (5 : Int32).toNatClampNeg))) + (1 : Int32)).toNatClampNeg a2) (((146 : Int32) + ((4 : Int32) * (now (5 : Int32).toNatClampNeg))) + (2 : Int32)).toNatClampNeg a3) kept isKept found order doubts doubtMany weights worn pairs isTwice doer doneTo doers tape taped begins ends sort value isWrong items itemMany bowThen doubtThen deedThen sayingThen widths sizes numbers moved) := hD
  refine lv_aload_n hx hb dX8_said_48 rfl (lv_at hl 2 rfl) ?_
  refine va_get (D := G) (ci := 8) (v := .ref h1) (C := RX8) (T := TX8) (N := 32) hx hb hts hin_X8 hown hK hP 0 rfl rfl 0 (by decide) fk_9 (fun _ h9 => h9) rfl dX8_said_49 ?_
  refine lv_iload hx hb dX8_said_52 (lv_at hl 0 rfl) ?_
  refine lv_iconst (v := (3 : Int32)) hx hb dX8_said_54 (by decide) ?_
  refine lv_iadd hx hb dX8_said_55 ?_
  refine lv_iload hx hb dX8_said_56 (lv_at hl 6 rfl) ?_
  obtain ⟨i_4, h⟩ := gd_some h
  refine va_iast hx hb hK hP hD hS 1 0 rfl rfl (ix_in i_4) dX8_said_58 (fun H locs hP hD hS => ?_)
  have hP : va_P G vwCl (wM ca ev h0 h1 h2 h3 h4 h5 h6 h7 h8 h9 h10 h11 h12 h13 h14 h15 h16 h17 (upd (upd (upd (upd now (((146 : Int32) + ((4 : Int32) * (now (5 : Int32).toNatClampNeg))) + (0 : Int32)).toNatClampNeg a1) (((146 : Int32) + ((4 : Int32) * (now (5 : Int32).toNatClampNeg))) + (1 : Int32)).toNatClampNeg a2) (((146 : Int32) + ((4 : Int32) * (now (5 : Int32).toNatClampNeg))) + (2 : Int32)).toNatClampNeg a3) (((146 : Int32) + ((4 : Int32) * (now (5 : Int32).toNatClampNeg))) + (3 : Int32)).toNatClampNeg a4) kept isKept found order doubts doubtMany weights worn pairs isTwice doer doneTo doers tape taped begins ends sort value isWrong items itemMany bowThen doubtThen deedThen sayingThen widths sizes numbers moved) H := hP
  have hD : va_D A (wM ca ev h0 h1 h2 h3 h4 h5 h6 h7 h8 h9 h10 h11 h12 h13 h14 h15 h16 h17 (upd (upd (upd (upd now (((146 : Int32) + ((4 : Int32) * (now (5 : Int32).toNatClampNeg))) + (0 : Int32)).toNatClampNeg a1) (((146 : Int32) + ((4 : Int32) * (now (5 : Int32).toNatClampNeg))) + (1 : Int32)).toNatClampNeg a2) (((146 : Int32) + ((4 : Int32) * (now (5 : Int32).toNatClampNeg))) + (2 : Int32)).toNatClampNeg a3) (((146 : Int32) + ((4 : Int32) * (now (5 : Int32).toNatClampNeg))) + (3 : Int32)).toNatClampNeg a4) kept isKept found order doubts doubtMany weights worn pairs isTwice doer doneTo doers tape taped begins ends sort value isWrong items itemMany bowThen doubtThen deedThen sayingThen widths sizes numbers moved) := hD
  refine lv_aload_n hx hb dX8_said_59 rfl (lv_at hl 2 rfl) ?_
  refine va_get (D := G) (ci := 8) (v := .ref h1) (C := RX8) (T := TX8) (N := 32) hx hb hts hin_X8 hown hK hP 0 rfl rfl 0 (by decide) fk_9 (fun _ h9 => h9) rfl dX8_said_60 ?_
  refine lv_iconst (v := (5 : Int32)) hx hb dX8_said_63 (by decide) ?_
  refine lv_dup2_11 hx hb dX8_said_64 rfl rfl ?_
  refine va_iald hx hb hK hP 1 0 rfl rfl (ix_in (by decide)) dX8_said_65 ?_
  refine lv_iconst (v := (1 : Int32)) hx hb dX8_said_66 (by decide) ?_
  refine lv_iadd hx hb dX8_said_67 ?_
  refine va_iast hx hb hK hP hD hS 1 0 rfl rfl (ix_in (by decide)) dX8_said_68 (fun H locs hP hD hS => ?_)
  have hP : va_P G vwCl (wM ca ev h0 h1 h2 h3 h4 h5 h6 h7 h8 h9 h10 h11 h12 h13 h14 h15 h16 h17 (upd (upd (upd (upd (upd now (((146 : Int32) + ((4 : Int32) * (now (5 : Int32).toNatClampNeg))) + (0 : Int32)).toNatClampNeg a1) (((146 : Int32) + ((4 : Int32) * (now (5 : Int32).toNatClampNeg))) + (1 : Int32)).toNatClampNeg a2) (((146 : Int32) + ((4 : Int32) * (now (5 : Int32).toNatClampNeg))) + (2 : Int32)).toNatClampNeg a3) (((146 : Int32) + ((4 : Int32) * (now (5 : Int32).toNatClampNeg))) + (3 : Int32)).toNatClampNeg a4) (5 : Int32).toNatClampNeg (((upd (upd (upd (upd now (((146 : Int32) + ((4 : Int32) * (now (5 : Int32).toNatClampNeg))) + (0 : Int32)).toNatClampNeg a1) (((146 : Int32) + ((4 : Int32) * (now (5 : Int32).toNatClampNeg))) + (1 : Int32)).toNatClampNeg a2) (((146 : Int32) + ((4 : Int32) * (now (5 : Int32).toNatClampNeg))) + (2 : Int32)).toNatClampNeg a3) (((146 : Int32) + ((4 : Int32) * (now (5 : Int32).toNatClampNeg))) + (3 : Int32)).toNatClampNeg a4) (5 : Int32).toNatClampNeg) + (1 : Int32))) kept isKept found order doubts doubtMany weights worn pairs isTwice doer doneTo doers tape taped begins ends sort value isWrong items itemMany bowThen doubtThen deedThen sayingThen widths sizes numbers moved) H := hP
  have hD : va_D A (wM ca ev h0 h1 h2 h3 h4 h5 h6 h7 h8 h9 h10 h11 h12 h13 h14 h15 h16 h17 (upd (upd (upd (upd (upd now (((146 : Int32) + ((4 : Int32) * (now (5 : Int32).toNatClampNeg))) + (0 : Int32)).toNatClampNeg a1) (((146 : Int32) + ((4 : Int32) * (now (5 : Int32).toNatClampNeg))) + (1 : Int32)).toNatClampNeg a2) (((146 : Int32) + ((4 : Int32) * (now (5 : Int32).toNatClampNeg))) + (2 : Int32)).toNatClampNeg a3) (((146 : Int32) + ((4 : Int32) * (now (5 : Int32).toNatClampNeg))) + (3 : Int32)).toNatClampNeg a4) (5 : Int32).toNatClampNeg (((upd (upd (upd (upd now (((146 : Int32) + ((4 : Int32) * (now (5 : Int32).toNatClampNeg))) + (0 : Int32)).toNatClampNeg a1) (((146 : Int32) + ((4 : Int32) * (now (5 : Int32).toNatClampNeg))) + (1 : Int32)).toNatClampNeg a2) (((146 : Int32) + ((4 : Int32) * (now (5 : Int32).toNatClampNeg))) + (2 : Int32)).toNatClampNeg a3) (((146 : Int32) + ((4 : Int32) * (now (5 : Int32).toNatClampNeg))) + (3 : Int32)).toNatClampNeg a4) (5 : Int32).toNatClampNeg) + (1 : Int32))) kept isKept found order doubts doubtMany weights worn pairs isTwice doer doneTo doers tape taped begins ends sort value isWrong items itemMany bowThen doubtThen deedThen sayingThen widths sizes numbers moved) := hD
  refine lv_iload hx hb dX8_said_69 (lv_at hl 1 rfl) ?_
  obtain rfl := Option.some.inj h
  exact hRet hP hD hS dX8_said_71
abbrev rm_X8_says : Room := { frames := 2, cells := 0, slots := 0, locals := 43 }
theorem hd_X8_says : yX8_says.cls = RX8 ∧ yX8_says.cls ≠ "java/lang/invoke/MethodHandle" ∧ yX8_says.cls ≠ "java/lang/invoke/VarHandle" ∧ (parseMethodDescriptor yX8_says.desc).map (fun d => d.parameters.length) = some 4 := by decide +kernel
set_option maxHeartbeats 4000000 in
set_option maxRecDepth 100000 in
theorem c_X8_says {l : Launch} {G : va_G} {ca : Nat → ClassId} {ev : Nat → Nat} {h0 h1 h2 h3 h4 h5 h6 h7 h8 h9 h10 h11 h12 h13 h14 h15 h16 h17 : Nat} {now : (Nat → Int32)} {kept : (Nat → Int32)} {isKept : Int32} {found : (Nat → Int32)} {order : (Nat → Int32)} {doubts : (Nat → Int32)} {doubtMany : Int32} {weights : (Nat → Int64)} {worn : (Nat → Int32)} {pairs : Int64} {isTwice : Int32} {doer : (Nat → Int32)} {doneTo : (Nat → Int32)} {doers : (Nat → Int64)} {tape : (Nat → Int32)} {taped : Int32} {begins : Int32} {ends : Int32} {sort : Int32} {value : Int32} {isWrong : Int32} {items : (Nat → Int32)} {itemMany : Int32} {bowThen : Int32} {doubtThen : Int32} {deedThen : Int32} {sayingThen : Int32} {widths : (Nat → Int32)} {sizes : (Nat → Int32)} {numbers : (Nat → Int64)} {moved : (Nat → Int64)} {a1 : Int32} {a2 : Int32} {a3 : Int32} {a4 : Int32} {res : Int32 × (Nat → Int32) × (Nat → Int32)} (h : f_X8_says now found a1 a2 a3 a4 = some res) : CtI l yX8_says wsX8_says rm_X8_says G ca ev [.ref h0, .int a1, .int a2, .int a3, .int a4] (wM ca ev h0 h1 h2 h3 h4 h5 h6 h7 h8 h9 h10 h11 h12 h13 h14 h15 h16 h17 now kept isKept found order doubts doubtMany weights worn pairs isTwice doer doneTo doers tape taped begins ends sort value isWrong items itemMany bowThen doubtThen deedThen sayingThen widths sizes numbers moved) (wM ca ev h0 h1 h2 h3 h4 h5 h6 h7 h8 h9 h10 h11 h12 h13 h14 h15 h16 h17 res.2.1 kept isKept res.2.2 order doubts doubtMany weights worn pairs isTwice doer doneTo doers tape taped begins ends sort value isWrong items itemMany bowThen doubtThen deedThen sayingThen widths sizes numbers moved) res.1 := by
  unfold f_X8_says at h
  refine en_i (by decide) rfl (Nat.le_of_ble_eq_true rfl) ?_
  intro p e s m args below meth c A Q H locs ls hx hb hml hown hts hA hP hK hD hE hS hl hRet
  have hown : s.vm.findClass RX8 = some m.cls := hown
  have hl : lv_has ls 5 [(0, .ref h0), (1, .int a1), (2, .int a2), (3, .int a3), (4, .int a4)] := hl
  have hin_X8 : ∀ w ∈ u_ws RX8 TX8 32, w ∈ wsX8_says := fun w h9 => List.mem_cons_of_mem _ (List.mem_append_right _ h9)
  have fk_9 := hts (.fieldLink RX8 9 "MaskBowsModel" "now" "[I") (by decide +kernel)
  refine lv_iload_n hx hb dX8_says_0 rfl (lv_at hl 1 rfl) ?_
  obtain ⟨u_1, e_1, h⟩ := bd_some h
  refine cn_Si (As := [.int a1]) (rest := []) ⟨hx, hb, hml, hown, hts⟩ (c_X8_isHour e_1) (va_cwS 1 hts gX8_says_X8_isHour rfl rfl rfl hd_X8_isHour ⟨Nat.le_of_ble_eq_true rfl, Nat.le_of_ble_eq_true rfl⟩) hK hP hD hS hA hE rfl hl.1 rfl (Nat.le_of_ble_eq_true rfl) dX8_says_1 ⟨Nat.zero_le _, Nat.zero_le _⟩ (fun H locs hP hD hS => ?_)
  refine lv_if_eq (tgt := 23) hx hb dX8_says_4 (by decide) (fun c_2 => ?_) (fun c_2 => ?_)
  · have h := ifp c_2 h
    refine lv_aload_n hx hb dX8_says_23 rfl (lv_at hl 0 rfl) ?_
    refine lv_ldc (v := (-1000000001 : Int32)) hx hb hown (hts (.constant RX8 77 (-1000000001)) (by decide +kernel)) dX8_says_24 ?_
    obtain ⟨u_3, e_3, h⟩ := bd_some h
    refine cm_Vi (As := [.int (-1000000001 : Int32)]) (rest := []) ⟨hx, hb, hml, hown, hts⟩ (c_X8_finding (ca := ca) (ev := ev) (h0 := h0) (h1 := h1) (h2 := h2) (h3 := h3) (h4 := h4) (h5 := h5) (h6 := h6) (h7 := h7) (h8 := h8) (h9 := h9) (h10 := h10) (h11 := h11) (h12 := h12) (h13 := h13) (h14 := h14) (h15 := h15) (h16 := h16) (h17 := h17) (now := now) (kept := kept) (isKept := isKept) (found := found) (order := order) (doubts := doubts) (doubtMany := doubtMany) (weights := weights) (worn := worn) (pairs := pairs) (isTwice := isTwice) (doer := doer) (doneTo := doneTo) (doers := doers) (tape := tape) (taped := taped) (begins := begins) (ends := ends) (sort := sort) (value := value) (isWrong := isWrong) (items := items) (itemMany := itemMany) (bowThen := bowThen) (doubtThen := doubtThen) (deedThen := deedThen) (sayingThen := sayingThen) (widths := widths) (sizes := sizes) (numbers := numbers) (moved := moved) e_3) (cwV 1 hts gX8_says_X8_finding rfl rfl rfl hd_X8_finding ⟨Nat.le_of_ble_eq_true rfl, Nat.le_of_ble_eq_true rfl⟩) hK hP hD hS hA hE (q0 := 0) (ci := 8) rfl rfl rfl rfl hl.1 rfl (Nat.le_of_ble_eq_true rfl) dX8_says_26 ⟨Nat.zero_le _, Nat.zero_le _⟩ (fun H locs hP hD hS => ?_)
    obtain rfl := Option.some.inj h
    exact hRet hP hD hS dX8_says_29
  · have h := ifn c_2 h
    refine lv_aload_n hx hb dX8_says_7 rfl (lv_at hl 0 rfl) ?_
    refine lv_iload_n hx hb dX8_says_8 rfl (lv_at hl 2 rfl) ?_
    obtain ⟨u_4, e_4, h⟩ := bd_some h
    refine cm_Vi (As := [.int a2]) (rest := []) ⟨hx, hb, hml, hown, hts⟩ (c_X8_isOne (ca := ca) (ev := ev) (h0 := h0) (h1 := h1) (h2 := h2) (h3 := h3) (h4 := h4) (h5 := h5) (h6 := h6) (h7 := h7) (h8 := h8) (h9 := h9) (h10 := h10) (h11 := h11) (h12 := h12) (h13 := h13) (h14 := h14) (h15 := h15) (h16 := h16) (h17 := h17) (now := now) (kept := kept) (isKept := isKept) (found := found) (order := order) (doubts := doubts) (doubtMany := doubtMany) (weights := weights) (worn := worn) (pairs := pairs) (isTwice := isTwice) (doer := doer) (doneTo := doneTo) (doers := doers) (tape := tape) (taped := taped) (begins := begins) (ends := ends) (sort := sort) (value := value) (isWrong := isWrong) (items := items) (itemMany := itemMany) (bowThen := bowThen) (doubtThen := doubtThen) (deedThen := deedThen) (sayingThen := sayingThen) (widths := widths) (sizes := sizes) (numbers := numbers) (moved := moved) e_4) (cwV 1 hts gX8_says_X8_isOne rfl rfl rfl hd_X8_isOne ⟨Nat.le_of_ble_eq_true rfl, Nat.le_of_ble_eq_true rfl⟩) hK hP hD hS hA hE (q0 := 0) (ci := 8) rfl rfl rfl rfl hl.1 rfl (Nat.le_of_ble_eq_true rfl) dX8_says_9 ⟨Nat.zero_le _, Nat.zero_le _⟩ (fun H locs hP hD hS => ?_)
    refine lv_if_eq (tgt := 23) hx hb dX8_says_12 (by decide) (fun c_5 => ?_) (fun c_5 => ?_)
    · have h := ifp c_5 h
      refine lv_aload_n hx hb dX8_says_23 rfl (lv_at hl 0 rfl) ?_
      refine lv_ldc (v := (-1000000001 : Int32)) hx hb hown (hts (.constant RX8 77 (-1000000001)) (by decide +kernel)) dX8_says_24 ?_
      obtain ⟨u_6, e_6, h⟩ := bd_some h
      refine cm_Vi (As := [.int (-1000000001 : Int32)]) (rest := []) ⟨hx, hb, hml, hown, hts⟩ (c_X8_finding (ca := ca) (ev := ev) (h0 := h0) (h1 := h1) (h2 := h2) (h3 := h3) (h4 := h4) (h5 := h5) (h6 := h6) (h7 := h7) (h8 := h8) (h9 := h9) (h10 := h10) (h11 := h11) (h12 := h12) (h13 := h13) (h14 := h14) (h15 := h15) (h16 := h16) (h17 := h17) (now := now) (kept := kept) (isKept := isKept) (found := found) (order := order) (doubts := doubts) (doubtMany := doubtMany) (weights := weights) (worn := worn) (pairs := pairs) (isTwice := isTwice) (doer := doer) (doneTo := doneTo) (doers := doers) (tape := tape) (taped := taped) (begins := begins) (ends := ends) (sort := sort) (value := value) (isWrong := isWrong) (items := items) (itemMany := itemMany) (bowThen := bowThen) (doubtThen := doubtThen) (deedThen := deedThen) (sayingThen := sayingThen) (widths := widths) (sizes := sizes) (numbers := numbers) (moved := moved) e_6) (cwV 1 hts gX8_says_X8_finding rfl rfl rfl hd_X8_finding ⟨Nat.le_of_ble_eq_true rfl, Nat.le_of_ble_eq_true rfl⟩) hK hP hD hS hA hE (q0 := 0) (ci := 8) rfl rfl rfl rfl hl.1 rfl (Nat.le_of_ble_eq_true rfl) dX8_says_26 ⟨Nat.zero_le _, Nat.zero_le _⟩ (fun H locs hP hD hS => ?_)
      obtain rfl := Option.some.inj h
      exact hRet hP hD hS dX8_says_29
    · have h := ifn c_5 h
      refine lv_aload_n hx hb dX8_says_15 rfl (lv_at hl 0 rfl) ?_
      refine lv_iload_n hx hb dX8_says_16 rfl (lv_at hl 3 rfl) ?_
      obtain ⟨u_7, e_7, h⟩ := bd_some h
      refine cm_Vi (As := [.int a3]) (rest := []) ⟨hx, hb, hml, hown, hts⟩ (c_X8_isOne (ca := ca) (ev := ev) (h0 := h0) (h1 := h1) (h2 := h2) (h3 := h3) (h4 := h4) (h5 := h5) (h6 := h6) (h7 := h7) (h8 := h8) (h9 := h9) (h10 := h10) (h11 := h11) (h12 := h12) (h13 := h13) (h14 := h14) (h15 := h15) (h16 := h16) (h17 := h17) (now := now) (kept := kept) (isKept := isKept) (found := found) (order := order) (doubts := doubts) (doubtMany := doubtMany) (weights := weights) (worn := worn) (pairs := pairs) (isTwice := isTwice) (doer := doer) (doneTo := doneTo) (doers := doers) (tape := tape) (taped := taped) (begins := begins) (ends := ends) (sort := sort) (value := value) (isWrong := isWrong) (items := items) (itemMany := itemMany) (bowThen := bowThen) (doubtThen := doubtThen) (deedThen := deedThen) (sayingThen := sayingThen) (widths := widths) (sizes := sizes) (numbers := numbers) (moved := moved) e_7) (cwV 1 hts gX8_says_X8_isOne rfl rfl rfl hd_X8_isOne ⟨Nat.le_of_ble_eq_true rfl, Nat.le_of_ble_eq_true rfl⟩) hK hP hD hS hA hE (q0 := 0) (ci := 8) rfl rfl rfl rfl hl.1 rfl (Nat.le_of_ble_eq_true rfl) dX8_says_17 ⟨Nat.zero_le _, Nat.zero_le _⟩ (fun H locs hP hD hS => ?_)
      refine lv_if_ne (tgt := 30) hx hb dX8_says_20 (by decide) (fun c_8 => ?_) (fun c_8 => ?_)
      · have h := ifn c_8 h
        refine lv_aload_n hx hb dX8_says_30 rfl (lv_at hl 0 rfl) ?_
        refine va_get (D := G) (ci := 8) (v := .ref h1) (C := RX8) (T := TX8) (N := 32) hx hb hts hin_X8 hown hK hP 0 rfl rfl 0 (by decide) fk_9 (fun _ h9 => h9) rfl dX8_says_31 ?_
        refine lv_iconst (v := (5 : Int32)) hx hb dX8_says_34 (by decide) ?_
        refine va_iald hx hb hK hP 1 0 rfl rfl (ix_in (by decide)) dX8_says_35 ?_
        refine lv_bipush (v := (10 : Int32)) hx hb dX8_says_36 (by decide) ?_
        refine lv_icmp_ne (tgt := 50) hx hb dX8_says_38 (by decide) (fun c_9 => ?_) (fun c_9 => ?_)
        · have h := ifn c_9 h
          refine lv_aload_n hx hb dX8_says_50 rfl (lv_at hl 0 rfl) ?_
          refine lv_iload_n hx hb dX8_says_51 rfl (lv_at hl 1 rfl) ?_
          refine lv_iload_n hx hb dX8_says_52 rfl (lv_at hl 2 rfl) ?_
          refine lv_iload_n hx hb dX8_says_53 rfl (lv_at hl 3 rfl) ?_
          refine lv_iload hx hb dX8_says_54 (lv_at hl 4 rfl) ?_
          obtain ⟨u_10, e_10, h⟩ := bd_some h
          have J_10 : ∀ {H : Heap} {locs : List Loc} {ls : Array Slot}, va_P G vwCl (wM ca ev h0 h1 h2 h3 h4 h5 h6 h7 h8 h9 h10 h11 h12 h13 h14 h15 h16 h17 now kept isKept found order doubts doubtMany weights worn pairs isTwice doer doneTo doers tape taped begins ends sort value isWrong items itemMany bowThen doubtThen deedThen sayingThen widths sizes numbers moved) H → va_D A (wM ca ev h0 h1 h2 h3 h4 h5 h6 h7 h8 h9 h10 h11 h12 h13 h14 h15 h16 h17 now kept isKept found order doubts doubtMany weights worn pairs isTwice doer doneTo doers tape taped begins ends sort value isWrong items itemMany bowThen doubtThen deedThen sayingThen widths sizes numbers moved) → va_S A s.heap H locs → lv_has ls 5 [] → (u_10 = 0 ∨ u_10 = 1) → W p l e rm_X8_says s m args below meth c H locs 0 0 Q (F0 m 64 ls [.int u_10, .int a3, .int a2, .int a1, .ref h0]) := by
            intro H locs ls hP hD hS hl zj_10_0
            obtain ⟨u_11, e_11, h⟩ := bd_some h
            refine cm_Vi (As := [.int a1, .int a2, .int a3, .int u_10]) (rest := []) ⟨hx, hb, hml, hown, hts⟩ (c_X8_said (ca := ca) (ev := ev) (h0 := h0) (h1 := h1) (h2 := h2) (h3 := h3) (h4 := h4) (h5 := h5) (h6 := h6) (h7 := h7) (h8 := h8) (h9 := h9) (h10 := h10) (h11 := h11) (h12 := h12) (h13 := h13) (h14 := h14) (h15 := h15) (h16 := h16) (h17 := h17) (now := now) (kept := kept) (isKept := isKept) (found := found) (order := order) (doubts := doubts) (doubtMany := doubtMany) (weights := weights) (worn := worn) (pairs := pairs) (isTwice := isTwice) (doer := doer) (doneTo := doneTo) (doers := doers) (tape := tape) (taped := taped) (begins := begins) (ends := ends) (sort := sort) (value := value) (isWrong := isWrong) (items := items) (itemMany := itemMany) (bowThen := bowThen) (doubtThen := doubtThen) (deedThen := deedThen) (sayingThen := sayingThen) (widths := widths) (sizes := sizes) (numbers := numbers) (moved := moved) e_11) (cwV 4 hts gX8_says_X8_said rfl rfl rfl hd_X8_said ⟨Nat.le_of_ble_eq_true rfl, Nat.le_of_ble_eq_true rfl⟩) hK hP hD hS hA hE (q0 := 0) (ci := 8) rfl rfl rfl rfl hl.1 rfl (Nat.le_of_ble_eq_true rfl) dX8_says_64 ⟨Nat.zero_le _, Nat.zero_le _⟩ (fun H locs hP hD hS => ?_)
            obtain rfl := Option.some.inj h
            exact hRet hP hD hS dX8_says_67
          have h := e_10
          clear e_10
          refine lv_if_eq (tgt := 63) hx hb dX8_says_56 (by decide) (fun c_10 => ?_) (fun c_10 => ?_)
          · have h := ifp c_10 h
            refine lv_iconst (v := (0 : Int32)) hx hb dX8_says_63 (by decide) ?_
            obtain rfl := Option.some.inj h
            exact J_10 hP hD hS (lv_sub hl [] rfl) zb_0
          · have h := ifn c_10 h
            refine lv_iconst (v := (1 : Int32)) hx hb dX8_says_59 (by decide) ?_
            refine lv_goto (tgt := 64) hx hb dX8_says_60 (by decide) ?_
            obtain rfl := Option.some.inj h
            exact J_10 hP hD hS (lv_sub hl [] rfl) zb_1
        · have h := ifp c_9 h
          refine lv_aload_n hx hb dX8_says_41 rfl (lv_at hl 0 rfl) ?_
          refine lv_ldc (v := (-1000000002 : Int32)) hx hb hown (hts (.constant RX8 109 (-1000000002)) (by decide +kernel)) dX8_says_42 ?_
          obtain ⟨u_12, e_12, h⟩ := bd_some h
          refine cm_Vi (As := [.int (-1000000002 : Int32)]) (rest := []) ⟨hx, hb, hml, hown, hts⟩ (c_X8_finding (ca := ca) (ev := ev) (h0 := h0) (h1 := h1) (h2 := h2) (h3 := h3) (h4 := h4) (h5 := h5) (h6 := h6) (h7 := h7) (h8 := h8) (h9 := h9) (h10 := h10) (h11 := h11) (h12 := h12) (h13 := h13) (h14 := h14) (h15 := h15) (h16 := h16) (h17 := h17) (now := now) (kept := kept) (isKept := isKept) (found := found) (order := order) (doubts := doubts) (doubtMany := doubtMany) (weights := weights) (worn := worn) (pairs := pairs) (isTwice := isTwice) (doer := doer) (doneTo := doneTo) (doers := doers) (tape := tape) (taped := taped) (begins := begins) (ends := ends) (sort := sort) (value := value) (isWrong := isWrong) (items := items) (itemMany := itemMany) (bowThen := bowThen) (doubtThen := doubtThen) (deedThen := deedThen) (sayingThen := sayingThen) (widths := widths) (sizes := sizes) (numbers := numbers) (moved := moved) e_12) (cwV 1 hts gX8_says_X8_finding rfl rfl rfl hd_X8_finding ⟨Nat.le_of_ble_eq_true rfl, Nat.le_of_ble_eq_true rfl⟩) hK hP hD hS hA hE (q0 := 0) (ci := 8) rfl rfl rfl rfl hl.1 rfl (Nat.le_of_ble_eq_true rfl) dX8_says_44 ⟨Nat.zero_le _, Nat.zero_le _⟩ (fun H locs hP hD hS => ?_)
          refine lv_goto (tgt := 67) hx hb dX8_says_47 (by decide) ?_
          obtain rfl := Option.some.inj h
          exact hRet hP hD hS dX8_says_67
      · have h := ifp c_8 h
        refine lv_aload_n hx hb dX8_says_23 rfl (lv_at hl 0 rfl) ?_
        refine lv_ldc (v := (-1000000001 : Int32)) hx hb hown (hts (.constant RX8 77 (-1000000001)) (by decide +kernel)) dX8_says_24 ?_
        obtain ⟨u_13, e_13, h⟩ := bd_some h
        refine cm_Vi (As := [.int (-1000000001 : Int32)]) (rest := []) ⟨hx, hb, hml, hown, hts⟩ (c_X8_finding (ca := ca) (ev := ev) (h0 := h0) (h1 := h1) (h2 := h2) (h3 := h3) (h4 := h4) (h5 := h5) (h6 := h6) (h7 := h7) (h8 := h8) (h9 := h9) (h10 := h10) (h11 := h11) (h12 := h12) (h13 := h13) (h14 := h14) (h15 := h15) (h16 := h16) (h17 := h17) (now := now) (kept := kept) (isKept := isKept) (found := found) (order := order) (doubts := doubts) (doubtMany := doubtMany) (weights := weights) (worn := worn) (pairs := pairs) (isTwice := isTwice) (doer := doer) (doneTo := doneTo) (doers := doers) (tape := tape) (taped := taped) (begins := begins) (ends := ends) (sort := sort) (value := value) (isWrong := isWrong) (items := items) (itemMany := itemMany) (bowThen := bowThen) (doubtThen := doubtThen) (deedThen := deedThen) (sayingThen := sayingThen) (widths := widths) (sizes := sizes) (numbers := numbers) (moved := moved) e_13) (cwV 1 hts gX8_says_X8_finding rfl rfl rfl hd_X8_finding ⟨Nat.le_of_ble_eq_true rfl, Nat.le_of_ble_eq_true rfl⟩) hK hP hD hS hA hE (q0 := 0) (ci := 8) rfl rfl rfl rfl hl.1 rfl (Nat.le_of_ble_eq_true rfl) dX8_says_26 ⟨Nat.zero_le _, Nat.zero_le _⟩ (fun H locs hP hD hS => ?_)
        obtain rfl := Option.some.inj h
        exact hRet hP hD hS dX8_says_29
abbrev rm_X8_sayingIs : Room := { frames := 0, cells := 0, slots := 0, locals := 0 }
theorem hd_X8_sayingIs : yX8_sayingIs.cls = RX8 ∧ yX8_sayingIs.cls ≠ "java/lang/invoke/MethodHandle" ∧ yX8_sayingIs.cls ≠ "java/lang/invoke/VarHandle" ∧ (parseMethodDescriptor yX8_sayingIs.desc).map (fun d => d.parameters.length) = some 2 := by decide +kernel
set_option maxHeartbeats 4000000 in
set_option maxRecDepth 100000 in
theorem c_X8_sayingIs {l : Launch} {G : va_G} {ca : Nat → ClassId} {ev : Nat → Nat} {h0 h1 h2 h3 h4 h5 h6 h7 h8 h9 h10 h11 h12 h13 h14 h15 h16 h17 : Nat} {now : (Nat → Int32)} {kept : (Nat → Int32)} {isKept : Int32} {found : (Nat → Int32)} {order : (Nat → Int32)} {doubts : (Nat → Int32)} {doubtMany : Int32} {weights : (Nat → Int64)} {worn : (Nat → Int32)} {pairs : Int64} {isTwice : Int32} {doer : (Nat → Int32)} {doneTo : (Nat → Int32)} {doers : (Nat → Int64)} {tape : (Nat → Int32)} {taped : Int32} {begins : Int32} {ends : Int32} {sort : Int32} {value : Int32} {isWrong : Int32} {items : (Nat → Int32)} {itemMany : Int32} {bowThen : Int32} {doubtThen : Int32} {deedThen : Int32} {sayingThen : Int32} {widths : (Nat → Int32)} {sizes : (Nat → Int32)} {numbers : (Nat → Int64)} {moved : (Nat → Int64)} {a1 : Int32} {a2 : Int32} {res : Int32} (h : f_X8_sayingIs now a1 a2 = some res) : CtI l yX8_sayingIs wsX8_sayingIs rm_X8_sayingIs G ca ev [.ref h0, .int a1, .int a2] (wM ca ev h0 h1 h2 h3 h4 h5 h6 h7 h8 h9 h10 h11 h12 h13 h14 h15 h16 h17 now kept isKept found order doubts doubtMany weights worn pairs isTwice doer doneTo doers tape taped begins ends sort value isWrong items itemMany bowThen doubtThen deedThen sayingThen widths sizes numbers moved) (wM ca ev h0 h1 h2 h3 h4 h5 h6 h7 h8 h9 h10 h11 h12 h13 h14 h15 h16 h17 now kept isKept found order doubts doubtMany weights worn pairs isTwice doer doneTo doers tape taped begins ends sort value isWrong items itemMany bowThen doubtThen deedThen sayingThen widths sizes numbers moved) res := by
  unfold f_X8_sayingIs at h
  refine en_i (by decide) rfl (Nat.le_of_ble_eq_true rfl) ?_
  intro p e s m args below meth c A Q H locs ls hx hb hml hown hts hA hP hK hD hE hS hl hRet
  have hown : s.vm.findClass RX8 = some m.cls := hown
  have hl : lv_has ls 3 [(0, .ref h0), (1, .int a1), (2, .int a2)] := hl
  have hin_X8 : ∀ w ∈ u_ws RX8 TX8 32, w ∈ wsX8_sayingIs := fun w h9 => List.mem_cons_of_mem _ (List.mem_append_right _ h9)
  have fk_9 := hts (.fieldLink RX8 9 "MaskBowsModel" "now" "[I") (by decide +kernel)
  refine lv_aload_n hx hb dX8_sayingIs_0 rfl (lv_at hl 0 rfl) ?_
  refine va_get (D := G) (ci := 8) (v := .ref h1) (C := RX8) (T := TX8) (N := 32) hx hb hts hin_X8 hown hK hP 0 rfl rfl 0 (by decide) fk_9 (fun _ h9 => h9) rfl dX8_sayingIs_1 ?_
  refine lv_sipush (v := (146 : Int32)) hx hb dX8_sayingIs_4 (by decide) ?_
  refine lv_iconst (v := (4 : Int32)) hx hb dX8_sayingIs_7 (by decide) ?_
  refine lv_iload_n hx hb dX8_sayingIs_8 rfl (lv_at hl 1 rfl) ?_
  refine lv_imul hx hb dX8_sayingIs_9 ?_
  refine lv_iadd hx hb dX8_sayingIs_10 ?_
  refine lv_iload_n hx hb dX8_sayingIs_11 rfl (lv_at hl 2 rfl) ?_
  refine lv_iadd hx hb dX8_sayingIs_12 ?_
  obtain ⟨i_1, h⟩ := gd_some h
  refine va_iald hx hb hK hP 1 0 rfl rfl (ix_in i_1) dX8_sayingIs_13 ?_
  obtain rfl := Option.some.inj h
  exact hRet hP hD hS dX8_sayingIs_14
abbrev rm_X8_sayingOf : Room := { frames := 1, cells := 0, slots := 0, locals := 22 }
theorem hd_X8_sayingOf : yX8_sayingOf.cls = RX8 ∧ yX8_sayingOf.cls ≠ "java/lang/invoke/MethodHandle" ∧ yX8_sayingOf.cls ≠ "java/lang/invoke/VarHandle" ∧ (parseMethodDescriptor yX8_sayingOf.desc).map (fun d => d.parameters.length) = some 2 := by decide +kernel
set_option maxHeartbeats 4000000 in
set_option maxRecDepth 100000 in
theorem c_X8_sayingOf {l : Launch} {G : va_G} {ca : Nat → ClassId} {ev : Nat → Nat} {h0 h1 h2 h3 h4 h5 h6 h7 h8 h9 h10 h11 h12 h13 h14 h15 h16 h17 : Nat} {now : (Nat → Int32)} {kept : (Nat → Int32)} {isKept : Int32} {found : (Nat → Int32)} {order : (Nat → Int32)} {doubts : (Nat → Int32)} {doubtMany : Int32} {weights : (Nat → Int64)} {worn : (Nat → Int32)} {pairs : Int64} {isTwice : Int32} {doer : (Nat → Int32)} {doneTo : (Nat → Int32)} {doers : (Nat → Int64)} {tape : (Nat → Int32)} {taped : Int32} {begins : Int32} {ends : Int32} {sort : Int32} {value : Int32} {isWrong : Int32} {items : (Nat → Int32)} {itemMany : Int32} {bowThen : Int32} {doubtThen : Int32} {deedThen : Int32} {sayingThen : Int32} {widths : (Nat → Int32)} {sizes : (Nat → Int32)} {numbers : (Nat → Int64)} {moved : (Nat → Int64)} {a1 : Int32} {a2 : Int32} {res : Int32 × (Nat → Int32)} (h : f_X8_sayingOf now found a1 a2 = some res) : CtI l yX8_sayingOf wsX8_sayingOf rm_X8_sayingOf G ca ev [.ref h0, .int a1, .int a2] (wM ca ev h0 h1 h2 h3 h4 h5 h6 h7 h8 h9 h10 h11 h12 h13 h14 h15 h16 h17 now kept isKept found order doubts doubtMany weights worn pairs isTwice doer doneTo doers tape taped begins ends sort value isWrong items itemMany bowThen doubtThen deedThen sayingThen widths sizes numbers moved) (wM ca ev h0 h1 h2 h3 h4 h5 h6 h7 h8 h9 h10 h11 h12 h13 h14 h15 h16 h17 now kept isKept res.2 order doubts doubtMany weights worn pairs isTwice doer doneTo doers tape taped begins ends sort value isWrong items itemMany bowThen doubtThen deedThen sayingThen widths sizes numbers moved) res.1 := by
  unfold f_X8_sayingOf at h
  refine en_i (by decide) rfl (Nat.le_of_ble_eq_true rfl) ?_
  intro p e s m args below meth c A Q H locs ls hx hb hml hown hts hA hP hK hD hE hS hl hRet
  have hown : s.vm.findClass RX8 = some m.cls := hown
  have hl : lv_has ls 3 [(0, .ref h0), (1, .int a1), (2, .int a2)] := hl
  have hin_X8 : ∀ w ∈ u_ws RX8 TX8 32, w ∈ wsX8_sayingOf := fun w h9 => List.mem_cons_of_mem _ (List.mem_append_right _ h9)
  have fk_9 := hts (.fieldLink RX8 9 "MaskBowsModel" "now" "[I") (by decide +kernel)
  refine lv_iload_n hx hb dX8_sayingOf_0 rfl (lv_at hl 1 rfl) ?_
  refine lv_iconst (v := (0 : Int32)) hx hb dX8_sayingOf_1 (by decide) ?_
  refine lv_aload_n hx hb dX8_sayingOf_2 rfl (lv_at hl 0 rfl) ?_
  refine va_get (D := G) (ci := 8) (v := .ref h1) (C := RX8) (T := TX8) (N := 32) hx hb hts hin_X8 hown hK hP 0 rfl rfl 0 (by decide) fk_9 (fun _ h9 => h9) rfl dX8_sayingOf_3 ?_
  refine lv_iconst (v := (5 : Int32)) hx hb dX8_sayingOf_6 (by decide) ?_
  refine va_iald hx hb hK hP 1 0 rfl rfl (ix_in (by decide)) dX8_sayingOf_7 ?_
  refine lv_iconst (v := (1 : Int32)) hx hb dX8_sayingOf_8 (by decide) ?_
  refine lv_isub hx hb dX8_sayingOf_9 ?_
  obtain ⟨u_1, e_1, h⟩ := bd_some h
  refine cn_Si (As := [.int a1, .int (0 : Int32), .int ((now (5 : Int32).toNatClampNeg) - (1 : Int32))]) (rest := []) ⟨hx, hb, hml, hown, hts⟩ (c_X8_within e_1) (va_cwS 3 hts gX8_sayingOf_X8_within rfl rfl rfl hd_X8_within ⟨Nat.le_of_ble_eq_true rfl, Nat.le_of_ble_eq_true rfl⟩) hK hP hD hS hA hE rfl hl.1 rfl (Nat.le_of_ble_eq_true rfl) dX8_sayingOf_10 ⟨Nat.zero_le _, Nat.zero_le _⟩ (fun H locs hP hD hS => ?_)
  refine lv_if_eq (tgt := 34) hx hb dX8_sayingOf_13 (by decide) (fun c_2 => ?_) (fun c_2 => ?_)
  · have h := ifp c_2 h
    refine lv_aload_n hx hb dX8_sayingOf_34 rfl (lv_at hl 0 rfl) ?_
    refine lv_ldc (v := (-1000000001 : Int32)) hx hb hown (hts (.constant RX8 77 (-1000000001)) (by decide +kernel)) dX8_sayingOf_35 ?_
    obtain ⟨u_3, e_3, h⟩ := bd_some h
    refine cm_Vi (As := [.int (-1000000001 : Int32)]) (rest := []) ⟨hx, hb, hml, hown, hts⟩ (c_X8_finding (ca := ca) (ev := ev) (h0 := h0) (h1 := h1) (h2 := h2) (h3 := h3) (h4 := h4) (h5 := h5) (h6 := h6) (h7 := h7) (h8 := h8) (h9 := h9) (h10 := h10) (h11 := h11) (h12 := h12) (h13 := h13) (h14 := h14) (h15 := h15) (h16 := h16) (h17 := h17) (now := now) (kept := kept) (isKept := isKept) (found := found) (order := order) (doubts := doubts) (doubtMany := doubtMany) (weights := weights) (worn := worn) (pairs := pairs) (isTwice := isTwice) (doer := doer) (doneTo := doneTo) (doers := doers) (tape := tape) (taped := taped) (begins := begins) (ends := ends) (sort := sort) (value := value) (isWrong := isWrong) (items := items) (itemMany := itemMany) (bowThen := bowThen) (doubtThen := doubtThen) (deedThen := deedThen) (sayingThen := sayingThen) (widths := widths) (sizes := sizes) (numbers := numbers) (moved := moved) e_3) (cwV 1 hts gX8_sayingOf_X8_finding rfl rfl rfl hd_X8_finding ⟨Nat.le_of_ble_eq_true rfl, Nat.le_of_ble_eq_true rfl⟩) hK hP hD hS hA hE (q0 := 0) (ci := 8) rfl rfl rfl rfl hl.1 rfl (Nat.le_of_ble_eq_true rfl) dX8_sayingOf_37 ⟨Nat.zero_le _, Nat.zero_le _⟩ (fun H locs hP hD hS => ?_)
    obtain rfl := Option.some.inj h
    exact hRet hP hD hS dX8_sayingOf_40
  · have h := ifn c_2 h
    refine lv_iload_n hx hb dX8_sayingOf_16 rfl (lv_at hl 2 rfl) ?_
    refine lv_iconst (v := (0 : Int32)) hx hb dX8_sayingOf_17 (by decide) ?_
    refine lv_iconst (v := (3 : Int32)) hx hb dX8_sayingOf_18 (by decide) ?_
    obtain ⟨u_4, e_4, h⟩ := bd_some h
    refine cn_Si (As := [.int a2, .int (0 : Int32), .int (3 : Int32)]) (rest := []) ⟨hx, hb, hml, hown, hts⟩ (c_X8_within e_4) (va_cwS 3 hts gX8_sayingOf_X8_within rfl rfl rfl hd_X8_within ⟨Nat.le_of_ble_eq_true rfl, Nat.le_of_ble_eq_true rfl⟩) hK hP hD hS hA hE rfl hl.1 rfl (Nat.le_of_ble_eq_true rfl) dX8_sayingOf_19 ⟨Nat.zero_le _, Nat.zero_le _⟩ (fun H locs hP hD hS => ?_)
    refine lv_if_eq (tgt := 34) hx hb dX8_sayingOf_22 (by decide) (fun c_5 => ?_) (fun c_5 => ?_)
    · have h := ifp c_5 h
      refine lv_aload_n hx hb dX8_sayingOf_34 rfl (lv_at hl 0 rfl) ?_
      refine lv_ldc (v := (-1000000001 : Int32)) hx hb hown (hts (.constant RX8 77 (-1000000001)) (by decide +kernel)) dX8_sayingOf_35 ?_
      obtain ⟨u_6, e_6, h⟩ := bd_some h
      refine cm_Vi (As := [.int (-1000000001 : Int32)]) (rest := []) ⟨hx, hb, hml, hown, hts⟩ (c_X8_finding (ca := ca) (ev := ev) (h0 := h0) (h1 := h1) (h2 := h2) (h3 := h3) (h4 := h4) (h5 := h5) (h6 := h6) (h7 := h7) (h8 := h8) (h9 := h9) (h10 := h10) (h11 := h11) (h12 := h12) (h13 := h13) (h14 := h14) (h15 := h15) (h16 := h16) (h17 := h17) (now := now) (kept := kept) (isKept := isKept) (found := found) (order := order) (doubts := doubts) (doubtMany := doubtMany) (weights := weights) (worn := worn) (pairs := pairs) (isTwice := isTwice) (doer := doer) (doneTo := doneTo) (doers := doers) (tape := tape) (taped := taped) (begins := begins) (ends := ends) (sort := sort) (value := value) (isWrong := isWrong) (items := items) (itemMany := itemMany) (bowThen := bowThen) (doubtThen := doubtThen) (deedThen := deedThen) (sayingThen := sayingThen) (widths := widths) (sizes := sizes) (numbers := numbers) (moved := moved) e_6) (cwV 1 hts gX8_sayingOf_X8_finding rfl rfl rfl hd_X8_finding ⟨Nat.le_of_ble_eq_true rfl, Nat.le_of_ble_eq_true rfl⟩) hK hP hD hS hA hE (q0 := 0) (ci := 8) rfl rfl rfl rfl hl.1 rfl (Nat.le_of_ble_eq_true rfl) dX8_sayingOf_37 ⟨Nat.zero_le _, Nat.zero_le _⟩ (fun H locs hP hD hS => ?_)
      obtain rfl := Option.some.inj h
      exact hRet hP hD hS dX8_sayingOf_40
    · have h := ifn c_5 h
      refine lv_aload_n hx hb dX8_sayingOf_25 rfl (lv_at hl 0 rfl) ?_
      refine lv_iload_n hx hb dX8_sayingOf_26 rfl (lv_at hl 1 rfl) ?_
      refine lv_iload_n hx hb dX8_sayingOf_27 rfl (lv_at hl 2 rfl) ?_
      obtain ⟨u_7, e_7, h⟩ := bd_some h
      refine cm_Vi (As := [.int a1, .int a2]) (rest := []) ⟨hx, hb, hml, hown, hts⟩ (c_X8_sayingIs (ca := ca) (ev := ev) (h0 := h0) (h1 := h1) (h2 := h2) (h3 := h3) (h4 := h4) (h5 := h5) (h6 := h6) (h7 := h7) (h8 := h8) (h9 := h9) (h10 := h10) (h11 := h11) (h12 := h12) (h13 := h13) (h14 := h14) (h15 := h15) (h16 := h16) (h17 := h17) (now := now) (kept := kept) (isKept := isKept) (found := found) (order := order) (doubts := doubts) (doubtMany := doubtMany) (weights := weights) (worn := worn) (pairs := pairs) (isTwice := isTwice) (doer := doer) (doneTo := doneTo) (doers := doers) (tape := tape) (taped := taped) (begins := begins) (ends := ends) (sort := sort) (value := value) (isWrong := isWrong) (items := items) (itemMany := itemMany) (bowThen := bowThen) (doubtThen := doubtThen) (deedThen := deedThen) (sayingThen := sayingThen) (widths := widths) (sizes := sizes) (numbers := numbers) (moved := moved) e_7) (cwV 2 hts gX8_sayingOf_X8_sayingIs rfl rfl rfl hd_X8_sayingIs ⟨Nat.le_of_ble_eq_true rfl, Nat.le_of_ble_eq_true rfl⟩) hK hP hD hS hA hE (q0 := 0) (ci := 8) rfl rfl rfl rfl hl.1 rfl (Nat.le_of_ble_eq_true rfl) dX8_sayingOf_28 ⟨Nat.zero_le _, Nat.zero_le _⟩ (fun H locs hP hD hS => ?_)
      refine lv_goto (tgt := 40) hx hb dX8_sayingOf_31 (by decide) ?_
      obtain rfl := Option.some.inj h
      exact hRet hP hD hS dX8_sayingOf_40
abbrev rm_X8_lay : Room := { frames := 1, cells := 0, slots := 0, locals := 22 }
theorem hd_X8_lay : yX8_lay.cls = RX8 ∧ yX8_lay.cls ≠ "java/lang/invoke/MethodHandle" ∧ yX8_lay.cls ≠ "java/lang/invoke/VarHandle" ∧ (parseMethodDescriptor yX8_lay.desc).map (fun d => d.parameters.length) = some 0 := by decide +kernel
set_option maxHeartbeats 4000000 in
set_option maxRecDepth 100000 in
theorem c_X8_lay {l : Launch} {G : va_G} {ca : Nat → ClassId} {ev : Nat → Nat} {h0 h1 h2 h3 h4 h5 h6 h7 h8 h9 h10 h11 h12 h13 h14 h15 h16 h17 : Nat} {now : (Nat → Int32)} {kept : (Nat → Int32)} {isKept : Int32} {found : (Nat → Int32)} {order : (Nat → Int32)} {doubts : (Nat → Int32)} {doubtMany : Int32} {weights : (Nat → Int64)} {worn : (Nat → Int32)} {pairs : Int64} {isTwice : Int32} {doer : (Nat → Int32)} {doneTo : (Nat → Int32)} {doers : (Nat → Int64)} {tape : (Nat → Int32)} {taped : Int32} {begins : Int32} {ends : Int32} {sort : Int32} {value : Int32} {isWrong : Int32} {items : (Nat → Int32)} {itemMany : Int32} {bowThen : Int32} {doubtThen : Int32} {deedThen : Int32} {sayingThen : Int32} {widths : (Nat → Int32)} {sizes : (Nat → Int32)} {numbers : (Nat → Int64)} {moved : (Nat → Int64)}  {N : Nat} {res : (Nat → Int32) × (Nat → Int32) × Int32} (h : f_X8_lay N now order doubts doubtMany = some res) : CtV l yX8_lay wsX8_lay rm_X8_lay G ca ev [.ref h0] (wM ca ev h0 h1 h2 h3 h4 h5 h6 h7 h8 h9 h10 h11 h12 h13 h14 h15 h16 h17 now kept isKept found order doubts doubtMany weights worn pairs isTwice doer doneTo doers tape taped begins ends sort value isWrong items itemMany bowThen doubtThen deedThen sayingThen widths sizes numbers moved) (wM ca ev h0 h1 h2 h3 h4 h5 h6 h7 h8 h9 h10 h11 h12 h13 h14 h15 h16 h17 now kept isKept found res.1 res.2.1 res.2.2 weights worn pairs isTwice doer doneTo doers tape taped begins ends sort value isWrong items itemMany bowThen doubtThen deedThen sayingThen widths sizes numbers moved) := by
  unfold f_X8_lay at h
  refine en_v (by decide) rfl (Nat.le_of_ble_eq_true rfl) ?_
  intro p e s m args below meth c A Q H locs ls hx hb hml hown hts hA hP hK hD hE hS hl hRet
  have hown : s.vm.findClass RX8 = some m.cls := hown
  have hl : lv_has ls 3 [(0, .ref h0)] := hl
  have hin_X8 : ∀ w ∈ u_ws RX8 TX8 32, w ∈ wsX8_lay := fun w h9 => List.mem_cons_of_mem _ (List.mem_append_right _ h9)
  have fk_126 := hts (.fieldLink RX8 126 "MaskBowsModel" "doubtMany" "I") (by decide +kernel)
  have fk_19 := hts (.fieldLink RX8 19 "MaskBowsModel" "order" "[I") (by decide +kernel)
  have fk_22 := hts (.fieldLink RX8 22 "MaskBowsModel" "doubts" "[I") (by decide +kernel)
  have fk_9 := hts (.fieldLink RX8 9 "MaskBowsModel" "now" "[I") (by decide +kernel)
  refine lv_aload_n hx hb dX8_lay_0 rfl (lv_at hl 0 rfl) ?_
  refine lv_iconst (v := (0 : Int32)) hx hb dX8_lay_1 (by decide) ?_
  refine va_put (D := G) (ci := 8) (v := .int (0 : Int32)) (ty := .int) (C := RX8) (T := TX8) (N := 32) hx hb hts hin_X8 tyX8 tyX8_ok nmX8 hown hK hP hD hS 0 rfl rfl 6 (by decide) fk_126 (fun _ h9 => h9) rfl (tyX8_ok 6 (by decide)) rfl rfl (Nat.le_of_ble_eq_true rfl) dX8_lay_2 (fun H locs hP hD hS => ?_)
  have hP : va_P G vwCl (wM ca ev h0 h1 h2 h3 h4 h5 h6 h7 h8 h9 h10 h11 h12 h13 h14 h15 h16 h17 now kept isKept found order doubts (0 : Int32) weights worn pairs isTwice doer doneTo doers tape taped begins ends sort value isWrong items itemMany bowThen doubtThen deedThen sayingThen widths sizes numbers moved) H := hP
  have hD : va_D A (wM ca ev h0 h1 h2 h3 h4 h5 h6 h7 h8 h9 h10 h11 h12 h13 h14 h15 h16 h17 now kept isKept found order doubts (0 : Int32) weights worn pairs isTwice doer doneTo doers tape taped begins ends sort value isWrong items itemMany bowThen doubtThen deedThen sayingThen widths sizes numbers moved) := hD
  refine lv_iconst (v := (0 : Int32)) hx hb dX8_lay_5 (by decide) ?_
  refine lv_istore_n (lv' := [(1, .int (0 : Int32)), (0, .ref h0)]) hx hb dX8_lay_6 rfl hl (by decide) rfl (fun ls hl => ?_)
  have L_7 : ∀  {now_7 : (Nat → Int32)} (n_7 : Nat) {x1_7 : Int32} {order_7 : (Nat → Int32)} {doubts_7 : (Nat → Int32)} {doubtMany_7 : Int32} {uL_7 : (Nat → Int32) × (Nat → Int32) × Int32} {H : Heap} {locs : List Loc} {ls : Array Slot}, f_X8_lay_7 N now_7  n_7 x1_7 order_7 doubts_7 doubtMany_7 = some uL_7 → va_P G vwCl (wM ca ev h0 h1 h2 h3 h4 h5 h6 h7 h8 h9 h10 h11 h12 h13 h14 h15 h16 h17 now_7 kept isKept found order_7 doubts_7 doubtMany_7 weights worn pairs isTwice doer doneTo doers tape taped begins ends sort value isWrong items itemMany bowThen doubtThen deedThen sayingThen widths sizes numbers moved) H → va_D A (wM ca ev h0 h1 h2 h3 h4 h5 h6 h7 h8 h9 h10 h11 h12 h13 h14 h15 h16 h17 now_7 kept isKept found order_7 doubts_7 doubtMany_7 weights worn pairs isTwice doer doneTo doers tape taped begins ends sort value isWrong items itemMany bowThen doubtThen deedThen sayingThen widths sizes numbers moved) → va_S A s.heap H locs → lv_has ls 3 [(0, .ref h0), (1, .int x1_7)] → (∀ {H : Heap} {locs : List Loc} {ls : Array Slot}, va_P G vwCl (wM ca ev h0 h1 h2 h3 h4 h5 h6 h7 h8 h9 h10 h11 h12 h13 h14 h15 h16 h17 now_7 kept isKept found uL_7.1 uL_7.2.1 uL_7.2.2 weights worn pairs isTwice doer doneTo doers tape taped begins ends sort value isWrong items itemMany bowThen doubtThen deedThen sayingThen widths sizes numbers moved) H → va_D A (wM ca ev h0 h1 h2 h3 h4 h5 h6 h7 h8 h9 h10 h11 h12 h13 h14 h15 h16 h17 now_7 kept isKept found uL_7.1 uL_7.2.1 uL_7.2.2 weights worn pairs isTwice doer doneTo doers tape taped begins ends sort value isWrong items itemMany bowThen doubtThen deedThen sayingThen widths sizes numbers moved) → va_S A s.heap H locs → lv_has ls 3 [] → W p l e rm_X8_lay s m args below meth c H locs 0 0 Q (F0 m 109 ls [])) → W p l e rm_X8_lay s m args below meth c H locs 0 0 Q (F0 m 7 ls []) := by
    intro now_7 n_7
    induction n_7 with
    | zero => intro x1_7 order_7 doubts_7 doubtMany_7 uL_7 H locs ls h; exact absurd h (by rw [f_X8_lay_7]; exact fun z => nomatch z)
    | succ n_7 ih =>
      intro x1_7 order_7 doubts_7 doubtMany_7 uL_7 H locs ls h hP hD hS hl JK_7
      rw [f_X8_lay_7] at h
      refine lv_iload_n hx hb dX8_lay_7 rfl (lv_at hl 1 rfl) ?_
      refine lv_aload_n hx hb dX8_lay_8 rfl (lv_at hl 0 rfl) ?_
      refine va_get (D := G) (ci := 8) (v := .ref h1) (C := RX8) (T := TX8) (N := 32) hx hb hts hin_X8 hown hK hP 0 rfl rfl 0 (by decide) fk_9 (fun _ h9 => h9) rfl dX8_lay_9 ?_
      refine lv_iconst (v := (3 : Int32)) hx hb dX8_lay_12 (by decide) ?_
      refine va_iald hx hb hK hP 1 0 rfl rfl (ix_in (by decide)) dX8_lay_13 ?_
      refine lv_icmp_ge (tgt := 109) hx hb dX8_lay_14 (by decide) (fun c_1 => ?_) (fun c_1 => ?_)
      · have h := ifp c_1 h
        obtain rfl := Option.some.inj h
        exact JK_7 hP hD hS (lv_sub hl [] rfl)
      · have h := ifn c_1 h
        refine lv_aload_n hx hb dX8_lay_17 rfl (lv_at hl 0 rfl) ?_
        refine lv_iload_n hx hb dX8_lay_18 rfl (lv_at hl 1 rfl) ?_
        refine lv_iconst (v := (3 : Int32)) hx hb dX8_lay_19 (by decide) ?_
        obtain ⟨u_2, e_2, h⟩ := bd_some h
        refine cm_Vi (As := [.int x1_7, .int (3 : Int32)]) (rest := []) ⟨hx, hb, hml, hown, hts⟩ (c_X8_bowIs (ca := ca) (ev := ev) (h0 := h0) (h1 := h1) (h2 := h2) (h3 := h3) (h4 := h4) (h5 := h5) (h6 := h6) (h7 := h7) (h8 := h8) (h9 := h9) (h10 := h10) (h11 := h11) (h12 := h12) (h13 := h13) (h14 := h14) (h15 := h15) (h16 := h16) (h17 := h17) (now := now_7) (kept := kept) (isKept := isKept) (found := found) (order := order_7) (doubts := doubts_7) (doubtMany := doubtMany_7) (weights := weights) (worn := worn) (pairs := pairs) (isTwice := isTwice) (doer := doer) (doneTo := doneTo) (doers := doers) (tape := tape) (taped := taped) (begins := begins) (ends := ends) (sort := sort) (value := value) (isWrong := isWrong) (items := items) (itemMany := itemMany) (bowThen := bowThen) (doubtThen := doubtThen) (deedThen := deedThen) (sayingThen := sayingThen) (widths := widths) (sizes := sizes) (numbers := numbers) (moved := moved) e_2) (cwV 2 hts gX8_lay_X8_bowIs rfl rfl rfl hd_X8_bowIs ⟨Nat.le_of_ble_eq_true rfl, Nat.le_of_ble_eq_true rfl⟩) hK hP hD hS hA hE (q0 := 0) (ci := 8) rfl rfl rfl rfl hl.1 rfl (Nat.le_of_ble_eq_true rfl) dX8_lay_20 ⟨Nat.zero_le _, Nat.zero_le _⟩ (fun H locs hP hD hS => ?_)
        refine lv_bipush (v := (10 : Int32)) hx hb dX8_lay_23 (by decide) ?_
        obtain ⟨u_3, e_3, h⟩ := bd_some h
        have J_3 : ∀ {H : Heap} {locs : List Loc} {ls : Array Slot}, va_P G vwCl (wM ca ev h0 h1 h2 h3 h4 h5 h6 h7 h8 h9 h10 h11 h12 h13 h14 h15 h16 h17 now_7 kept isKept found order_7 u_3.1 u_3.2 weights worn pairs isTwice doer doneTo doers tape taped begins ends sort value isWrong items itemMany bowThen doubtThen deedThen sayingThen widths sizes numbers moved) H → va_D A (wM ca ev h0 h1 h2 h3 h4 h5 h6 h7 h8 h9 h10 h11 h12 h13 h14 h15 h16 h17 now_7 kept isKept found order_7 u_3.1 u_3.2 weights worn pairs isTwice doer doneTo doers tape taped begins ends sort value isWrong items itemMany bowThen doubtThen deedThen sayingThen widths sizes numbers moved) → va_S A s.heap H locs → lv_has ls 3 [(0, .ref h0), (1, .int x1_7)] → W p l e rm_X8_lay s m args below meth c H locs 0 0 Q (F0 m 48 ls []) := by
          intro H locs ls hP hD hS hl 
          refine lv_iload_n hx hb dX8_lay_48 rfl (lv_at hl 1 rfl) ?_
          refine lv_istore_n (lv' := [(2, .int x1_7), (0, .ref h0), (1, .int x1_7)]) hx hb dX8_lay_49 rfl hl (by decide) rfl (fun ls hl => ?_)
          have L_50 : ∀ {x1_50 : Int32} {now_50 : (Nat → Int32)} (n_50 : Nat) {x2_50 : Int32} {order_50 : (Nat → Int32)} {uL_50 : Int32 × (Nat → Int32)} {H : Heap} {locs : List Loc} {ls : Array Slot}, f_X8_lay_50 x1_50 now_50  n_50 x2_50 order_50 = some uL_50 → va_P G vwCl (wM ca ev h0 h1 h2 h3 h4 h5 h6 h7 h8 h9 h10 h11 h12 h13 h14 h15 h16 h17 now_50 kept isKept found order_50 u_3.1 u_3.2 weights worn pairs isTwice doer doneTo doers tape taped begins ends sort value isWrong items itemMany bowThen doubtThen deedThen sayingThen widths sizes numbers moved) H → va_D A (wM ca ev h0 h1 h2 h3 h4 h5 h6 h7 h8 h9 h10 h11 h12 h13 h14 h15 h16 h17 now_50 kept isKept found order_50 u_3.1 u_3.2 weights worn pairs isTwice doer doneTo doers tape taped begins ends sort value isWrong items itemMany bowThen doubtThen deedThen sayingThen widths sizes numbers moved) → va_S A s.heap H locs → lv_has ls 3 [(0, .ref h0), (1, .int x1_50), (2, .int x2_50)] → (∀ {H : Heap} {locs : List Loc} {ls : Array Slot}, va_P G vwCl (wM ca ev h0 h1 h2 h3 h4 h5 h6 h7 h8 h9 h10 h11 h12 h13 h14 h15 h16 h17 now_50 kept isKept found uL_50.2 u_3.1 u_3.2 weights worn pairs isTwice doer doneTo doers tape taped begins ends sort value isWrong items itemMany bowThen doubtThen deedThen sayingThen widths sizes numbers moved) H → va_D A (wM ca ev h0 h1 h2 h3 h4 h5 h6 h7 h8 h9 h10 h11 h12 h13 h14 h15 h16 h17 now_50 kept isKept found uL_50.2 u_3.1 u_3.2 weights worn pairs isTwice doer doneTo doers tape taped begins ends sort value isWrong items itemMany bowThen doubtThen deedThen sayingThen widths sizes numbers moved) → va_S A s.heap H locs → lv_has ls 3 [(0, .ref h0), (1, .int x1_50), (2, .int uL_50.1)] → W p l e rm_X8_lay s m args below meth c H locs 0 0 Q (F0 m 96 ls [])) → W p l e rm_X8_lay s m args below meth c H locs 0 0 Q (F0 m 50 ls []) := by
            intro x1_50 now_50 n_50
            induction n_50 with
            | zero => intro x2_50 order_50 uL_50 H locs ls h; exact absurd h (by rw [f_X8_lay_50]; exact fun z => nomatch z)
            | succ n_50 ih =>
              intro x2_50 order_50 uL_50 H locs ls h hP hD hS hl JK_50
              rw [f_X8_lay_50] at h
              refine lv_iload_n hx hb dX8_lay_50 rfl (lv_at hl 2 rfl) ?_
              refine lv_if_le (tgt := 96) hx hb dX8_lay_51 (by decide) (fun c_5 => ?_) (fun c_5 => ?_)
              · have h := ifp c_5 h
                obtain rfl := Option.some.inj h
                exact JK_50 hP hD hS (lv_sub hl [0, 1, 2] rfl)
              · have h := ifn c_5 h
                refine lv_aload_n hx hb dX8_lay_54 rfl (lv_at hl 0 rfl) ?_
                refine lv_aload_n hx hb dX8_lay_55 rfl (lv_at hl 0 rfl) ?_
                refine va_get (D := G) (ci := 8) (v := .ref h4) (C := RX8) (T := TX8) (N := 32) hx hb hts hin_X8 hown hK hP 0 rfl rfl 4 (by decide) fk_19 (fun _ h9 => h9) rfl dX8_lay_56 ?_
                refine lv_iload_n hx hb dX8_lay_59 rfl (lv_at hl 2 rfl) ?_
                refine lv_iconst (v := (1 : Int32)) hx hb dX8_lay_60 (by decide) ?_
                refine lv_isub hx hb dX8_lay_61 ?_
                obtain ⟨i_6, h⟩ := gd_some h
                refine va_iald hx hb hK hP 4 0 rfl rfl (ix_in i_6) dX8_lay_62 ?_
                refine lv_iconst (v := (0 : Int32)) hx hb dX8_lay_63 (by decide) ?_
                obtain ⟨u_7, e_7, h⟩ := bd_some h
                refine cm_Vi (As := [.int (order_50 (x2_50 - (1 : Int32)).toNatClampNeg), .int (0 : Int32)]) (rest := []) ⟨hx, hb, hml, hown, hts⟩ (c_X8_bowIs (ca := ca) (ev := ev) (h0 := h0) (h1 := h1) (h2 := h2) (h3 := h3) (h4 := h4) (h5 := h5) (h6 := h6) (h7 := h7) (h8 := h8) (h9 := h9) (h10 := h10) (h11 := h11) (h12 := h12) (h13 := h13) (h14 := h14) (h15 := h15) (h16 := h16) (h17 := h17) (now := now_50) (kept := kept) (isKept := isKept) (found := found) (order := order_50) (doubts := u_3.1) (doubtMany := u_3.2) (weights := weights) (worn := worn) (pairs := pairs) (isTwice := isTwice) (doer := doer) (doneTo := doneTo) (doers := doers) (tape := tape) (taped := taped) (begins := begins) (ends := ends) (sort := sort) (value := value) (isWrong := isWrong) (items := items) (itemMany := itemMany) (bowThen := bowThen) (doubtThen := doubtThen) (deedThen := deedThen) (sayingThen := sayingThen) (widths := widths) (sizes := sizes) (numbers := numbers) (moved := moved) e_7) (cwV 2 hts gX8_lay_X8_bowIs rfl rfl rfl hd_X8_bowIs ⟨Nat.le_of_ble_eq_true rfl, Nat.le_of_ble_eq_true rfl⟩) hK hP hD hS hA hE (q0 := 0) (ci := 8) rfl rfl rfl rfl hl.1 rfl (Nat.le_of_ble_eq_true rfl) dX8_lay_64 ⟨Nat.zero_le _, Nat.zero_le _⟩ (fun H locs hP hD hS => ?_)
                refine lv_aload_n hx hb dX8_lay_67 rfl (lv_at hl 0 rfl) ?_
                refine lv_iload_n hx hb dX8_lay_68 rfl (lv_at hl 1 rfl) ?_
                refine lv_iconst (v := (0 : Int32)) hx hb dX8_lay_69 (by decide) ?_
                obtain ⟨u_8, e_8, h⟩ := bd_some h
                refine cm_Vi (As := [.int x1_50, .int (0 : Int32)]) (rest := [.int u_7]) ⟨hx, hb, hml, hown, hts⟩ (c_X8_bowIs (ca := ca) (ev := ev) (h0 := h0) (h1 := h1) (h2 := h2) (h3 := h3) (h4 := h4) (h5 := h5) (h6 := h6) (h7 := h7) (h8 := h8) (h9 := h9) (h10 := h10) (h11 := h11) (h12 := h12) (h13 := h13) (h14 := h14) (h15 := h15) (h16 := h16) (h17 := h17) (now := now_50) (kept := kept) (isKept := isKept) (found := found) (order := order_50) (doubts := u_3.1) (doubtMany := u_3.2) (weights := weights) (worn := worn) (pairs := pairs) (isTwice := isTwice) (doer := doer) (doneTo := doneTo) (doers := doers) (tape := tape) (taped := taped) (begins := begins) (ends := ends) (sort := sort) (value := value) (isWrong := isWrong) (items := items) (itemMany := itemMany) (bowThen := bowThen) (doubtThen := doubtThen) (deedThen := deedThen) (sayingThen := sayingThen) (widths := widths) (sizes := sizes) (numbers := numbers) (moved := moved) e_8) (cwV 2 hts gX8_lay_X8_bowIs rfl rfl rfl hd_X8_bowIs ⟨Nat.le_of_ble_eq_true rfl, Nat.le_of_ble_eq_true rfl⟩) hK hP hD hS hA hE (q0 := 0) (ci := 8) rfl rfl rfl rfl hl.1 rfl (Nat.le_of_ble_eq_true rfl) dX8_lay_70 ⟨Nat.zero_le _, Nat.zero_le _⟩ (fun H locs hP hD hS => ?_)
                refine lv_icmp_le (tgt := 96) hx hb dX8_lay_73 (by decide) (fun c_9 => ?_) (fun c_9 => ?_)
                · have h := ifp c_9 h
                  obtain rfl := Option.some.inj h
                  exact JK_50 hP hD hS (lv_sub hl [0, 1, 2] rfl)
                · have h := ifn c_9 h
                  refine lv_aload_n hx hb dX8_lay_76 rfl (lv_at hl 0 rfl) ?_
                  refine va_get (D := G) (ci := 8) (v := .ref h4) (C := RX8) (T := TX8) (N := 32) hx hb hts hin_X8 hown hK hP 0 rfl rfl 4 (by decide) fk_19 (fun _ h9 => h9) rfl dX8_lay_77 ?_
                  refine lv_iload_n hx hb dX8_lay_80 rfl (lv_at hl 2 rfl) ?_
                  refine lv_aload_n hx hb dX8_lay_81 rfl (lv_at hl 0 rfl) ?_
                  refine va_get (D := G) (ci := 8) (v := .ref h4) (C := RX8) (T := TX8) (N := 32) hx hb hts hin_X8 hown hK hP 0 rfl rfl 4 (by decide) fk_19 (fun _ h9 => h9) rfl dX8_lay_82 ?_
                  refine lv_iload_n hx hb dX8_lay_85 rfl (lv_at hl 2 rfl) ?_
                  refine lv_iconst (v := (1 : Int32)) hx hb dX8_lay_86 (by decide) ?_
                  refine lv_isub hx hb dX8_lay_87 ?_
                  refine va_iald hx hb hK hP 4 0 rfl rfl (ix_in i_6) dX8_lay_88 ?_
                  obtain ⟨i_10, h⟩ := gd_some h
                  refine va_iast hx hb hK hP hD hS 4 0 rfl rfl (ix_in i_10) dX8_lay_89 (fun H locs hP hD hS => ?_)
                  have hP : va_P G vwCl (wM ca ev h0 h1 h2 h3 h4 h5 h6 h7 h8 h9 h10 h11 h12 h13 h14 h15 h16 h17 now_50 kept isKept found (upd order_50 x2_50.toNatClampNeg (order_50 (x2_50 - (1 : Int32)).toNatClampNeg)) u_3.1 u_3.2 weights worn pairs isTwice doer doneTo doers tape taped begins ends sort value isWrong items itemMany bowThen doubtThen deedThen sayingThen widths sizes numbers moved) H := hP
                  have hD : va_D A (wM ca ev h0 h1 h2 h3 h4 h5 h6 h7 h8 h9 h10 h11 h12 h13 h14 h15 h16 h17 now_50 kept isKept found (upd order_50 x2_50.toNatClampNeg (order_50 (x2_50 - (1 : Int32)).toNatClampNeg)) u_3.1 u_3.2 weights worn pairs isTwice doer doneTo doers tape taped begins ends sort value isWrong items itemMany bowThen doubtThen deedThen sayingThen widths sizes numbers moved) := hD
                  refine lv_iinc (v := (x2_50 + (-1 : Int32))) (lv' := [(2, .int (x2_50 + (-1 : Int32))), (0, .ref h0), (1, .int x1_50)]) hx hb dX8_lay_90 hl (k := 2) rfl rfl (by decide) rfl (fun ls hl => ?_)
                  refine lv_goto (tgt := 50) hx hb dX8_lay_93 (by decide) ?_
                  exact ih h hP hD hS (lv_sub hl [1, 2, 0] rfl) JK_50
          obtain ⟨u_11, e_11, h⟩ := bd_some h
          refine L_50 _ e_11 hP hD hS (lv_sub hl [1, 2, 0] rfl) ?_
          intro H locs ls hP hD hS hl
          refine lv_aload_n hx hb dX8_lay_96 rfl (lv_at hl 0 rfl) ?_
          refine va_get (D := G) (ci := 8) (v := .ref h4) (C := RX8) (T := TX8) (N := 32) hx hb hts hin_X8 hown hK hP 0 rfl rfl 4 (by decide) fk_19 (fun _ h9 => h9) rfl dX8_lay_97 ?_
          refine lv_iload_n hx hb dX8_lay_100 rfl (lv_at hl 2 rfl) ?_
          refine lv_iload_n hx hb dX8_lay_101 rfl (lv_at hl 1 rfl) ?_
          obtain ⟨i_12, h⟩ := gd_some h
          refine va_iast hx hb hK hP hD hS 4 0 rfl rfl (ix_in i_12) dX8_lay_102 (fun H locs hP hD hS => ?_)
          have hP : va_P G vwCl (wM ca ev h0 h1 h2 h3 h4 h5 h6 h7 h8 h9 h10 h11 h12 h13 h14 h15 h16 h17 now_7 kept isKept found (upd u_11.2 u_11.1.toNatClampNeg x1_7) u_3.1 u_3.2 weights worn pairs isTwice doer doneTo doers tape taped begins ends sort value isWrong items itemMany bowThen doubtThen deedThen sayingThen widths sizes numbers moved) H := hP
          have hD : va_D A (wM ca ev h0 h1 h2 h3 h4 h5 h6 h7 h8 h9 h10 h11 h12 h13 h14 h15 h16 h17 now_7 kept isKept found (upd u_11.2 u_11.1.toNatClampNeg x1_7) u_3.1 u_3.2 weights worn pairs isTwice doer doneTo doers tape taped begins ends sort value isWrong items itemMany bowThen doubtThen deedThen sayingThen widths sizes numbers moved) := hD
          refine lv_iinc (v := (x1_7 + (1 : Int32))) (lv' := [(1, .int (x1_7 + (1 : Int32))), (0, .ref h0), (2, .int u_11.1)]) hx hb dX8_lay_103 hl (k := 1) rfl rfl (by decide) rfl (fun ls hl => ?_)
          refine lv_goto (tgt := 7) hx hb dX8_lay_106 (by decide) ?_
          exact ih h hP hD hS (lv_sub hl [1, 0] rfl) JK_7
        have h := e_3
        clear e_3
        refine lv_icmp_ge (tgt := 48) hx hb dX8_lay_25 (by decide) (fun c_3 => ?_) (fun c_3 => ?_)
        · have h := ifp c_3 h
          obtain rfl := Option.some.inj h
          exact J_3 hP hD hS (lv_sub hl [0, 1] rfl)
        · have h := ifn c_3 h
          refine lv_aload_n hx hb dX8_lay_28 rfl (lv_at hl 0 rfl) ?_
          refine va_get (D := G) (ci := 8) (v := .ref h5) (C := RX8) (T := TX8) (N := 32) hx hb hts hin_X8 hown hK hP 0 rfl rfl 5 (by decide) fk_22 (fun _ h9 => h9) rfl dX8_lay_29 ?_
          refine lv_aload_n hx hb dX8_lay_32 rfl (lv_at hl 0 rfl) ?_
          refine va_get (D := G) (ci := 8) (v := .int doubtMany_7) (C := RX8) (T := TX8) (N := 32) hx hb hts hin_X8 hown hK hP 0 rfl rfl 6 (by decide) fk_126 (fun _ h9 => h9) rfl dX8_lay_33 ?_
          refine lv_iload_n hx hb dX8_lay_36 rfl (lv_at hl 1 rfl) ?_
          obtain ⟨i_4, h⟩ := gd_some h
          refine va_iast hx hb hK hP hD hS 5 0 rfl rfl (ix_in i_4) dX8_lay_37 (fun H locs hP hD hS => ?_)
          have hP : va_P G vwCl (wM ca ev h0 h1 h2 h3 h4 h5 h6 h7 h8 h9 h10 h11 h12 h13 h14 h15 h16 h17 now_7 kept isKept found order_7 (upd doubts_7 doubtMany_7.toNatClampNeg x1_7) doubtMany_7 weights worn pairs isTwice doer doneTo doers tape taped begins ends sort value isWrong items itemMany bowThen doubtThen deedThen sayingThen widths sizes numbers moved) H := hP
          have hD : va_D A (wM ca ev h0 h1 h2 h3 h4 h5 h6 h7 h8 h9 h10 h11 h12 h13 h14 h15 h16 h17 now_7 kept isKept found order_7 (upd doubts_7 doubtMany_7.toNatClampNeg x1_7) doubtMany_7 weights worn pairs isTwice doer doneTo doers tape taped begins ends sort value isWrong items itemMany bowThen doubtThen deedThen sayingThen widths sizes numbers moved) := hD
          refine lv_aload_n hx hb dX8_lay_38 rfl (lv_at hl 0 rfl) ?_
          refine lv_dup hx hb dX8_lay_39 rfl ?_
          refine va_get (D := G) (ci := 8) (v := .int doubtMany_7) (C := RX8) (T := TX8) (N := 32) hx hb hts hin_X8 hown hK hP 0 rfl rfl 6 (by decide) fk_126 (fun _ h9 => h9) rfl dX8_lay_40 ?_
          refine lv_iconst (v := (1 : Int32)) hx hb dX8_lay_43 (by decide) ?_
          refine lv_iadd hx hb dX8_lay_44 ?_
          refine va_put (D := G) (ci := 8) (v := .int (doubtMany_7 + (1 : Int32))) (ty := .int) (C := RX8) (T := TX8) (N := 32) hx hb hts hin_X8 tyX8 tyX8_ok nmX8 hown hK hP hD hS 0 rfl rfl 6 (by decide) fk_126 (fun _ h9 => h9) rfl (tyX8_ok 6 (by decide)) rfl rfl (Nat.le_of_ble_eq_true rfl) dX8_lay_45 (fun H locs hP hD hS => ?_)
          have hP : va_P G vwCl (wM ca ev h0 h1 h2 h3 h4 h5 h6 h7 h8 h9 h10 h11 h12 h13 h14 h15 h16 h17 now_7 kept isKept found order_7 (upd doubts_7 doubtMany_7.toNatClampNeg x1_7) (doubtMany_7 + (1 : Int32)) weights worn pairs isTwice doer doneTo doers tape taped begins ends sort value isWrong items itemMany bowThen doubtThen deedThen sayingThen widths sizes numbers moved) H := hP
          have hD : va_D A (wM ca ev h0 h1 h2 h3 h4 h5 h6 h7 h8 h9 h10 h11 h12 h13 h14 h15 h16 h17 now_7 kept isKept found order_7 (upd doubts_7 doubtMany_7.toNatClampNeg x1_7) (doubtMany_7 + (1 : Int32)) weights worn pairs isTwice doer doneTo doers tape taped begins ends sort value isWrong items itemMany bowThen doubtThen deedThen sayingThen widths sizes numbers moved) := hD
          obtain rfl := Option.some.inj h
          exact J_3 hP hD hS (lv_sub hl [0, 1] rfl)
  obtain ⟨u_13, e_13, h⟩ := bd_some h
  refine L_7 _ e_13 hP hD hS (lv_sub hl [1, 0] rfl) ?_
  intro H locs ls hP hD hS hl
  obtain rfl := Option.some.inj h
  exact hRet hP hD hS dX8_lay_109
abbrev rm_X8_nightsThere : Room := { frames := 0, cells := 0, slots := 0, locals := 0 }
theorem hd_X8_nightsThere : yX8_nightsThere.cls = RX8 ∧ yX8_nightsThere.cls ≠ "java/lang/invoke/MethodHandle" ∧ yX8_nightsThere.cls ≠ "java/lang/invoke/VarHandle" ∧ (parseMethodDescriptor yX8_nightsThere.desc).map (fun d => d.parameters.length) = some 0 := by decide +kernel
set_option maxHeartbeats 4000000 in
set_option maxRecDepth 100000 in
theorem c_X8_nightsThere {l : Launch} {G : va_G} {ca : Nat → ClassId} {ev : Nat → Nat} {h0 h1 h2 h3 h4 h5 h6 h7 h8 h9 h10 h11 h12 h13 h14 h15 h16 h17 : Nat} {now : (Nat → Int32)} {kept : (Nat → Int32)} {isKept : Int32} {found : (Nat → Int32)} {order : (Nat → Int32)} {doubts : (Nat → Int32)} {doubtMany : Int32} {weights : (Nat → Int64)} {worn : (Nat → Int32)} {pairs : Int64} {isTwice : Int32} {doer : (Nat → Int32)} {doneTo : (Nat → Int32)} {doers : (Nat → Int64)} {tape : (Nat → Int32)} {taped : Int32} {begins : Int32} {ends : Int32} {sort : Int32} {value : Int32} {isWrong : Int32} {items : (Nat → Int32)} {itemMany : Int32} {bowThen : Int32} {doubtThen : Int32} {deedThen : Int32} {sayingThen : Int32} {widths : (Nat → Int32)} {sizes : (Nat → Int32)} {numbers : (Nat → Int64)} {moved : (Nat → Int64)}  {res : Int32} (h : f_X8_nightsThere doubtMany = some res) : CtI l yX8_nightsThere wsX8_nightsThere rm_X8_nightsThere G ca ev [.ref h0] (wM ca ev h0 h1 h2 h3 h4 h5 h6 h7 h8 h9 h10 h11 h12 h13 h14 h15 h16 h17 now kept isKept found order doubts doubtMany weights worn pairs isTwice doer doneTo doers tape taped begins ends sort value isWrong items itemMany bowThen doubtThen deedThen sayingThen widths sizes numbers moved) (wM ca ev h0 h1 h2 h3 h4 h5 h6 h7 h8 h9 h10 h11 h12 h13 h14 h15 h16 h17 now kept isKept found order doubts doubtMany weights worn pairs isTwice doer doneTo doers tape taped begins ends sort value isWrong items itemMany bowThen doubtThen deedThen sayingThen widths sizes numbers moved) res := by
  unfold f_X8_nightsThere at h
  refine en_i (by decide) rfl (Nat.le_of_ble_eq_true rfl) ?_
  intro p e s m args below meth c A Q H locs ls hx hb hml hown hts hA hP hK hD hE hS hl hRet
  have hown : s.vm.findClass RX8 = some m.cls := hown
  have hl : lv_has ls 1 [(0, .ref h0)] := hl
  have hin_X8 : ∀ w ∈ u_ws RX8 TX8 32, w ∈ wsX8_nightsThere := fun w h9 => List.mem_cons_of_mem _ (List.mem_append_right _ h9)
  have fk_126 := hts (.fieldLink RX8 126 "MaskBowsModel" "doubtMany" "I") (by decide +kernel)
  refine lv_iconst (v := (1 : Int32)) hx hb dX8_nightsThere_0 (by decide) ?_
  refine lv_aload_n hx hb dX8_nightsThere_1 rfl (lv_at hl 0 rfl) ?_
  refine va_get (D := G) (ci := 8) (v := .int doubtMany) (C := RX8) (T := TX8) (N := 32) hx hb hts hin_X8 hown hK hP 0 rfl rfl 6 (by decide) fk_126 (fun _ h9 => h9) rfl dX8_nightsThere_2 ?_
  refine lv_ishl hx hb dX8_nightsThere_5 ?_
  obtain rfl := Option.some.inj h
  exact hRet hP hD hS dX8_nightsThere_6
abbrev rm_X8_isMade : Room := { frames := 0, cells := 0, slots := 0, locals := 0 }
theorem hd_X8_isMade : yX8_isMade.cls = RX8 ∧ yX8_isMade.cls ≠ "java/lang/invoke/MethodHandle" ∧ yX8_isMade.cls ≠ "java/lang/invoke/VarHandle" ∧ (parseMethodDescriptor yX8_isMade.desc).map (fun d => d.parameters.length) = some 2 := by decide +kernel
set_option maxHeartbeats 4000000 in
set_option maxRecDepth 100000 in
theorem c_X8_isMade {l : Launch} {G : va_G} {ca : Nat → ClassId} {ev : Nat → Nat} {h0 h1 h2 h3 h4 h5 h6 h7 h8 h9 h10 h11 h12 h13 h14 h15 h16 h17 : Nat} {now : (Nat → Int32)} {kept : (Nat → Int32)} {isKept : Int32} {found : (Nat → Int32)} {order : (Nat → Int32)} {doubts : (Nat → Int32)} {doubtMany : Int32} {weights : (Nat → Int64)} {worn : (Nat → Int32)} {pairs : Int64} {isTwice : Int32} {doer : (Nat → Int32)} {doneTo : (Nat → Int32)} {doers : (Nat → Int64)} {tape : (Nat → Int32)} {taped : Int32} {begins : Int32} {ends : Int32} {sort : Int32} {value : Int32} {isWrong : Int32} {items : (Nat → Int32)} {itemMany : Int32} {bowThen : Int32} {doubtThen : Int32} {deedThen : Int32} {sayingThen : Int32} {widths : (Nat → Int32)} {sizes : (Nat → Int32)} {numbers : (Nat → Int64)} {moved : (Nat → Int64)} {a1 : Int32} {a2 : Int32} {N : Nat} {res : Int32} (h : f_X8_isMade N doubts doubtMany a1 a2 = some res) : CtI l yX8_isMade wsX8_isMade rm_X8_isMade G ca ev [.ref h0, .int a1, .int a2] (wM ca ev h0 h1 h2 h3 h4 h5 h6 h7 h8 h9 h10 h11 h12 h13 h14 h15 h16 h17 now kept isKept found order doubts doubtMany weights worn pairs isTwice doer doneTo doers tape taped begins ends sort value isWrong items itemMany bowThen doubtThen deedThen sayingThen widths sizes numbers moved) (wM ca ev h0 h1 h2 h3 h4 h5 h6 h7 h8 h9 h10 h11 h12 h13 h14 h15 h16 h17 now kept isKept found order doubts doubtMany weights worn pairs isTwice doer doneTo doers tape taped begins ends sort value isWrong items itemMany bowThen doubtThen deedThen sayingThen widths sizes numbers moved) res := by
  unfold f_X8_isMade at h
  refine en_z (by decide) rfl (Nat.le_of_ble_eq_true rfl) ?_
  intro p e s m args below meth c A Q H locs ls hx hb hml hown hts hA hP hK hD hE hS hl hRet
  have hown : s.vm.findClass RX8 = some m.cls := hown
  have hl : lv_has ls 5 [(0, .ref h0), (1, .int a1), (2, .int a2)] := hl
  have hin_X8 : ∀ w ∈ u_ws RX8 TX8 32, w ∈ wsX8_isMade := fun w h9 => List.mem_cons_of_mem _ (List.mem_append_right _ h9)
  have fk_126 := hts (.fieldLink RX8 126 "MaskBowsModel" "doubtMany" "I") (by decide +kernel)
  have fk_22 := hts (.fieldLink RX8 22 "MaskBowsModel" "doubts" "[I") (by decide +kernel)
  refine lv_iconst (v := (1 : Int32)) hx hb dX8_isMade_0 (by decide) ?_
  refine lv_istore_n (lv' := [(3, .int (1 : Int32)), (0, .ref h0), (1, .int a1), (2, .int a2)]) hx hb dX8_isMade_1 rfl hl (by decide) rfl (fun ls hl => ?_)
  refine lv_iconst (v := (0 : Int32)) hx hb dX8_isMade_2 (by decide) ?_
  refine lv_istore (lv' := [(4, .int (0 : Int32)), (3, .int (1 : Int32)), (0, .ref h0), (1, .int a1), (2, .int a2)]) hx hb dX8_isMade_3 hl (by decide) rfl (fun ls hl => ?_)
  have L_5 : ∀ {x1_5 : Int32} {x2_5 : Int32} {doubts_5 : (Nat → Int32)} {doubtMany_5 : Int32} (n_5 : Nat) {x3_5 : Int32} {x4_5 : Int32} {uL_5 : Int32} {H : Heap} {locs : List Loc} {ls : Array Slot}, f_X8_isMade_5 x1_5 x2_5 doubts_5 doubtMany_5  n_5 x3_5 x4_5 = some uL_5 → va_P G vwCl (wM ca ev h0 h1 h2 h3 h4 h5 h6 h7 h8 h9 h10 h11 h12 h13 h14 h15 h16 h17 now kept isKept found order doubts_5 doubtMany_5 weights worn pairs isTwice doer doneTo doers tape taped begins ends sort value isWrong items itemMany bowThen doubtThen deedThen sayingThen widths sizes numbers moved) H → va_D A (wM ca ev h0 h1 h2 h3 h4 h5 h6 h7 h8 h9 h10 h11 h12 h13 h14 h15 h16 h17 now kept isKept found order doubts_5 doubtMany_5 weights worn pairs isTwice doer doneTo doers tape taped begins ends sort value isWrong items itemMany bowThen doubtThen deedThen sayingThen widths sizes numbers moved) → va_S A s.heap H locs → lv_has ls 5 [(0, .ref h0), (1, .int x1_5), (2, .int x2_5), (3, .int x3_5), (4, .int x4_5)] → (∀ {H : Heap} {locs : List Loc} {ls : Array Slot}, va_P G vwCl (wM ca ev h0 h1 h2 h3 h4 h5 h6 h7 h8 h9 h10 h11 h12 h13 h14 h15 h16 h17 now kept isKept found order doubts_5 doubtMany_5 weights worn pairs isTwice doer doneTo doers tape taped begins ends sort value isWrong items itemMany bowThen doubtThen deedThen sayingThen widths sizes numbers moved) H → va_D A (wM ca ev h0 h1 h2 h3 h4 h5 h6 h7 h8 h9 h10 h11 h12 h13 h14 h15 h16 h17 now kept isKept found order doubts_5 doubtMany_5 weights worn pairs isTwice doer doneTo doers tape taped begins ends sort value isWrong items itemMany bowThen doubtThen deedThen sayingThen widths sizes numbers moved) → va_S A s.heap H locs → lv_has ls 5 [(3, .int uL_5)] → W p l e rm_X8_isMade s m args below meth c H locs 0 0 Q (F0 m 51 ls [])) → W p l e rm_X8_isMade s m args below meth c H locs 0 0 Q (F0 m 5 ls []) := by
    intro x1_5 x2_5 doubts_5 doubtMany_5 n_5
    induction n_5 with
    | zero => intro x3_5 x4_5 uL_5 H locs ls h; exact absurd h (by rw [f_X8_isMade_5]; exact fun z => nomatch z)
    | succ n_5 ih =>
      intro x3_5 x4_5 uL_5 H locs ls h hP hD hS hl JK_5
      rw [f_X8_isMade_5] at h
      refine lv_iload hx hb dX8_isMade_5 (lv_at hl 4 rfl) ?_
      refine lv_aload_n hx hb dX8_isMade_7 rfl (lv_at hl 0 rfl) ?_
      refine va_get (D := G) (ci := 8) (v := .int doubtMany_5) (C := RX8) (T := TX8) (N := 32) hx hb hts hin_X8 hown hK hP 0 rfl rfl 6 (by decide) fk_126 (fun _ h9 => h9) rfl dX8_isMade_8 ?_
      refine lv_icmp_ge (tgt := 51) hx hb dX8_isMade_11 (by decide) (fun c_1 => ?_) (fun c_1 => ?_)
      · have h := ifp c_1 h
        obtain rfl := Option.some.inj h
        exact JK_5 hP hD hS (lv_sub hl [3] rfl)
      · have h := ifn c_1 h
        refine lv_aload_n hx hb dX8_isMade_14 rfl (lv_at hl 0 rfl) ?_
        refine va_get (D := G) (ci := 8) (v := .ref h5) (C := RX8) (T := TX8) (N := 32) hx hb hts hin_X8 hown hK hP 0 rfl rfl 5 (by decide) fk_22 (fun _ h9 => h9) rfl dX8_isMade_15 ?_
        refine lv_iload hx hb dX8_isMade_18 (lv_at hl 4 rfl) ?_
        obtain ⟨i_2, h⟩ := gd_some h
        refine va_iald hx hb hK hP 5 0 rfl rfl (ix_in i_2) dX8_isMade_20 ?_
        refine lv_iload_n hx hb dX8_isMade_21 rfl (lv_at hl 1 rfl) ?_
        obtain ⟨u_3, e_3, h⟩ := bd_some h
        have J_3 : ∀ {H : Heap} {locs : List Loc} {ls : Array Slot}, va_P G vwCl (wM ca ev h0 h1 h2 h3 h4 h5 h6 h7 h8 h9 h10 h11 h12 h13 h14 h15 h16 h17 now kept isKept found order doubts_5 doubtMany_5 weights worn pairs isTwice doer doneTo doers tape taped begins ends sort value isWrong items itemMany bowThen doubtThen deedThen sayingThen widths sizes numbers moved) H → va_D A (wM ca ev h0 h1 h2 h3 h4 h5 h6 h7 h8 h9 h10 h11 h12 h13 h14 h15 h16 h17 now kept isKept found order doubts_5 doubtMany_5 weights worn pairs isTwice doer doneTo doers tape taped begins ends sort value isWrong items itemMany bowThen doubtThen deedThen sayingThen widths sizes numbers moved) → va_S A s.heap H locs → lv_has ls 5 [(0, .ref h0), (1, .int x1_5), (2, .int x2_5), (4, .int x4_5)] → W p l e rm_X8_isMade s m args below meth c H locs 0 0 Q (F0 m 44 ls [.int u_3]) := by
          intro H locs ls hP hD hS hl 
          refine lv_istore_n (lv' := [(3, .int u_3), (0, .ref h0), (1, .int x1_5), (2, .int x2_5), (4, .int x4_5)]) hx hb dX8_isMade_44 rfl hl (by decide) rfl (fun ls hl => ?_)
          refine lv_iinc (v := (x4_5 + (1 : Int32))) (lv' := [(4, .int (x4_5 + (1 : Int32))), (3, .int u_3), (0, .ref h0), (1, .int x1_5), (2, .int x2_5)]) hx hb dX8_isMade_45 hl (k := 4) rfl rfl (by decide) rfl (fun ls hl => ?_)
          refine lv_goto (tgt := 5) hx hb dX8_isMade_48 (by decide) ?_
          exact ih h hP hD hS (lv_sub hl [2, 3, 4, 1, 0] rfl) JK_5
        have h := e_3
        clear e_3
        refine lv_icmp_ne (tgt := 43) hx hb dX8_isMade_22 (by decide) (fun c_3 => ?_) (fun c_3 => ?_)
        · have h := ifn c_3 h
          refine lv_iload_n hx hb dX8_isMade_43 rfl (lv_at hl 3 rfl) ?_
          obtain rfl := Option.some.inj h
          exact J_3 hP hD hS (lv_sub hl [0, 1, 2, 4] rfl)
        · have h := ifp c_3 h
          refine lv_iload_n hx hb dX8_isMade_25 rfl (lv_at hl 2 rfl) ?_
          refine lv_iload hx hb dX8_isMade_26 (lv_at hl 4 rfl) ?_
          refine lv_ishr hx hb dX8_isMade_28 ?_
          refine lv_iconst (v := (1 : Int32)) hx hb dX8_isMade_29 (by decide) ?_
          refine lv_iand hx hb dX8_isMade_30 ?_
          refine lv_iconst (v := (1 : Int32)) hx hb dX8_isMade_31 (by decide) ?_
          refine lv_icmp_ne (tgt := 39) hx hb dX8_isMade_32 (by decide) (fun c_4 => ?_) (fun c_4 => ?_)
          · have h := ifn c_4 h
            refine lv_iconst (v := (0 : Int32)) hx hb dX8_isMade_39 (by decide) ?_
            refine lv_goto (tgt := 44) hx hb dX8_isMade_40 (by decide) ?_
            obtain rfl := Option.some.inj h
            exact J_3 hP hD hS (lv_sub hl [0, 1, 2, 4] rfl)
          · have h := ifp c_4 h
            refine lv_iconst (v := (1 : Int32)) hx hb dX8_isMade_35 (by decide) ?_
            refine lv_goto (tgt := 44) hx hb dX8_isMade_36 (by decide) ?_
            obtain rfl := Option.some.inj h
            exact J_3 hP hD hS (lv_sub hl [0, 1, 2, 4] rfl)
  obtain ⟨u_5, e_5, h⟩ := bd_some h
  refine L_5 _ e_5 hP hD hS (lv_sub hl [2, 3, 4, 1, 0] rfl) ?_
  intro H locs ls hP hD hS hl
  refine lv_iload_n hx hb dX8_isMade_51 rfl (lv_at hl 0 rfl) ?_
  obtain ⟨z_6, h⟩ := gd_some h
  obtain rfl := Option.some.inj h
  exact hRet hP hD hS (isb_or z_6) dX8_isMade_52
abbrev rm_X8_change : Room := { frames := 1, cells := 0, slots := 0, locals := 23 }
theorem hd_X8_change : yX8_change.cls = RX8 ∧ yX8_change.cls ≠ "java/lang/invoke/MethodHandle" ∧ yX8_change.cls ≠ "java/lang/invoke/VarHandle" ∧ (parseMethodDescriptor yX8_change.desc).map (fun d => d.parameters.length) = some 2 := by decide +kernel
set_option maxHeartbeats 4000000 in
set_option maxRecDepth 100000 in
theorem c_X8_change {l : Launch} {G : va_G} {ca : Nat → ClassId} {ev : Nat → Nat} {h0 h1 h2 h3 h4 h5 h6 h7 h8 h9 h10 h11 h12 h13 h14 h15 h16 h17 : Nat} {now : (Nat → Int32)} {kept : (Nat → Int32)} {isKept : Int32} {found : (Nat → Int32)} {order : (Nat → Int32)} {doubts : (Nat → Int32)} {doubtMany : Int32} {weights : (Nat → Int64)} {worn : (Nat → Int32)} {pairs : Int64} {isTwice : Int32} {doer : (Nat → Int32)} {doneTo : (Nat → Int32)} {doers : (Nat → Int64)} {tape : (Nat → Int32)} {taped : Int32} {begins : Int32} {ends : Int32} {sort : Int32} {value : Int32} {isWrong : Int32} {items : (Nat → Int32)} {itemMany : Int32} {bowThen : Int32} {doubtThen : Int32} {deedThen : Int32} {sayingThen : Int32} {widths : (Nat → Int32)} {sizes : (Nat → Int32)} {numbers : (Nat → Int64)} {moved : (Nat → Int64)} {a1 : Int32} {a2 : Int32} {res : (Nat → Int32) × Int64 × Int32} (h : f_X8_change worn pairs isTwice a1 a2 = some res) : CtV l yX8_change wsX8_change rm_X8_change G ca ev [.ref h0, .int a1, .int a2] (wM ca ev h0 h1 h2 h3 h4 h5 h6 h7 h8 h9 h10 h11 h12 h13 h14 h15 h16 h17 now kept isKept found order doubts doubtMany weights worn pairs isTwice doer doneTo doers tape taped begins ends sort value isWrong items itemMany bowThen doubtThen deedThen sayingThen widths sizes numbers moved) (wM ca ev h0 h1 h2 h3 h4 h5 h6 h7 h8 h9 h10 h11 h12 h13 h14 h15 h16 h17 now kept isKept found order doubts doubtMany weights res.1 res.2.1 res.2.2 doer doneTo doers tape taped begins ends sort value isWrong items itemMany bowThen doubtThen deedThen sayingThen widths sizes numbers moved) := by
  unfold f_X8_change at h
  refine en_v (by decide) rfl (Nat.le_of_ble_eq_true rfl) ?_
  intro p e s m args below meth c A Q H locs ls hx hb hml hown hts hA hP hK hD hE hS hl hRet
  have hown : s.vm.findClass RX8 = some m.cls := hown
  have hl : lv_has ls 7 [(0, .ref h0), (1, .int a1), (2, .int a2)] := hl
  have hin_X8 : ∀ w ∈ u_ws RX8 TX8 32, w ∈ wsX8_change := fun w h9 => List.mem_cons_of_mem _ (List.mem_append_right _ h9)
  have fk_130 := hts (.fieldLink RX8 130 "MaskBowsModel" "pairs" "J") (by decide +kernel)
  have fk_134 := hts (.fieldLink RX8 134 "MaskBowsModel" "isTwice" "Z") (by decide +kernel)
  have fk_29 := hts (.fieldLink RX8 29 "MaskBowsModel" "worn" "[I") (by decide +kernel)
  refine lv_aload_n hx hb dX8_change_0 rfl (lv_at hl 0 rfl) ?_
  refine va_get (D := G) (ci := 8) (v := .ref h7) (C := RX8) (T := TX8) (N := 32) hx hb hts hin_X8 hown hK hP 0 rfl rfl 8 (by decide) fk_29 (fun _ h9 => h9) rfl dX8_change_1 ?_
  refine lv_iload_n hx hb dX8_change_4 rfl (lv_at hl 1 rfl) ?_
  obtain ⟨i_1, h⟩ := gd_some h
  refine va_iald hx hb hK hP 7 0 rfl rfl (ix_in i_1) dX8_change_5 ?_
  refine lv_istore_n (lv' := [(3, .int (worn a1.toNatClampNeg)), (0, .ref h0), (1, .int a1), (2, .int a2)]) hx hb dX8_change_6 rfl hl (by decide) rfl (fun ls hl => ?_)
  refine lv_aload_n hx hb dX8_change_7 rfl (lv_at hl 1 rfl) ?_
  refine va_get (D := G) (ci := 8) (v := .ref h7) (C := RX8) (T := TX8) (N := 32) hx hb hts hin_X8 hown hK hP 0 rfl rfl 8 (by decide) fk_29 (fun _ h9 => h9) rfl dX8_change_8 ?_
  refine lv_iload_n hx hb dX8_change_11 rfl (lv_at hl 3 rfl) ?_
  obtain ⟨i_2, h⟩ := gd_some h
  refine va_iald hx hb hK hP 7 0 rfl rfl (ix_in i_2) dX8_change_12 ?_
  refine lv_istore (lv' := [(4, .int (worn a2.toNatClampNeg)), (3, .int (worn a1.toNatClampNeg)), (0, .ref h0), (1, .int a1), (2, .int a2)]) hx hb dX8_change_13 hl (by decide) rfl (fun ls hl => ?_)
  refine lv_lconst (v := (1 : Int64)) hx hb dX8_change_15 (by decide) ?_
  refine lv_bipush (v := (8 : Int32)) hx hb dX8_change_16 (by decide) ?_
  refine lv_iload_n hx hb dX8_change_18 rfl (lv_at hl 1 rfl) ?_
  refine lv_iload hx hb dX8_change_19 (lv_at hl 0 rfl) ?_
  refine va_mmin hx hb (hml.trans hl.1.symm) hown (hts (.methodLink RX8 145 Lib.Math.min.name) (by decide +kernel)) (hts (.static Lib.Math.min.name) (by decide +kernel)) (hts (.initialized "java/lang/Math") (by decide +kernel)) (hts (.code Lib.Math.min.name Lib.Math.min.code 2 (some .int)) (by decide +kernel)) (Nat.le_of_ble_eq_true rfl) (Nat.le_of_ble_eq_true rfl) (Nat.zero_le _) (Nat.zero_le _) dX8_change_21 ?_
  refine lv_imul hx hb dX8_change_24 ?_
  refine lv_iload_n hx hb dX8_change_25 rfl (lv_at hl 1 rfl) ?_
  refine lv_iload hx hb dX8_change_26 (lv_at hl 0 rfl) ?_
  refine va_mmax hx hb (hml.trans hl.1.symm) hown (hts (.methodLink RX8 150 Lib.Math.max.name) (by decide +kernel)) (hts (.static Lib.Math.max.name) (by decide +kernel)) (hts (.initialized "java/lang/Math") (by decide +kernel)) (hts (.code Lib.Math.max.name Lib.Math.max.code 2 (some .int)) (by decide +kernel)) (Nat.le_of_ble_eq_true rfl) (Nat.le_of_ble_eq_true rfl) (Nat.zero_le _) (Nat.zero_le _) dX8_change_28 ?_
  refine lv_iadd hx hb dX8_change_31 ?_
  refine lv_lshl (v := ((1 : Int64) <<< ((((8 : Int32) * (if (worn a2.toNatClampNeg) < (worn a1.toNatClampNeg) then (worn a2.toNatClampNeg) else (worn a1.toNatClampNeg))) + (if (worn a1.toNatClampNeg) < (worn a2.toNatClampNeg) then (worn a2.toNatClampNeg) else (worn a1.toNatClampNeg))).toInt64 &&& 63))) hx hb dX8_change_32 rfl ?_
  refine lv_lstore (lv' := [(5, .long ((1 : Int64) <<< ((((8 : Int32) * (if (worn a2.toNatClampNeg) < (worn a1.toNatClampNeg) then (worn a2.toNatClampNeg) else (worn a1.toNatClampNeg))) + (if (worn a1.toNatClampNeg) < (worn a2.toNatClampNeg) then (worn a2.toNatClampNeg) else (worn a1.toNatClampNeg))).toInt64 &&& 63))), (4, .int (worn a2.toNatClampNeg)), (3, .int (worn a1.toNatClampNeg)), (0, .ref h0), (1, .int a1), (2, .int a2)]) hx hb dX8_change_33 hl (by decide) rfl (fun ls hl => ?_)
  refine lv_aload_n hx hb dX8_change_35 rfl (lv_at hl 3 rfl) ?_
  refine lv_aload_n hx hb dX8_change_36 rfl (lv_at hl 3 rfl) ?_
  refine va_get (D := G) (ci := 8) (v := .int isTwice) (C := RX8) (T := TX8) (N := 32) hx hb hts hin_X8 hown hK hP 0 rfl rfl 10 (by decide) fk_134 (fun _ h9 => h9) rfl dX8_change_37 ?_
  obtain ⟨u_3, e_3, h⟩ := bd_some h
  have J_3 : ∀ {H : Heap} {locs : List Loc} {ls : Array Slot}, va_P G vwCl (wM ca ev h0 h1 h2 h3 h4 h5 h6 h7 h8 h9 h10 h11 h12 h13 h14 h15 h16 h17 now kept isKept found order doubts doubtMany weights worn pairs isTwice doer doneTo doers tape taped begins ends sort value isWrong items itemMany bowThen doubtThen deedThen sayingThen widths sizes numbers moved) H → va_D A (wM ca ev h0 h1 h2 h3 h4 h5 h6 h7 h8 h9 h10 h11 h12 h13 h14 h15 h16 h17 now kept isKept found order doubts doubtMany weights worn pairs isTwice doer doneTo doers tape taped begins ends sort value isWrong items itemMany bowThen doubtThen deedThen sayingThen widths sizes numbers moved) → va_S A s.heap H locs → lv_has ls 7 [(0, .ref h0), (1, .int a1), (2, .int a2), (3, .int (worn a1.toNatClampNeg)), (4, .int (worn a2.toNatClampNeg)), (5, .long ((1 : Int64) <<< ((((8 : Int32) * (if (worn a2.toNatClampNeg) < (worn a1.toNatClampNeg) then (worn a2.toNatClampNeg) else (worn a1.toNatClampNeg))) + (if (worn a1.toNatClampNeg) < (worn a2.toNatClampNeg) then (worn a2.toNatClampNeg) else (worn a1.toNatClampNeg))).toInt64 &&& 63)))] → (u_3 = 0 ∨ u_3 = 1) → W p l e rm_X8_change s m args below meth c H locs 0 0 Q (F0 m 60 ls [.int u_3, .ref h0]) := by
    intro H locs ls hP hD hS hl zj_3_0
    refine va_put (D := G) (ci := 8) (v := .int u_3) (ty := .boolean) (C := RX8) (T := TX8) (N := 32) hx hb hts hin_X8 tyX8 tyX8_ok nmX8 hown hK hP hD hS 0 rfl rfl 10 (by decide) fk_134 (fun _ h9 => h9) rfl (tyX8_ok 10 (by decide)) (zb_nar zj_3_0) (zb_fit zj_3_0) (Nat.le_of_ble_eq_true rfl) dX8_change_60 (fun H locs hP hD hS => ?_)
    have hP : va_P G vwCl (wM ca ev h0 h1 h2 h3 h4 h5 h6 h7 h8 h9 h10 h11 h12 h13 h14 h15 h16 h17 now kept isKept found order doubts doubtMany weights worn pairs u_3 doer doneTo doers tape taped begins ends sort value isWrong items itemMany bowThen doubtThen deedThen sayingThen widths sizes numbers moved) H := hP
    have hD : va_D A (wM ca ev h0 h1 h2 h3 h4 h5 h6 h7 h8 h9 h10 h11 h12 h13 h14 h15 h16 h17 now kept isKept found order doubts doubtMany weights worn pairs u_3 doer doneTo doers tape taped begins ends sort value isWrong items itemMany bowThen doubtThen deedThen sayingThen widths sizes numbers moved) := hD
    refine lv_aload_n hx hb dX8_change_63 rfl (lv_at hl 0 rfl) ?_
    refine lv_dup hx hb dX8_change_64 rfl ?_
    refine va_get (D := G) (ci := 8) (v := .long pairs) (C := RX8) (T := TX8) (N := 32) hx hb hts hin_X8 hown hK hP 0 rfl rfl 9 (by decide) fk_130 (fun _ h9 => h9) rfl dX8_change_65 ?_
    refine lv_lload hx hb dX8_change_68 (lv_at hl 5 rfl) ?_
    refine lv_lor hx hb dX8_change_70 ?_
    refine va_put (D := G) (ci := 8) (v := .long (pairs ||| ((1 : Int64) <<< ((((8 : Int32) * (if (worn a2.toNatClampNeg) < (worn a1.toNatClampNeg) then (worn a2.toNatClampNeg) else (worn a1.toNatClampNeg))) + (if (worn a1.toNatClampNeg) < (worn a2.toNatClampNeg) then (worn a2.toNatClampNeg) else (worn a1.toNatClampNeg))).toInt64 &&& 63)))) (ty := .long) (C := RX8) (T := TX8) (N := 32) hx hb hts hin_X8 tyX8 tyX8_ok nmX8 hown hK hP hD hS 0 rfl rfl 9 (by decide) fk_130 (fun _ h9 => h9) rfl (tyX8_ok 9 (by decide)) rfl rfl (Nat.le_of_ble_eq_true rfl) dX8_change_71 (fun H locs hP hD hS => ?_)
    have hP : va_P G vwCl (wM ca ev h0 h1 h2 h3 h4 h5 h6 h7 h8 h9 h10 h11 h12 h13 h14 h15 h16 h17 now kept isKept found order doubts doubtMany weights worn (pairs ||| ((1 : Int64) <<< ((((8 : Int32) * (if (worn a2.toNatClampNeg) < (worn a1.toNatClampNeg) then (worn a2.toNatClampNeg) else (worn a1.toNatClampNeg))) + (if (worn a1.toNatClampNeg) < (worn a2.toNatClampNeg) then (worn a2.toNatClampNeg) else (worn a1.toNatClampNeg))).toInt64 &&& 63))) u_3 doer doneTo doers tape taped begins ends sort value isWrong items itemMany bowThen doubtThen deedThen sayingThen widths sizes numbers moved) H := hP
    have hD : va_D A (wM ca ev h0 h1 h2 h3 h4 h5 h6 h7 h8 h9 h10 h11 h12 h13 h14 h15 h16 h17 now kept isKept found order doubts doubtMany weights worn (pairs ||| ((1 : Int64) <<< ((((8 : Int32) * (if (worn a2.toNatClampNeg) < (worn a1.toNatClampNeg) then (worn a2.toNatClampNeg) else (worn a1.toNatClampNeg))) + (if (worn a1.toNatClampNeg) < (worn a2.toNatClampNeg) then (worn a2.toNatClampNeg) else (worn a1.toNatClampNeg))).toInt64 &&& 63))) u_3 doer doneTo doers tape taped begins ends sort value isWrong items itemMany bowThen doubtThen deedThen sayingThen widths sizes numbers moved) := hD
    refine lv_aload_n hx hb dX8_change_74 rfl (lv_at hl 0 rfl) ?_
    refine va_get (D := G) (ci := 8) (v := .ref h7) (C := RX8) (T := TX8) (N := 32) hx hb hts hin_X8 hown hK hP 0 rfl rfl 8 (by decide) fk_29 (fun _ h9 => h9) rfl dX8_change_75 ?_
    refine lv_iload_n hx hb dX8_change_78 rfl (lv_at hl 1 rfl) ?_
    refine lv_iload hx hb dX8_change_79 (lv_at hl 4 rfl) ?_
    refine va_iast hx hb hK hP hD hS 7 0 rfl rfl (ix_in i_1) dX8_change_81 (fun H locs hP hD hS => ?_)
    have hP : va_P G vwCl (wM ca ev h0 h1 h2 h3 h4 h5 h6 h7 h8 h9 h10 h11 h12 h13 h14 h15 h16 h17 now kept isKept found order doubts doubtMany weights (upd worn a1.toNatClampNeg (worn a2.toNatClampNeg)) (pairs ||| ((1 : Int64) <<< ((((8 : Int32) * (if (worn a2.toNatClampNeg) < (worn a1.toNatClampNeg) then (worn a2.toNatClampNeg) else (worn a1.toNatClampNeg))) + (if (worn a1.toNatClampNeg) < (worn a2.toNatClampNeg) then (worn a2.toNatClampNeg) else (worn a1.toNatClampNeg))).toInt64 &&& 63))) u_3 doer doneTo doers tape taped begins ends sort value isWrong items itemMany bowThen doubtThen deedThen sayingThen widths sizes numbers moved) H := hP
    have hD : va_D A (wM ca ev h0 h1 h2 h3 h4 h5 h6 h7 h8 h9 h10 h11 h12 h13 h14 h15 h16 h17 now kept isKept found order doubts doubtMany weights (upd worn a1.toNatClampNeg (worn a2.toNatClampNeg)) (pairs ||| ((1 : Int64) <<< ((((8 : Int32) * (if (worn a2.toNatClampNeg) < (worn a1.toNatClampNeg) then (worn a2.toNatClampNeg) else (worn a1.toNatClampNeg))) + (if (worn a1.toNatClampNeg) < (worn a2.toNatClampNeg) then (worn a2.toNatClampNeg) else (worn a1.toNatClampNeg))).toInt64 &&& 63))) u_3 doer doneTo doers tape taped begins ends sort value isWrong items itemMany bowThen doubtThen deedThen sayingThen widths sizes numbers moved) := hD
    refine lv_aload_n hx hb dX8_change_82 rfl (lv_at hl 0 rfl) ?_
    refine va_get (D := G) (ci := 8) (v := .ref h7) (C := RX8) (T := TX8) (N := 32) hx hb hts hin_X8 hown hK hP 0 rfl rfl 8 (by decide) fk_29 (fun _ h9 => h9) rfl dX8_change_83 ?_
    refine lv_iload_n hx hb dX8_change_86 rfl (lv_at hl 2 rfl) ?_
    refine lv_iload_n hx hb dX8_change_87 rfl (lv_at hl 3 rfl) ?_
    refine va_iast hx hb hK hP hD hS 7 0 rfl rfl (ix_in i_2) dX8_change_88 (fun H locs hP hD hS => ?_)
    have hP : va_P G vwCl (wM ca ev h0 h1 h2 h3 h4 h5 h6 h7 h8 h9 h10 h11 h12 h13 h14 h15 h16 h17 now kept isKept found order doubts doubtMany weights (upd (upd worn a1.toNatClampNeg (worn a2.toNatClampNeg)) a2.toNatClampNeg (worn a1.toNatClampNeg)) (pairs ||| ((1 : Int64) <<< ((((8 : Int32) * (if (worn a2.toNatClampNeg) < (worn a1.toNatClampNeg) then (worn a2.toNatClampNeg) else (worn a1.toNatClampNeg))) + (if (worn a1.toNatClampNeg) < (worn a2.toNatClampNeg) then (worn a2.toNatClampNeg) else (worn a1.toNatClampNeg))).toInt64 &&& 63))) u_3 doer doneTo doers tape taped begins ends sort value isWrong items itemMany bowThen doubtThen deedThen sayingThen widths sizes numbers moved) H := hP
    have hD : va_D A (wM ca ev h0 h1 h2 h3 h4 h5 h6 h7 h8 h9 h10 h11 h12 h13 h14 h15 h16 h17 now kept isKept found order doubts doubtMany weights (upd (upd worn a1.toNatClampNeg (worn a2.toNatClampNeg)) a2.toNatClampNeg (worn a1.toNatClampNeg)) (pairs ||| ((1 : Int64) <<< ((((8 : Int32) * (if (worn a2.toNatClampNeg) < (worn a1.toNatClampNeg) then (worn a2.toNatClampNeg) else (worn a1.toNatClampNeg))) + (if (worn a1.toNatClampNeg) < (worn a2.toNatClampNeg) then (worn a2.toNatClampNeg) else (worn a1.toNatClampNeg))).toInt64 &&& 63))) u_3 doer doneTo doers tape taped begins ends sort value isWrong items itemMany bowThen doubtThen deedThen sayingThen widths sizes numbers moved) := hD
    obtain rfl := Option.some.inj h
    exact hRet hP hD hS dX8_change_89
  have h := e_3
  clear e_3
  refine lv_if_ne (tgt := 55) hx hb dX8_change_40 (by decide) (fun c_3 => ?_) (fun c_3 => ?_)
  · have h := ifn c_3 h
    refine lv_iconst (v := (1 : Int32)) hx hb dX8_change_55 (by decide) ?_
    refine lv_goto (tgt := 60) hx hb dX8_change_56 (by decide) ?_
    obtain rfl := Option.some.inj h
    exact J_3 hP hD hS (lv_sub hl [3, 4, 5, 2, 1, 0] rfl) zb_1
  · have h := ifp c_3 h
    refine lv_aload_n hx hb dX8_change_43 rfl (lv_at hl 3 rfl) ?_
    refine va_get (D := G) (ci := 8) (v := .long pairs) (C := RX8) (T := TX8) (N := 32) hx hb hts hin_X8 hown hK hP 0 rfl rfl 9 (by decide) fk_130 (fun _ h9 => h9) rfl dX8_change_44 ?_
    refine lv_lload hx hb dX8_change_47 (lv_at hl 0 rfl) ?_
    refine lv_land hx hb dX8_change_49 ?_
    refine lv_lconst (v := (0 : Int64)) hx hb dX8_change_50 (by decide) ?_
    refine W.lcmp hx hb dX8_change_51 ?_
    refine lv_if_eq (tgt := 59) hx hb dX8_change_52 (by decide) (fun c_4 => ?_) (fun c_4 => ?_)
    · have h := ifp c_4 h
      refine lv_iconst (v := (0 : Int32)) hx hb dX8_change_59 (by decide) ?_
      obtain rfl := Option.some.inj h
      exact J_3 hP hD hS (lv_sub hl [3, 4, 5, 2, 1, 0] rfl) zb_0
    · have h := ifn c_4 h
      refine lv_iconst (v := (1 : Int32)) hx hb dX8_change_55 (by decide) ?_
      refine lv_goto (tgt := 60) hx hb dX8_change_56 (by decide) ?_
      obtain rfl := Option.some.inj h
      exact J_3 hP hD hS (lv_sub hl [3, 4, 5, 2, 1, 0] rfl) zb_1
