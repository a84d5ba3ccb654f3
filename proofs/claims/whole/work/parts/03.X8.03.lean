abbrev rm_X8_wipe : Room := { frames := 0, cells := 0, slots := 0, locals := 0 }
theorem hd_X8_wipe : yX8_wipe.cls = RX8 ∧ yX8_wipe.cls ≠ "java/lang/invoke/MethodHandle" ∧ yX8_wipe.cls ≠ "java/lang/invoke/VarHandle" ∧ (parseMethodDescriptor yX8_wipe.desc).map (fun d => d.parameters.length) = some 0 := by decide +kernel
set_option maxHeartbeats 4000000 in
set_option maxRecDepth 100000 in
theorem c_X8_wipe {l : Launch} {G : va_G} {ca : Nat → ClassId} {ev : Nat → Nat} {h0 h1 h2 h3 h4 h5 h6 h7 h8 h9 h10 h11 h12 h13 h14 h15 h16 h17 : Nat} {now : (Nat → Int32)} {kept : (Nat → Int32)} {isKept : Int32} {found : (Nat → Int32)} {order : (Nat → Int32)} {doubts : (Nat → Int32)} {doubtMany : Int32} {weights : (Nat → Int64)} {worn : (Nat → Int32)} {pairs : Int64} {isTwice : Int32} {doer : (Nat → Int32)} {doneTo : (Nat → Int32)} {doers : (Nat → Int64)} {tape : (Nat → Int32)} {taped : Int32} {begins : Int32} {ends : Int32} {sort : Int32} {value : Int32} {isWrong : Int32} {items : (Nat → Int32)} {itemMany : Int32} {bowThen : Int32} {doubtThen : Int32} {deedThen : Int32} {sayingThen : Int32} {widths : (Nat → Int32)} {sizes : (Nat → Int32)} {numbers : (Nat → Int64)} {moved : (Nat → Int64)}  {res : Int32 × Int32} (h : f_X8_wipe taped = some res) : CtI l yX8_wipe wsX8_wipe rm_X8_wipe G ca ev [.ref h0] (wM ca ev h0 h1 h2 h3 h4 h5 h6 h7 h8 h9 h10 h11 h12 h13 h14 h15 h16 h17 now kept isKept found order doubts doubtMany weights worn pairs isTwice doer doneTo doers tape taped begins ends sort value isWrong items itemMany bowThen doubtThen deedThen sayingThen widths sizes numbers moved) (wM ca ev h0 h1 h2 h3 h4 h5 h6 h7 h8 h9 h10 h11 h12 h13 h14 h15 h16 h17 now kept isKept found order doubts doubtMany weights worn pairs isTwice doer doneTo doers tape res.2 begins ends sort value isWrong items itemMany bowThen doubtThen deedThen sayingThen widths sizes numbers moved) res.1 := by
  unfold f_X8_wipe at h
  refine en_i (by decide) rfl (Nat.le_of_ble_eq_true rfl) ?_
  intro p e s m args below meth c A Q H locs ls hx hb hml hown hts hA hP hK hD hE hS hl hRet
  have hown : s.vm.findClass RX8 = some m.cls := hown
  have hl : lv_has ls 2 [(0, .ref h0)] := hl
  have hin_X8 : ∀ w ∈ u_ws RX8 TX8 32, w ∈ wsX8_wipe := fun w h9 => List.mem_cons_of_mem _ (List.mem_append_right _ h9)
  have fk_234 := hts (.fieldLink RX8 234 "MaskBowsModel" "taped" "I") (by decide +kernel)
  refine lv_aload_n hx hb dX8_wipe_0 rfl (lv_at hl 0 rfl) ?_
  refine va_get (D := G) (ci := 8) (v := .int taped) (C := RX8) (T := TX8) (N := 32) hx hb hts hin_X8 hown hK hP 0 rfl rfl 15 (by decide) fk_234 (fun _ h9 => h9) rfl dX8_wipe_1 ?_
  refine lv_istore_n (lv' := [(1, .int taped), (0, .ref h0)]) hx hb dX8_wipe_4 rfl hl (by decide) rfl (fun ls hl => ?_)
  refine lv_aload_n hx hb dX8_wipe_5 rfl (lv_at hl 1 rfl) ?_
  refine lv_iconst (v := (0 : Int32)) hx hb dX8_wipe_6 (by decide) ?_
  refine va_put (D := G) (ci := 8) (v := .int (0 : Int32)) (ty := .int) (C := RX8) (T := TX8) (N := 32) hx hb hts hin_X8 tyX8 tyX8_ok nmX8 hown hK hP hD hS 0 rfl rfl 15 (by decide) fk_234 (fun _ h9 => h9) rfl (tyX8_ok 15 (by decide)) rfl rfl (Nat.le_of_ble_eq_true rfl) dX8_wipe_7 (fun H locs hP hD hS => ?_)
  have hP : va_P G vwCl (wM ca ev h0 h1 h2 h3 h4 h5 h6 h7 h8 h9 h10 h11 h12 h13 h14 h15 h16 h17 now kept isKept found order doubts doubtMany weights worn pairs isTwice doer doneTo doers tape (0 : Int32) begins ends sort value isWrong items itemMany bowThen doubtThen deedThen sayingThen widths sizes numbers moved) H := hP
  have hD : va_D A (wM ca ev h0 h1 h2 h3 h4 h5 h6 h7 h8 h9 h10 h11 h12 h13 h14 h15 h16 h17 now kept isKept found order doubts doubtMany weights worn pairs isTwice doer doneTo doers tape (0 : Int32) begins ends sort value isWrong items itemMany bowThen doubtThen deedThen sayingThen widths sizes numbers moved) := hD
  refine lv_iload_n hx hb dX8_wipe_10 rfl (lv_at hl 0 rfl) ?_
  obtain rfl := Option.some.inj h
  exact hRet hP hD hS dX8_wipe_11
abbrev rm_X8_byteAt : Room := { frames := 0, cells := 0, slots := 0, locals := 0 }
theorem hd_X8_byteAt : yX8_byteAt.cls = RX8 ∧ yX8_byteAt.cls ≠ "java/lang/invoke/MethodHandle" ∧ yX8_byteAt.cls ≠ "java/lang/invoke/VarHandle" ∧ (parseMethodDescriptor yX8_byteAt.desc).map (fun d => d.parameters.length) = some 1 := by decide +kernel
set_option maxHeartbeats 4000000 in
set_option maxRecDepth 100000 in
theorem c_X8_byteAt {l : Launch} {G : va_G} {ca : Nat → ClassId} {ev : Nat → Nat} {h0 h1 h2 h3 h4 h5 h6 h7 h8 h9 h10 h11 h12 h13 h14 h15 h16 h17 : Nat} {now : (Nat → Int32)} {kept : (Nat → Int32)} {isKept : Int32} {found : (Nat → Int32)} {order : (Nat → Int32)} {doubts : (Nat → Int32)} {doubtMany : Int32} {weights : (Nat → Int64)} {worn : (Nat → Int32)} {pairs : Int64} {isTwice : Int32} {doer : (Nat → Int32)} {doneTo : (Nat → Int32)} {doers : (Nat → Int64)} {tape : (Nat → Int32)} {taped : Int32} {begins : Int32} {ends : Int32} {sort : Int32} {value : Int32} {isWrong : Int32} {items : (Nat → Int32)} {itemMany : Int32} {bowThen : Int32} {doubtThen : Int32} {deedThen : Int32} {sayingThen : Int32} {widths : (Nat → Int32)} {sizes : (Nat → Int32)} {numbers : (Nat → Int64)} {moved : (Nat → Int64)} {a1 : Int32} {res : Int32} (h : f_X8_byteAt tape taped a1 = some res) : CtI l yX8_byteAt wsX8_byteAt rm_X8_byteAt G ca ev [.ref h0, .int a1] (wM ca ev h0 h1 h2 h3 h4 h5 h6 h7 h8 h9 h10 h11 h12 h13 h14 h15 h16 h17 now kept isKept found order doubts doubtMany weights worn pairs isTwice doer doneTo doers tape taped begins ends sort value isWrong items itemMany bowThen doubtThen deedThen sayingThen widths sizes numbers moved) (wM ca ev h0 h1 h2 h3 h4 h5 h6 h7 h8 h9 h10 h11 h12 h13 h14 h15 h16 h17 now kept isKept found order doubts doubtMany weights worn pairs isTwice doer doneTo doers tape taped begins ends sort value isWrong items itemMany bowThen doubtThen deedThen sayingThen widths sizes numbers moved) res := by
  unfold f_X8_byteAt at h
  refine en_i (by decide) rfl (Nat.le_of_ble_eq_true rfl) ?_
  intro p e s m args below meth c A Q H locs ls hx hb hml hown hts hA hP hK hD hE hS hl hRet
  have hown : s.vm.findClass RX8 = some m.cls := hown
  have hl : lv_has ls 2 [(0, .ref h0), (1, .int a1)] := hl
  have hin_X8 : ∀ w ∈ u_ws RX8 TX8 32, w ∈ wsX8_byteAt := fun w h9 => List.mem_cons_of_mem _ (List.mem_append_right _ h9)
  have fk_234 := hts (.fieldLink RX8 234 "MaskBowsModel" "taped" "I") (by decide +kernel)
  have fk_41 := hts (.fieldLink RX8 41 "MaskBowsModel" "tape" "[I") (by decide +kernel)
  refine lv_iload_n hx hb dX8_byteAt_0 rfl (lv_at hl 1 rfl) ?_
  refine lv_aload_n hx hb dX8_byteAt_1 rfl (lv_at hl 0 rfl) ?_
  refine va_get (D := G) (ci := 8) (v := .int taped) (C := RX8) (T := TX8) (N := 32) hx hb hts hin_X8 hown hK hP 0 rfl rfl 15 (by decide) fk_234 (fun _ h9 => h9) rfl dX8_byteAt_2 ?_
  refine lv_icmp_ge (tgt := 17) hx hb dX8_byteAt_5 (by decide) (fun c_1 => ?_) (fun c_1 => ?_)
  · have h := ifp c_1 h
    refine lv_iconst (v := (-1 : Int32)) hx hb dX8_byteAt_17 (by decide) ?_
    obtain rfl := Option.some.inj h
    exact hRet hP hD hS dX8_byteAt_18
  · have h := ifn c_1 h
    refine lv_aload_n hx hb dX8_byteAt_8 rfl (lv_at hl 0 rfl) ?_
    refine va_get (D := G) (ci := 8) (v := .ref h11) (C := RX8) (T := TX8) (N := 32) hx hb hts hin_X8 hown hK hP 0 rfl rfl 14 (by decide) fk_41 (fun _ h9 => h9) rfl dX8_byteAt_9 ?_
    refine lv_iload_n hx hb dX8_byteAt_12 rfl (lv_at hl 1 rfl) ?_
    obtain ⟨i_2, h⟩ := gd_some h
    refine va_iald hx hb hK hP 11 0 rfl rfl (ix_in i_2) dX8_byteAt_13 ?_
    refine lv_goto (tgt := 18) hx hb dX8_byteAt_14 (by decide) ?_
    obtain rfl := Option.some.inj h
    exact hRet hP hD hS dX8_byteAt_18
abbrev rm_X8_next : Room := { frames := 1, cells := 0, slots := 0, locals := 23 }
theorem hd_X8_next : yX8_next.cls = RX8 ∧ yX8_next.cls ≠ "java/lang/invoke/MethodHandle" ∧ yX8_next.cls ≠ "java/lang/invoke/VarHandle" ∧ (parseMethodDescriptor yX8_next.desc).map (fun d => d.parameters.length) = some 0 := by decide +kernel
set_option maxHeartbeats 4000000 in
set_option maxRecDepth 100000 in
theorem c_X8_next {l : Launch} {G : va_G} {ca : Nat → ClassId} {ev : Nat → Nat} {h0 h1 h2 h3 h4 h5 h6 h7 h8 h9 h10 h11 h12 h13 h14 h15 h16 h17 : Nat} {now : (Nat → Int32)} {kept : (Nat → Int32)} {isKept : Int32} {found : (Nat → Int32)} {order : (Nat → Int32)} {doubts : (Nat → Int32)} {doubtMany : Int32} {weights : (Nat → Int64)} {worn : (Nat → Int32)} {pairs : Int64} {isTwice : Int32} {doer : (Nat → Int32)} {doneTo : (Nat → Int32)} {doers : (Nat → Int64)} {tape : (Nat → Int32)} {taped : Int32} {begins : Int32} {ends : Int32} {sort : Int32} {value : Int32} {isWrong : Int32} {items : (Nat → Int32)} {itemMany : Int32} {bowThen : Int32} {doubtThen : Int32} {deedThen : Int32} {sayingThen : Int32} {widths : (Nat → Int32)} {sizes : (Nat → Int32)} {numbers : (Nat → Int64)} {moved : (Nat → Int64)}  {N : Nat} {res : Int32 × Int32 × Int32 × Int32} (h : f_X8_next N tape taped begins ends sort value = some res) : CtV l yX8_next wsX8_next rm_X8_next G ca ev [.ref h0] (wM ca ev h0 h1 h2 h3 h4 h5 h6 h7 h8 h9 h10 h11 h12 h13 h14 h15 h16 h17 now kept isKept found order doubts doubtMany weights worn pairs isTwice doer doneTo doers tape taped begins ends sort value isWrong items itemMany bowThen doubtThen deedThen sayingThen widths sizes numbers moved) (wM ca ev h0 h1 h2 h3 h4 h5 h6 h7 h8 h9 h10 h11 h12 h13 h14 h15 h16 h17 now kept isKept found order doubts doubtMany weights worn pairs isTwice doer doneTo doers tape taped res.1 res.2.1 res.2.2.1 res.2.2.2 isWrong items itemMany bowThen doubtThen deedThen sayingThen widths sizes numbers moved) := by
  unfold f_X8_next at h
  refine en_v (by decide) rfl (Nat.le_of_ble_eq_true rfl) ?_
  intro p e s m args below meth c A Q H locs ls hx hb hml hown hts hA hP hK hD hE hS hl hRet
  have hown : s.vm.findClass RX8 = some m.cls := hown
  have hl : lv_has ls 2 [(0, .ref h0)] := hl
  have hin_X8 : ∀ w ∈ u_ws RX8 TX8 32, w ∈ wsX8_next := fun w h9 => List.mem_cons_of_mem _ (List.mem_append_right _ h9)
  have fk_237 := hts (.fieldLink RX8 237 "MaskBowsModel" "ends" "I") (by decide +kernel)
  have fk_240 := hts (.fieldLink RX8 240 "MaskBowsModel" "begins" "I") (by decide +kernel)
  have fk_246 := hts (.fieldLink RX8 246 "MaskBowsModel" "value" "I") (by decide +kernel)
  have fk_249 := hts (.fieldLink RX8 249 "MaskBowsModel" "sort" "I") (by decide +kernel)
  refine lv_aload_n hx hb dX8_next_0 rfl (lv_at hl 0 rfl) ?_
  refine lv_aload_n hx hb dX8_next_1 rfl (lv_at hl 0 rfl) ?_
  refine va_get (D := G) (ci := 8) (v := .int ends) (C := RX8) (T := TX8) (N := 32) hx hb hts hin_X8 hown hK hP 0 rfl rfl 17 (by decide) fk_237 (fun _ h9 => h9) rfl dX8_next_2 ?_
  refine va_put (D := G) (ci := 8) (v := .int ends) (ty := .int) (C := RX8) (T := TX8) (N := 32) hx hb hts hin_X8 tyX8 tyX8_ok nmX8 hown hK hP hD hS 0 rfl rfl 16 (by decide) fk_240 (fun _ h9 => h9) rfl (tyX8_ok 16 (by decide)) rfl rfl (Nat.le_of_ble_eq_true rfl) dX8_next_5 (fun H locs hP hD hS => ?_)
  have hP : va_P G vwCl (wM ca ev h0 h1 h2 h3 h4 h5 h6 h7 h8 h9 h10 h11 h12 h13 h14 h15 h16 h17 now kept isKept found order doubts doubtMany weights worn pairs isTwice doer doneTo doers tape taped ends ends sort value isWrong items itemMany bowThen doubtThen deedThen sayingThen widths sizes numbers moved) H := hP
  have hD : va_D A (wM ca ev h0 h1 h2 h3 h4 h5 h6 h7 h8 h9 h10 h11 h12 h13 h14 h15 h16 h17 now kept isKept found order doubts doubtMany weights worn pairs isTwice doer doneTo doers tape taped ends ends sort value isWrong items itemMany bowThen doubtThen deedThen sayingThen widths sizes numbers moved) := hD
  have L_8 : ∀  {tape_8 : (Nat → Int32)} {taped_8 : Int32} (n_8 : Nat) {begins_8 : Int32} {uL_8 : Int32} {H : Heap} {locs : List Loc} {ls : Array Slot}, f_X8_next_8 tape_8 taped_8  n_8 begins_8 = some uL_8 → va_P G vwCl (wM ca ev h0 h1 h2 h3 h4 h5 h6 h7 h8 h9 h10 h11 h12 h13 h14 h15 h16 h17 now kept isKept found order doubts doubtMany weights worn pairs isTwice doer doneTo doers tape_8 taped_8 begins_8 ends sort value isWrong items itemMany bowThen doubtThen deedThen sayingThen widths sizes numbers moved) H → va_D A (wM ca ev h0 h1 h2 h3 h4 h5 h6 h7 h8 h9 h10 h11 h12 h13 h14 h15 h16 h17 now kept isKept found order doubts doubtMany weights worn pairs isTwice doer doneTo doers tape_8 taped_8 begins_8 ends sort value isWrong items itemMany bowThen doubtThen deedThen sayingThen widths sizes numbers moved) → va_S A s.heap H locs → lv_has ls 2 [(0, .ref h0)] → (∀ {H : Heap} {locs : List Loc} {ls : Array Slot}, va_P G vwCl (wM ca ev h0 h1 h2 h3 h4 h5 h6 h7 h8 h9 h10 h11 h12 h13 h14 h15 h16 h17 now kept isKept found order doubts doubtMany weights worn pairs isTwice doer doneTo doers tape_8 taped_8 uL_8 ends sort value isWrong items itemMany bowThen doubtThen deedThen sayingThen widths sizes numbers moved) H → va_D A (wM ca ev h0 h1 h2 h3 h4 h5 h6 h7 h8 h9 h10 h11 h12 h13 h14 h15 h16 h17 now kept isKept found order doubts doubtMany weights worn pairs isTwice doer doneTo doers tape_8 taped_8 uL_8 ends sort value isWrong items itemMany bowThen doubtThen deedThen sayingThen widths sizes numbers moved) → va_S A s.heap H locs → lv_has ls 2 [(0, .ref h0)] → W p l e rm_X8_next s m args below meth c H locs 0 0 Q (F0 m 34 ls [])) → W p l e rm_X8_next s m args below meth c H locs 0 0 Q (F0 m 8 ls []) := by
    intro tape_8 taped_8 n_8
    induction n_8 with
    | zero => intro begins_8 uL_8 H locs ls h; exact absurd h (by rw [f_X8_next_8]; exact fun z => nomatch z)
    | succ n_8 ih =>
      intro begins_8 uL_8 H locs ls h hP hD hS hl JK_8
      rw [f_X8_next_8] at h
      refine lv_aload_n hx hb dX8_next_8 rfl (lv_at hl 0 rfl) ?_
      refine lv_aload_n hx hb dX8_next_9 rfl (lv_at hl 0 rfl) ?_
      refine va_get (D := G) (ci := 8) (v := .int begins_8) (C := RX8) (T := TX8) (N := 32) hx hb hts hin_X8 hown hK hP 0 rfl rfl 16 (by decide) fk_240 (fun _ h9 => h9) rfl dX8_next_10 ?_
      obtain ⟨u_1, e_1, h⟩ := bd_some h
      refine cm_Vi (As := [.int begins_8]) (rest := []) ⟨hx, hb, hml, hown, hts⟩ (c_X8_byteAt (ca := ca) (ev := ev) (h0 := h0) (h1 := h1) (h2 := h2) (h3 := h3) (h4 := h4) (h5 := h5) (h6 := h6) (h7 := h7) (h8 := h8) (h9 := h9) (h10 := h10) (h11 := h11) (h12 := h12) (h13 := h13) (h14 := h14) (h15 := h15) (h16 := h16) (h17 := h17) (now := now) (kept := kept) (isKept := isKept) (found := found) (order := order) (doubts := doubts) (doubtMany := doubtMany) (weights := weights) (worn := worn) (pairs := pairs) (isTwice := isTwice) (doer := doer) (doneTo := doneTo) (doers := doers) (tape := tape_8) (taped := taped_8) (begins := begins_8) (ends := ends) (sort := sort) (value := value) (isWrong := isWrong) (items := items) (itemMany := itemMany) (bowThen := bowThen) (doubtThen := doubtThen) (deedThen := deedThen) (sayingThen := sayingThen) (widths := widths) (sizes := sizes) (numbers := numbers) (moved := moved) e_1) (cwV 1 hts gX8_next_X8_byteAt rfl rfl rfl hd_X8_byteAt ⟨Nat.le_of_ble_eq_true rfl, Nat.le_of_ble_eq_true rfl⟩) hK hP hD hS hA hE (q0 := 0) (ci := 8) rfl rfl rfl rfl hl.1 rfl (Nat.le_of_ble_eq_true rfl) dX8_next_13 ⟨Nat.zero_le _, Nat.zero_le _⟩ (fun H locs hP hD hS => ?_)
      refine lv_bipush (v := (32 : Int32)) hx hb dX8_next_16 (by decide) ?_
      refine lv_icmp_ne (tgt := 34) hx hb dX8_next_18 (by decide) (fun c_2 => ?_) (fun c_2 => ?_)
      · have h := ifn c_2 h
        obtain rfl := Option.some.inj h
        exact JK_8 hP hD hS (lv_sub hl [0] rfl)
      · have h := ifp c_2 h
        refine lv_aload_n hx hb dX8_next_21 rfl (lv_at hl 0 rfl) ?_
        refine lv_dup hx hb dX8_next_22 rfl ?_
        refine va_get (D := G) (ci := 8) (v := .int begins_8) (C := RX8) (T := TX8) (N := 32) hx hb hts hin_X8 hown hK hP 0 rfl rfl 16 (by decide) fk_240 (fun _ h9 => h9) rfl dX8_next_23 ?_
        refine lv_iconst (v := (1 : Int32)) hx hb dX8_next_26 (by decide) ?_
        refine lv_iadd hx hb dX8_next_27 ?_
        refine va_put (D := G) (ci := 8) (v := .int (begins_8 + (1 : Int32))) (ty := .int) (C := RX8) (T := TX8) (N := 32) hx hb hts hin_X8 tyX8 tyX8_ok nmX8 hown hK hP hD hS 0 rfl rfl 16 (by decide) fk_240 (fun _ h9 => h9) rfl (tyX8_ok 16 (by decide)) rfl rfl (Nat.le_of_ble_eq_true rfl) dX8_next_28 (fun H locs hP hD hS => ?_)
        have hP : va_P G vwCl (wM ca ev h0 h1 h2 h3 h4 h5 h6 h7 h8 h9 h10 h11 h12 h13 h14 h15 h16 h17 now kept isKept found order doubts doubtMany weights worn pairs isTwice doer doneTo doers tape_8 taped_8 (begins_8 + (1 : Int32)) ends sort value isWrong items itemMany bowThen doubtThen deedThen sayingThen widths sizes numbers moved) H := hP
        have hD : va_D A (wM ca ev h0 h1 h2 h3 h4 h5 h6 h7 h8 h9 h10 h11 h12 h13 h14 h15 h16 h17 now kept isKept found order doubts doubtMany weights worn pairs isTwice doer doneTo doers tape_8 taped_8 (begins_8 + (1 : Int32)) ends sort value isWrong items itemMany bowThen doubtThen deedThen sayingThen widths sizes numbers moved) := hD
        refine lv_goto (tgt := 8) hx hb dX8_next_31 (by decide) ?_
        exact ih h hP hD hS (lv_sub hl [0] rfl) JK_8
  obtain ⟨u_3, e_3, h⟩ := bd_some h
  refine L_8 _ e_3 hP hD hS (lv_sub hl [0] rfl) ?_
  intro H locs ls hP hD hS hl
  refine lv_aload_n hx hb dX8_next_34 rfl (lv_at hl 0 rfl) ?_
  refine lv_aload_n hx hb dX8_next_35 rfl (lv_at hl 0 rfl) ?_
  refine va_get (D := G) (ci := 8) (v := .int u_3) (C := RX8) (T := TX8) (N := 32) hx hb hts hin_X8 hown hK hP 0 rfl rfl 16 (by decide) fk_240 (fun _ h9 => h9) rfl dX8_next_36 ?_
  obtain ⟨u_4, e_4, h⟩ := bd_some h
  refine cm_Vi (As := [.int u_3]) (rest := []) ⟨hx, hb, hml, hown, hts⟩ (c_X8_byteAt (ca := ca) (ev := ev) (h0 := h0) (h1 := h1) (h2 := h2) (h3 := h3) (h4 := h4) (h5 := h5) (h6 := h6) (h7 := h7) (h8 := h8) (h9 := h9) (h10 := h10) (h11 := h11) (h12 := h12) (h13 := h13) (h14 := h14) (h15 := h15) (h16 := h16) (h17 := h17) (now := now) (kept := kept) (isKept := isKept) (found := found) (order := order) (doubts := doubts) (doubtMany := doubtMany) (weights := weights) (worn := worn) (pairs := pairs) (isTwice := isTwice) (doer := doer) (doneTo := doneTo) (doers := doers) (tape := tape) (taped := taped) (begins := u_3) (ends := ends) (sort := sort) (value := value) (isWrong := isWrong) (items := items) (itemMany := itemMany) (bowThen := bowThen) (doubtThen := doubtThen) (deedThen := deedThen) (sayingThen := sayingThen) (widths := widths) (sizes := sizes) (numbers := numbers) (moved := moved) e_4) (cwV 1 hts gX8_next_X8_byteAt rfl rfl rfl hd_X8_byteAt ⟨Nat.le_of_ble_eq_true rfl, Nat.le_of_ble_eq_true rfl⟩) hK hP hD hS hA hE (q0 := 0) (ci := 8) rfl rfl rfl rfl hl.1 rfl (Nat.le_of_ble_eq_true rfl) dX8_next_39 ⟨Nat.zero_le _, Nat.zero_le _⟩ (fun H locs hP hD hS => ?_)
  refine lv_istore_n (lv' := [(1, .int u_4), (0, .ref h0)]) hx hb dX8_next_42 rfl hl (by decide) rfl (fun ls hl => ?_)
  refine lv_aload_n hx hb dX8_next_43 rfl (lv_at hl 1 rfl) ?_
  refine lv_aload_n hx hb dX8_next_44 rfl (lv_at hl 1 rfl) ?_
  refine va_get (D := G) (ci := 8) (v := .int u_3) (C := RX8) (T := TX8) (N := 32) hx hb hts hin_X8 hown hK hP 0 rfl rfl 16 (by decide) fk_240 (fun _ h9 => h9) rfl dX8_next_45 ?_
  refine va_put (D := G) (ci := 8) (v := .int u_3) (ty := .int) (C := RX8) (T := TX8) (N := 32) hx hb hts hin_X8 tyX8 tyX8_ok nmX8 hown hK hP hD hS 0 rfl rfl 17 (by decide) fk_237 (fun _ h9 => h9) rfl (tyX8_ok 17 (by decide)) rfl rfl (Nat.le_of_ble_eq_true rfl) dX8_next_48 (fun H locs hP hD hS => ?_)
  have hP : va_P G vwCl (wM ca ev h0 h1 h2 h3 h4 h5 h6 h7 h8 h9 h10 h11 h12 h13 h14 h15 h16 h17 now kept isKept found order doubts doubtMany weights worn pairs isTwice doer doneTo doers tape taped u_3 u_3 sort value isWrong items itemMany bowThen doubtThen deedThen sayingThen widths sizes numbers moved) H := hP
  have hD : va_D A (wM ca ev h0 h1 h2 h3 h4 h5 h6 h7 h8 h9 h10 h11 h12 h13 h14 h15 h16 h17 now kept isKept found order doubts doubtMany weights worn pairs isTwice doer doneTo doers tape taped u_3 u_3 sort value isWrong items itemMany bowThen doubtThen deedThen sayingThen widths sizes numbers moved) := hD
  refine lv_aload_n hx hb dX8_next_51 rfl (lv_at hl 1 rfl) ?_
  refine lv_iconst (v := (0 : Int32)) hx hb dX8_next_52 (by decide) ?_
  refine va_put (D := G) (ci := 8) (v := .int (0 : Int32)) (ty := .int) (C := RX8) (T := TX8) (N := 32) hx hb hts hin_X8 tyX8 tyX8_ok nmX8 hown hK hP hD hS 0 rfl rfl 19 (by decide) fk_246 (fun _ h9 => h9) rfl (tyX8_ok 19 (by decide)) rfl rfl (Nat.le_of_ble_eq_true rfl) dX8_next_53 (fun H locs hP hD hS => ?_)
  have hP : va_P G vwCl (wM ca ev h0 h1 h2 h3 h4 h5 h6 h7 h8 h9 h10 h11 h12 h13 h14 h15 h16 h17 now kept isKept found order doubts doubtMany weights worn pairs isTwice doer doneTo doers tape taped u_3 u_3 sort (0 : Int32) isWrong items itemMany bowThen doubtThen deedThen sayingThen widths sizes numbers moved) H := hP
  have hD : va_D A (wM ca ev h0 h1 h2 h3 h4 h5 h6 h7 h8 h9 h10 h11 h12 h13 h14 h15 h16 h17 now kept isKept found order doubts doubtMany weights worn pairs isTwice doer doneTo doers tape taped u_3 u_3 sort (0 : Int32) isWrong items itemMany bowThen doubtThen deedThen sayingThen widths sizes numbers moved) := hD
  refine lv_iload_n hx hb dX8_next_56 rfl (lv_at hl 0 rfl) ?_
  refine lv_if_ge (tgt := 68) hx hb dX8_next_57 (by decide) (fun c_5 => ?_) (fun c_5 => ?_)
  · have h := ifp c_5 h
    refine lv_iload_n hx hb dX8_next_68 rfl (lv_at hl 0 rfl) ?_
    refine lv_bipush (v := (97 : Int32)) hx hb dX8_next_69 (by decide) ?_
    refine lv_bipush (v := (122 : Int32)) hx hb dX8_next_71 (by decide) ?_
    obtain ⟨u_6, e_6, h⟩ := bd_some h
    refine cn_Si (As := [.int u_4, .int (97 : Int32), .int (122 : Int32)]) (rest := []) ⟨hx, hb, hml, hown, hts⟩ (c_X8_within e_6) (va_cwS 3 hts gX8_next_X8_within rfl rfl rfl hd_X8_within ⟨Nat.le_of_ble_eq_true rfl, Nat.le_of_ble_eq_true rfl⟩) hK hP hD hS hA hE rfl hl.1 rfl (Nat.le_of_ble_eq_true rfl) dX8_next_73 ⟨Nat.zero_le _, Nat.zero_le _⟩ (fun H locs hP hD hS => ?_)
    refine lv_if_eq (tgt := 115) hx hb dX8_next_76 (by decide) (fun c_7 => ?_) (fun c_7 => ?_)
    · have h := ifp c_7 h
      refine lv_iload_n hx hb dX8_next_115 rfl (lv_at hl 0 rfl) ?_
      refine lv_bipush (v := (48 : Int32)) hx hb dX8_next_116 (by decide) ?_
      refine lv_bipush (v := (57 : Int32)) hx hb dX8_next_118 (by decide) ?_
      obtain ⟨u_8, e_8, h⟩ := bd_some h
      refine cn_Si (As := [.int u_4, .int (48 : Int32), .int (57 : Int32)]) (rest := []) ⟨hx, hb, hml, hown, hts⟩ (c_X8_within e_8) (va_cwS 3 hts gX8_next_X8_within rfl rfl rfl hd_X8_within ⟨Nat.le_of_ble_eq_true rfl, Nat.le_of_ble_eq_true rfl⟩) hK hP hD hS hA hE rfl hl.1 rfl (Nat.le_of_ble_eq_true rfl) dX8_next_120 ⟨Nat.zero_le _, Nat.zero_le _⟩ (fun H locs hP hD hS => ?_)
      refine lv_if_eq (tgt := 191) hx hb dX8_next_123 (by decide) (fun c_9 => ?_) (fun c_9 => ?_)
      · have h := ifp c_9 h
        refine lv_aload_n hx hb dX8_next_191 rfl (lv_at hl 1 rfl) ?_
        refine lv_iconst (v := (3 : Int32)) hx hb dX8_next_192 (by decide) ?_
        refine va_put (D := G) (ci := 8) (v := .int (3 : Int32)) (ty := .int) (C := RX8) (T := TX8) (N := 32) hx hb hts hin_X8 tyX8 tyX8_ok nmX8 hown hK hP hD hS 0 rfl rfl 18 (by decide) fk_249 (fun _ h9 => h9) rfl (tyX8_ok 18 (by decide)) rfl rfl (Nat.le_of_ble_eq_true rfl) dX8_next_193 (fun H locs hP hD hS => ?_)
        have hP : va_P G vwCl (wM ca ev h0 h1 h2 h3 h4 h5 h6 h7 h8 h9 h10 h11 h12 h13 h14 h15 h16 h17 now kept isKept found order doubts doubtMany weights worn pairs isTwice doer doneTo doers tape taped u_3 u_3 (3 : Int32) (0 : Int32) isWrong items itemMany bowThen doubtThen deedThen sayingThen widths sizes numbers moved) H := hP
        have hD : va_D A (wM ca ev h0 h1 h2 h3 h4 h5 h6 h7 h8 h9 h10 h11 h12 h13 h14 h15 h16 h17 now kept isKept found order doubts doubtMany weights worn pairs isTwice doer doneTo doers tape taped u_3 u_3 (3 : Int32) (0 : Int32) isWrong items itemMany bowThen doubtThen deedThen sayingThen widths sizes numbers moved) := hD
        refine lv_aload_n hx hb dX8_next_196 rfl (lv_at hl 1 rfl) ?_
        refine lv_dup hx hb dX8_next_197 rfl ?_
        refine va_get (D := G) (ci := 8) (v := .int u_3) (C := RX8) (T := TX8) (N := 32) hx hb hts hin_X8 hown hK hP 0 rfl rfl 17 (by decide) fk_237 (fun _ h9 => h9) rfl dX8_next_198 ?_
        refine lv_iconst (v := (1 : Int32)) hx hb dX8_next_201 (by decide) ?_
        refine lv_iadd hx hb dX8_next_202 ?_
        refine va_put (D := G) (ci := 8) (v := .int (u_3 + (1 : Int32))) (ty := .int) (C := RX8) (T := TX8) (N := 32) hx hb hts hin_X8 tyX8 tyX8_ok nmX8 hown hK hP hD hS 0 rfl rfl 17 (by decide) fk_237 (fun _ h9 => h9) rfl (tyX8_ok 17 (by decide)) rfl rfl (Nat.le_of_ble_eq_true rfl) dX8_next_203 (fun H locs hP hD hS => ?_)
        have hP : va_P G vwCl (wM ca ev h0 h1 h2 h3 h4 h5 h6 h7 h8 h9 h10 h11 h12 h13 h14 h15 h16 h17 now kept isKept found order doubts doubtMany weights worn pairs isTwice doer doneTo doers tape taped u_3 (u_3 + (1 : Int32)) (3 : Int32) (0 : Int32) isWrong items itemMany bowThen doubtThen deedThen sayingThen widths sizes numbers moved) H := hP
        have hD : va_D A (wM ca ev h0 h1 h2 h3 h4 h5 h6 h7 h8 h9 h10 h11 h12 h13 h14 h15 h16 h17 now kept isKept found order doubts doubtMany weights worn pairs isTwice doer doneTo doers tape taped u_3 (u_3 + (1 : Int32)) (3 : Int32) (0 : Int32) isWrong items itemMany bowThen doubtThen deedThen sayingThen widths sizes numbers moved) := hD
        obtain rfl := Option.some.inj h
        exact hRet hP hD hS dX8_next_206
      · have h := ifn c_9 h
        refine lv_aload_n hx hb dX8_next_126 rfl (lv_at hl 1 rfl) ?_
        refine lv_iconst (v := (2 : Int32)) hx hb dX8_next_127 (by decide) ?_
        refine va_put (D := G) (ci := 8) (v := .int (2 : Int32)) (ty := .int) (C := RX8) (T := TX8) (N := 32) hx hb hts hin_X8 tyX8 tyX8_ok nmX8 hown hK hP hD hS 0 rfl rfl 18 (by decide) fk_249 (fun _ h9 => h9) rfl (tyX8_ok 18 (by decide)) rfl rfl (Nat.le_of_ble_eq_true rfl) dX8_next_128 (fun H locs hP hD hS => ?_)
        have hP : va_P G vwCl (wM ca ev h0 h1 h2 h3 h4 h5 h6 h7 h8 h9 h10 h11 h12 h13 h14 h15 h16 h17 now kept isKept found order doubts doubtMany weights worn pairs isTwice doer doneTo doers tape taped u_3 u_3 (2 : Int32) (0 : Int32) isWrong items itemMany bowThen doubtThen deedThen sayingThen widths sizes numbers moved) H := hP
        have hD : va_D A (wM ca ev h0 h1 h2 h3 h4 h5 h6 h7 h8 h9 h10 h11 h12 h13 h14 h15 h16 h17 now kept isKept found order doubts doubtMany weights worn pairs isTwice doer doneTo doers tape taped u_3 u_3 (2 : Int32) (0 : Int32) isWrong items itemMany bowThen doubtThen deedThen sayingThen widths sizes numbers moved) := hD
        have L_131 : ∀  {tape_131 : (Nat → Int32)} {taped_131 : Int32} (n_131 : Nat) {ends_131 : Int32} {value_131 : Int32} {uL_131 : Int32 × Int32} {H : Heap} {locs : List Loc} {ls : Array Slot}, f_X8_next_131 tape_131 taped_131  n_131 ends_131 value_131 = some uL_131 → va_P G vwCl (wM ca ev h0 h1 h2 h3 h4 h5 h6 h7 h8 h9 h10 h11 h12 h13 h14 h15 h16 h17 now kept isKept found order doubts doubtMany weights worn pairs isTwice doer doneTo doers tape_131 taped_131 u_3 ends_131 (2 : Int32) value_131 isWrong items itemMany bowThen doubtThen deedThen sayingThen widths sizes numbers moved) H → va_D A (wM ca ev h0 h1 h2 h3 h4 h5 h6 h7 h8 h9 h10 h11 h12 h13 h14 h15 h16 h17 now kept isKept found order doubts doubtMany weights worn pairs isTwice doer doneTo doers tape_131 taped_131 u_3 ends_131 (2 : Int32) value_131 isWrong items itemMany bowThen doubtThen deedThen sayingThen widths sizes numbers moved) → va_S A s.heap H locs → lv_has ls 2 [(0, .ref h0)] → (∀ {H : Heap} {locs : List Loc} {ls : Array Slot}, va_P G vwCl (wM ca ev h0 h1 h2 h3 h4 h5 h6 h7 h8 h9 h10 h11 h12 h13 h14 h15 h16 h17 now kept isKept found order doubts doubtMany weights worn pairs isTwice doer doneTo doers tape_131 taped_131 u_3 uL_131.1 (2 : Int32) uL_131.2 isWrong items itemMany bowThen doubtThen deedThen sayingThen widths sizes numbers moved) H → va_D A (wM ca ev h0 h1 h2 h3 h4 h5 h6 h7 h8 h9 h10 h11 h12 h13 h14 h15 h16 h17 now kept isKept found order doubts doubtMany weights worn pairs isTwice doer doneTo doers tape_131 taped_131 u_3 uL_131.1 (2 : Int32) uL_131.2 isWrong items itemMany bowThen doubtThen deedThen sayingThen widths sizes numbers moved) → va_S A s.heap H locs → lv_has ls 2 [] → W p l e rm_X8_next s m args below meth c H locs 0 0 Q (F0 m 206 ls [])) → W p l e rm_X8_next s m args below meth c H locs 0 0 Q (F0 m 131 ls []) := by
          intro tape_131 taped_131 n_131
          induction n_131 with
          | zero => intro ends_131 value_131 uL_131 H locs ls h; exact absurd h (by rw [f_X8_next_131]; exact fun z => nomatch z)
          | succ n_131 ih =>
            intro ends_131 value_131 uL_131 H locs ls h hP hD hS hl JK_131
            rw [f_X8_next_131] at h
            refine lv_aload_n hx hb dX8_next_131 rfl (lv_at hl 0 rfl) ?_
            refine lv_aload_n hx hb dX8_next_132 rfl (lv_at hl 0 rfl) ?_
            refine va_get (D := G) (ci := 8) (v := .int ends_131) (C := RX8) (T := TX8) (N := 32) hx hb hts hin_X8 hown hK hP 0 rfl rfl 17 (by decide) fk_237 (fun _ h9 => h9) rfl dX8_next_133 ?_
            obtain ⟨u_10, e_10, h⟩ := bd_some h
            refine cm_Vi (As := [.int ends_131]) (rest := []) ⟨hx, hb, hml, hown, hts⟩ (c_X8_byteAt (ca := ca) (ev := ev) (h0 := h0) (h1 := h1) (h2 := h2) (h3 := h3) (h4 := h4) (h5 := h5) (h6 := h6) (h7 := h7) (h8 := h8) (h9 := h9) (h10 := h10) (h11 := h11) (h12 := h12) (h13 := h13) (h14 := h14) (h15 := h15) (h16 := h16) (h17 := h17) (now := now) (kept := kept) (isKept := isKept) (found := found) (order := order) (doubts := doubts) (doubtMany := doubtMany) (weights := weights) (worn := worn) (pairs := pairs) (isTwice := isTwice) (doer := doer) (doneTo := doneTo) (doers := doers) (tape := tape_131) (taped := taped_131) (begins := u_3) (ends := ends_131) (sort := (2 : Int32)) (value := value_131) (isWrong := isWrong) (items := items) (itemMany := itemMany) (bowThen := bowThen) (doubtThen := doubtThen) (deedThen := deedThen) (sayingThen := sayingThen) (widths := widths) (sizes := sizes) (numbers := numbers) (moved := moved) e_10) (cwV 1 hts gX8_next_X8_byteAt rfl rfl rfl hd_X8_byteAt ⟨Nat.le_of_ble_eq_true rfl, Nat.le_of_ble_eq_true rfl⟩) hK hP hD hS hA hE (q0 := 0) (ci := 8) rfl rfl rfl rfl hl.1 rfl (Nat.le_of_ble_eq_true rfl) dX8_next_136 ⟨Nat.zero_le _, Nat.zero_le _⟩ (fun H locs hP hD hS => ?_)
            refine lv_bipush (v := (48 : Int32)) hx hb dX8_next_139 (by decide) ?_
            refine lv_bipush (v := (57 : Int32)) hx hb dX8_next_141 (by decide) ?_
            obtain ⟨u_11, e_11, h⟩ := bd_some h
            refine cn_Si (As := [.int u_10, .int (48 : Int32), .int (57 : Int32)]) (rest := []) ⟨hx, hb, hml, hown, hts⟩ (c_X8_within e_11) (va_cwS 3 hts gX8_next_X8_within rfl rfl rfl hd_X8_within ⟨Nat.le_of_ble_eq_true rfl, Nat.le_of_ble_eq_true rfl⟩) hK hP hD hS hA hE rfl hl.1 rfl (Nat.le_of_ble_eq_true rfl) dX8_next_143 ⟨Nat.zero_le _, Nat.zero_le _⟩ (fun H locs hP hD hS => ?_)
            refine lv_if_eq (tgt := 206) hx hb dX8_next_146 (by decide) (fun c_12 => ?_) (fun c_12 => ?_)
            · have h := ifp c_12 h
              obtain rfl := Option.some.inj h
              exact JK_131 hP hD hS (lv_sub hl [] rfl)
            · have h := ifn c_12 h
              refine lv_aload_n hx hb dX8_next_149 rfl (lv_at hl 0 rfl) ?_
              refine lv_sipush (v := (10000 : Int32)) hx hb dX8_next_150 (by decide) ?_
              refine lv_bipush (v := (10 : Int32)) hx hb dX8_next_153 (by decide) ?_
              refine lv_aload_n hx hb dX8_next_155 rfl (lv_at hl 0 rfl) ?_
              refine va_get (D := G) (ci := 8) (v := .int value_131) (C := RX8) (T := TX8) (N := 32) hx hb hts hin_X8 hown hK hP 0 rfl rfl 19 (by decide) fk_246 (fun _ h9 => h9) rfl dX8_next_156 ?_
              refine lv_imul hx hb dX8_next_159 ?_
              refine lv_aload_n hx hb dX8_next_160 rfl (lv_at hl 0 rfl) ?_
              refine lv_aload_n hx hb dX8_next_161 rfl (lv_at hl 0 rfl) ?_
              refine va_get (D := G) (ci := 8) (v := .int ends_131) (C := RX8) (T := TX8) (N := 32) hx hb hts hin_X8 hown hK hP 0 rfl rfl 17 (by decide) fk_237 (fun _ h9 => h9) rfl dX8_next_162 ?_
              obtain ⟨u_13, e_13, h⟩ := bd_some h
              refine cm_Vi (As := [.int ends_131]) (rest := [.int ((10 : Int32) * value_131), .int (10000 : Int32), .ref h0]) ⟨hx, hb, hml, hown, hts⟩ (c_X8_byteAt (ca := ca) (ev := ev) (h0 := h0) (h1 := h1) (h2 := h2) (h3 := h3) (h4 := h4) (h5 := h5) (h6 := h6) (h7 := h7) (h8 := h8) (h9 := h9) (h10 := h10) (h11 := h11) (h12 := h12) (h13 := h13) (h14 := h14) (h15 := h15) (h16 := h16) (h17 := h17) (now := now) (kept := kept) (isKept := isKept) (found := found) (order := order) (doubts := doubts) (doubtMany := doubtMany) (weights := weights) (worn := worn) (pairs := pairs) (isTwice := isTwice) (doer := doer) (doneTo := doneTo) (doers := doers) (tape := tape_131) (taped := taped_131) (begins := u_3) (ends := ends_131) (sort := (2 : Int32)) (value := value_131) (isWrong := isWrong) (items := items) (itemMany := itemMany) (bowThen := bowThen) (doubtThen := doubtThen) (deedThen := deedThen) (sayingThen := sayingThen) (widths := widths) (sizes := sizes) (numbers := numbers) (moved := moved) e_13) (cwV 1 hts gX8_next_X8_byteAt rfl rfl rfl hd_X8_byteAt ⟨Nat.le_of_ble_eq_true rfl, Nat.le_of_ble_eq_true rfl⟩) hK hP hD hS hA hE (q0 := 0) (ci := 8) rfl rfl rfl rfl hl.1 rfl (Nat.le_of_ble_eq_true rfl) dX8_next_165 ⟨Nat.zero_le _, Nat.zero_le _⟩ (fun H locs hP hD hS => ?_)
              refine lv_iadd hx hb dX8_next_168 ?_
              refine lv_bipush (v := (48 : Int32)) hx hb dX8_next_169 (by decide) ?_
              refine lv_isub hx hb dX8_next_171 ?_
              refine va_mmin hx hb (hml.trans hl.1.symm) hown (hts (.methodLink RX8 145 Lib.Math.min.name) (by decide +kernel)) (hts (.static Lib.Math.min.name) (by decide +kernel)) (hts (.initialized "java/lang/Math") (by decide +kernel)) (hts (.code Lib.Math.min.name Lib.Math.min.code 2 (some .int)) (by decide +kernel)) (Nat.le_of_ble_eq_true rfl) (Nat.le_of_ble_eq_true rfl) (Nat.zero_le _) (Nat.zero_le _) dX8_next_172 ?_
              refine va_put (D := G) (ci := 8) (v := .int (if ((((10 : Int32) * value_131) + u_13) - (48 : Int32)) < (10000 : Int32) then ((((10 : Int32) * value_131) + u_13) - (48 : Int32)) else (10000 : Int32))) (ty := .int) (C := RX8) (T := TX8) (N := 32) hx hb hts hin_X8 tyX8 tyX8_ok nmX8 hown hK hP hD hS 0 rfl rfl 19 (by decide) fk_246 (fun _ h9 => h9) rfl (tyX8_ok 19 (by decide)) rfl rfl (Nat.le_of_ble_eq_true rfl) dX8_next_175 (fun H locs hP hD hS => ?_)
              have hP : va_P G vwCl (wM ca ev h0 h1 h2 h3 h4 h5 h6 h7 h8 h9 h10 h11 h12 h13 h14 h15 h16 h17 now kept isKept found order doubts doubtMany weights worn pairs isTwice doer doneTo doers tape_131 taped_131 u_3 ends_131 (2 : Int32) (if ((((10 : Int32) * value_131) + u_13) - (48 : Int32)) < (10000 : Int32) then ((((10 : Int32) * value_131) + u_13) - (48 : Int32)) else (10000 : Int32)) isWrong items itemMany bowThen doubtThen deedThen sayingThen widths sizes numbers moved) H := hP
              have hD : va_D A (wM ca ev h0 h1 h2 h3 h4 h5 h6 h7 h8 h9 h10 h11 h12 h13 h14 h15 h16 h17 now kept isKept found order doubts doubtMany weights worn pairs isTwice doer doneTo doers tape_131 taped_131 u_3 ends_131 (2 : Int32) (if ((((10 : Int32) * value_131) + u_13) - (48 : Int32)) < (10000 : Int32) then ((((10 : Int32) * value_131) + u_13) - (48 : Int32)) else (10000 : Int32)) isWrong items itemMany bowThen doubtThen deedThen sayingThen widths sizes numbers moved) := hD
              refine lv_aload_n hx hb dX8_next_178 rfl (lv_at hl 0 rfl) ?_
              refine lv_dup hx hb dX8_next_179 rfl ?_
              refine va_get (D := G) (ci := 8) (v := .int ends_131) (C := RX8) (T := TX8) (N := 32) hx hb hts hin_X8 hown hK hP 0 rfl rfl 17 (by decide) fk_237 (fun _ h9 => h9) rfl dX8_next_180 ?_
              refine lv_iconst (v := (1 : Int32)) hx hb dX8_next_183 (by decide) ?_
              refine lv_iadd hx hb dX8_next_184 ?_
              refine va_put (D := G) (ci := 8) (v := .int (ends_131 + (1 : Int32))) (ty := .int) (C := RX8) (T := TX8) (N := 32) hx hb hts hin_X8 tyX8 tyX8_ok nmX8 hown hK hP hD hS 0 rfl rfl 17 (by decide) fk_237 (fun _ h9 => h9) rfl (tyX8_ok 17 (by decide)) rfl rfl (Nat.le_of_ble_eq_true rfl) dX8_next_185 (fun H locs hP hD hS => ?_)
              have hP : va_P G vwCl (wM ca ev h0 h1 h2 h3 h4 h5 h6 h7 h8 h9 h10 h11 h12 h13 h14 h15 h16 h17 now kept isKept found order doubts doubtMany weights worn pairs isTwice doer doneTo doers tape_131 taped_131 u_3 (ends_131 + (1 : Int32)) (2 : Int32) (if ((((10 : Int32) * value_131) + u_13) - (48 : Int32)) < (10000 : Int32) then ((((10 : Int32) * value_131) + u_13) - (48 : Int32)) else (10000 : Int32)) isWrong items itemMany bowThen doubtThen deedThen sayingThen widths sizes numbers moved) H := hP
              have hD : va_D A (wM ca ev h0 h1 h2 h3 h4 h5 h6 h7 h8 h9 h10 h11 h12 h13 h14 h15 h16 h17 now kept isKept found order doubts doubtMany weights worn pairs isTwice doer doneTo doers tape_131 taped_131 u_3 (ends_131 + (1 : Int32)) (2 : Int32) (if ((((10 : Int32) * value_131) + u_13) - (48 : Int32)) < (10000 : Int32) then ((((10 : Int32) * value_131) + u_13) - (48 : Int32)) else (10000 : Int32)) isWrong items itemMany bowThen doubtThen deedThen sayingThen widths sizes numbers moved) := hD
              refine lv_goto (tgt := 131) hx hb dX8_next_188 (by decide) ?_
              exact ih h hP hD hS (lv_sub hl [0] rfl) JK_131
        obtain ⟨u_14, e_14, h⟩ := bd_some h
        refine L_131 _ e_14 hP hD hS (lv_sub hl [1] rfl) ?_
        intro H locs ls hP hD hS hl
        obtain rfl := Option.some.inj h
        exact hRet hP hD hS dX8_next_206
    · have h := ifn c_7 h
      refine lv_aload_n hx hb dX8_next_79 rfl (lv_at hl 1 rfl) ?_
      refine lv_iconst (v := (1 : Int32)) hx hb dX8_next_80 (by decide) ?_
      refine va_put (D := G) (ci := 8) (v := .int (1 : Int32)) (ty := .int) (C := RX8) (T := TX8) (N := 32) hx hb hts hin_X8 tyX8 tyX8_ok nmX8 hown hK hP hD hS 0 rfl rfl 18 (by decide) fk_249 (fun _ h9 => h9) rfl (tyX8_ok 18 (by decide)) rfl rfl (Nat.le_of_ble_eq_true rfl) dX8_next_81 (fun H locs hP hD hS => ?_)
      have hP : va_P G vwCl (wM ca ev h0 h1 h2 h3 h4 h5 h6 h7 h8 h9 h10 h11 h12 h13 h14 h15 h16 h17 now kept isKept found order doubts doubtMany weights worn pairs isTwice doer doneTo doers tape taped u_3 u_3 (1 : Int32) (0 : Int32) isWrong items itemMany bowThen doubtThen deedThen sayingThen widths sizes numbers moved) H := hP
      have hD : va_D A (wM ca ev h0 h1 h2 h3 h4 h5 h6 h7 h8 h9 h10 h11 h12 h13 h14 h15 h16 h17 now kept isKept found order doubts doubtMany weights worn pairs isTwice doer doneTo doers tape taped u_3 u_3 (1 : Int32) (0 : Int32) isWrong items itemMany bowThen doubtThen deedThen sayingThen widths sizes numbers moved) := hD
      have L_84 : ∀  {tape_84 : (Nat → Int32)} {taped_84 : Int32} (n_84 : Nat) {ends_84 : Int32} {uL_84 : Int32} {H : Heap} {locs : List Loc} {ls : Array Slot}, f_X8_next_84 tape_84 taped_84  n_84 ends_84 = some uL_84 → va_P G vwCl (wM ca ev h0 h1 h2 h3 h4 h5 h6 h7 h8 h9 h10 h11 h12 h13 h14 h15 h16 h17 now kept isKept found order doubts doubtMany weights worn pairs isTwice doer doneTo doers tape_84 taped_84 u_3 ends_84 (1 : Int32) (0 : Int32) isWrong items itemMany bowThen doubtThen deedThen sayingThen widths sizes numbers moved) H → va_D A (wM ca ev h0 h1 h2 h3 h4 h5 h6 h7 h8 h9 h10 h11 h12 h13 h14 h15 h16 h17 now kept isKept found order doubts doubtMany weights worn pairs isTwice doer doneTo doers tape_84 taped_84 u_3 ends_84 (1 : Int32) (0 : Int32) isWrong items itemMany bowThen doubtThen deedThen sayingThen widths sizes numbers moved) → va_S A s.heap H locs → lv_has ls 2 [(0, .ref h0)] → (∀ {H : Heap} {locs : List Loc} {ls : Array Slot}, va_P G vwCl (wM ca ev h0 h1 h2 h3 h4 h5 h6 h7 h8 h9 h10 h11 h12 h13 h14 h15 h16 h17 now kept isKept found order doubts doubtMany weights worn pairs isTwice doer doneTo doers tape_84 taped_84 u_3 uL_84 (1 : Int32) (0 : Int32) isWrong items itemMany bowThen doubtThen deedThen sayingThen widths sizes numbers moved) H → va_D A (wM ca ev h0 h1 h2 h3 h4 h5 h6 h7 h8 h9 h10 h11 h12 h13 h14 h15 h16 h17 now kept isKept found order doubts doubtMany weights worn pairs isTwice doer doneTo doers tape_84 taped_84 u_3 uL_84 (1 : Int32) (0 : Int32) isWrong items itemMany bowThen doubtThen deedThen sayingThen widths sizes numbers moved) → va_S A s.heap H locs → lv_has ls 2 [] → W p l e rm_X8_next s m args below meth c H locs 0 0 Q (F0 m 206 ls [])) → W p l e rm_X8_next s m args below meth c H locs 0 0 Q (F0 m 84 ls []) := by
        intro tape_84 taped_84 n_84
        induction n_84 with
        | zero => intro ends_84 uL_84 H locs ls h; exact absurd h (by rw [f_X8_next_84]; exact fun z => nomatch z)
        | succ n_84 ih =>
          intro ends_84 uL_84 H locs ls h hP hD hS hl JK_84
          rw [f_X8_next_84] at h
          refine lv_aload_n hx hb dX8_next_84 rfl (lv_at hl 0 rfl) ?_
          refine lv_aload_n hx hb dX8_next_85 rfl (lv_at hl 0 rfl) ?_
          refine va_get (D := G) (ci := 8) (v := .int ends_84) (C := RX8) (T := TX8) (N := 32) hx hb hts hin_X8 hown hK hP 0 rfl rfl 17 (by decide) fk_237 (fun _ h9 => h9) rfl dX8_next_86 ?_
          obtain ⟨u_15, e_15, h⟩ := bd_some h
          refine cm_Vi (As := [.int ends_84]) (rest := []) ⟨hx, hb, hml, hown, hts⟩ (c_X8_byteAt (ca := ca) (ev := ev) (h0 := h0) (h1 := h1) (h2 := h2) (h3 := h3) (h4 := h4) (h5 := h5) (h6 := h6) (h7 := h7) (h8 := h8) (h9 := h9) (h10 := h10) (h11 := h11) (h12 := h12) (h13 := h13) (h14 := h14) (h15 := h15) (h16 := h16) (h17 := h17) (now := now) (kept := kept) (isKept := isKept) (found := found) (order := order) (doubts := doubts) (doubtMany := doubtMany) (weights := weights) (worn := worn) (pairs := pairs) (isTwice := isTwice) (doer := doer) (doneTo := doneTo) (doers := doers) (tape := tape_84) (taped := taped_84) (begins := u_3) (ends := ends_84) (sort := (1 : Int32)) (value := (0 : Int32)) (isWrong := isWrong) (items := items) (itemMany := itemMany) (bowThen := bowThen) (doubtThen := doubtThen) (deedThen := deedThen) (sayingThen := sayingThen) (widths := widths) (sizes := sizes) (numbers := numbers) (moved := moved) e_15) (cwV 1 hts gX8_next_X8_byteAt rfl rfl rfl hd_X8_byteAt ⟨Nat.le_of_ble_eq_true rfl, Nat.le_of_ble_eq_true rfl⟩) hK hP hD hS hA hE (q0 := 0) (ci := 8) rfl rfl rfl rfl hl.1 rfl (Nat.le_of_ble_eq_true rfl) dX8_next_89 ⟨Nat.zero_le _, Nat.zero_le _⟩ (fun H locs hP hD hS => ?_)
          refine lv_bipush (v := (97 : Int32)) hx hb dX8_next_92 (by decide) ?_
          refine lv_bipush (v := (122 : Int32)) hx hb dX8_next_94 (by decide) ?_
          obtain ⟨u_16, e_16, h⟩ := bd_some h
          refine cn_Si (As := [.int u_15, .int (97 : Int32), .int (122 : Int32)]) (rest := []) ⟨hx, hb, hml, hown, hts⟩ (c_X8_within e_16) (va_cwS 3 hts gX8_next_X8_within rfl rfl rfl hd_X8_within ⟨Nat.le_of_ble_eq_true rfl, Nat.le_of_ble_eq_true rfl⟩) hK hP hD hS hA hE rfl hl.1 rfl (Nat.le_of_ble_eq_true rfl) dX8_next_96 ⟨Nat.zero_le _, Nat.zero_le _⟩ (fun H locs hP hD hS => ?_)
          refine lv_if_eq (tgt := 206) hx hb dX8_next_99 (by decide) (fun c_17 => ?_) (fun c_17 => ?_)
          · have h := ifp c_17 h
            obtain rfl := Option.some.inj h
            exact JK_84 hP hD hS (lv_sub hl [] rfl)
          · have h := ifn c_17 h
            refine lv_aload_n hx hb dX8_next_102 rfl (lv_at hl 0 rfl) ?_
            refine lv_dup hx hb dX8_next_103 rfl ?_
            refine va_get (D := G) (ci := 8) (v := .int ends_84) (C := RX8) (T := TX8) (N := 32) hx hb hts hin_X8 hown hK hP 0 rfl rfl 17 (by decide) fk_237 (fun _ h9 => h9) rfl dX8_next_104 ?_
            refine lv_iconst (v := (1 : Int32)) hx hb dX8_next_107 (by decide) ?_
            refine lv_iadd hx hb dX8_next_108 ?_
            refine va_put (D := G) (ci := 8) (v := .int (ends_84 + (1 : Int32))) (ty := .int) (C := RX8) (T := TX8) (N := 32) hx hb hts hin_X8 tyX8 tyX8_ok nmX8 hown hK hP hD hS 0 rfl rfl 17 (by decide) fk_237 (fun _ h9 => h9) rfl (tyX8_ok 17 (by decide)) rfl rfl (Nat.le_of_ble_eq_true rfl) dX8_next_109 (fun H locs hP hD hS => ?_)
            have hP : va_P G vwCl (wM ca ev h0 h1 h2 h3 h4 h5 h6 h7 h8 h9 h10 h11 h12 h13 h14 h15 h16 h17 now kept isKept found order doubts doubtMany weights worn pairs isTwice doer doneTo doers tape_84 taped_84 u_3 (ends_84 + (1 : Int32)) (1 : Int32) (0 : Int32) isWrong items itemMany bowThen doubtThen deedThen sayingThen widths sizes numbers moved) H := hP
            have hD : va_D A (wM ca ev h0 h1 h2 h3 h4 h5 h6 h7 h8 h9 h10 h11 h12 h13 h14 h15 h16 h17 now kept isKept found order doubts doubtMany weights worn pairs isTwice doer doneTo doers tape_84 taped_84 u_3 (ends_84 + (1 : Int32)) (1 : Int32) (0 : Int32) isWrong items itemMany bowThen doubtThen deedThen sayingThen widths sizes numbers moved) := hD
            refine lv_goto (tgt := 84) hx hb dX8_next_112 (by decide) ?_
            exact ih h hP hD hS (lv_sub hl [0] rfl) JK_84
      obtain ⟨u_18, e_18, h⟩ := bd_some h
      refine L_84 _ e_18 hP hD hS (lv_sub hl [1] rfl) ?_
      intro H locs ls hP hD hS hl
      obtain rfl := Option.some.inj h
      exact hRet hP hD hS dX8_next_206
  · have h := ifn c_5 h
    refine lv_aload_n hx hb dX8_next_60 rfl (lv_at hl 1 rfl) ?_
    refine lv_iconst (v := (0 : Int32)) hx hb dX8_next_61 (by decide) ?_
    refine va_put (D := G) (ci := 8) (v := .int (0 : Int32)) (ty := .int) (C := RX8) (T := TX8) (N := 32) hx hb hts hin_X8 tyX8 tyX8_ok nmX8 hown hK hP hD hS 0 rfl rfl 18 (by decide) fk_249 (fun _ h9 => h9) rfl (tyX8_ok 18 (by decide)) rfl rfl (Nat.le_of_ble_eq_true rfl) dX8_next_62 (fun H locs hP hD hS => ?_)
    have hP : va_P G vwCl (wM ca ev h0 h1 h2 h3 h4 h5 h6 h7 h8 h9 h10 h11 h12 h13 h14 h15 h16 h17 now kept isKept found order doubts doubtMany weights worn pairs isTwice doer doneTo doers tape taped u_3 u_3 (0 : Int32) (0 : Int32) isWrong items itemMany bowThen doubtThen deedThen sayingThen widths sizes numbers moved) H := hP
    have hD : va_D A (wM ca ev h0 h1 h2 h3 h4 h5 h6 h7 h8 h9 h10 h11 h12 h13 h14 h15 h16 h17 now kept isKept found order doubts doubtMany weights worn pairs isTwice doer doneTo doers tape taped u_3 u_3 (0 : Int32) (0 : Int32) isWrong items itemMany bowThen doubtThen deedThen sayingThen widths sizes numbers moved) := hD
    refine lv_goto (tgt := 206) hx hb dX8_next_65 (by decide) ?_
    obtain rfl := Option.some.inj h
    exact hRet hP hD hS dX8_next_206
abbrev rm_X8_must : Room := { frames := 2, cells := 0, slots := 0, locals := 44 }
theorem hd_X8_must : yX8_must.cls = RX8 ∧ yX8_must.cls ≠ "java/lang/invoke/MethodHandle" ∧ yX8_must.cls ≠ "java/lang/invoke/VarHandle" ∧ (parseMethodDescriptor yX8_must.desc).map (fun d => d.parameters.length) = some 1 := by decide +kernel
set_option maxHeartbeats 4000000 in
set_option maxRecDepth 100000 in
theorem c_X8_must {l : Launch} {G : va_G} {ca : Nat → ClassId} {ev : Nat → Nat} {h0 h1 h2 h3 h4 h5 h6 h7 h8 h9 h10 h11 h12 h13 h14 h15 h16 h17 : Nat} {now : (Nat → Int32)} {kept : (Nat → Int32)} {isKept : Int32} {found : (Nat → Int32)} {order : (Nat → Int32)} {doubts : (Nat → Int32)} {doubtMany : Int32} {weights : (Nat → Int64)} {worn : (Nat → Int32)} {pairs : Int64} {isTwice : Int32} {doer : (Nat → Int32)} {doneTo : (Nat → Int32)} {doers : (Nat → Int64)} {tape : (Nat → Int32)} {taped : Int32} {begins : Int32} {ends : Int32} {sort : Int32} {value : Int32} {isWrong : Int32} {items : (Nat → Int32)} {itemMany : Int32} {bowThen : Int32} {doubtThen : Int32} {deedThen : Int32} {sayingThen : Int32} {widths : (Nat → Int32)} {sizes : (Nat → Int32)} {numbers : (Nat → Int64)} {moved : (Nat → Int64)} {a1 : Int32} {N : Nat} {res : Int32 × Int32 × Int32 × Int32 × Int32} (h : f_X8_must N tape taped begins ends sort value isWrong a1 = some res) : CtV l yX8_must wsX8_must rm_X8_must G ca ev [.ref h0, .int a1] (wM ca ev h0 h1 h2 h3 h4 h5 h6 h7 h8 h9 h10 h11 h12 h13 h14 h15 h16 h17 now kept isKept found order doubts doubtMany weights worn pairs isTwice doer doneTo doers tape taped begins ends sort value isWrong items itemMany bowThen doubtThen deedThen sayingThen widths sizes numbers moved) (wM ca ev h0 h1 h2 h3 h4 h5 h6 h7 h8 h9 h10 h11 h12 h13 h14 h15 h16 h17 now kept isKept found order doubts doubtMany weights worn pairs isTwice doer doneTo doers tape taped res.1 res.2.1 res.2.2.1 res.2.2.2.1 res.2.2.2.2 items itemMany bowThen doubtThen deedThen sayingThen widths sizes numbers moved) := by
  unfold f_X8_must at h
  refine en_v (by decide) rfl (Nat.le_of_ble_eq_true rfl) ?_
  intro p e s m args below meth c A Q H locs ls hx hb hml hown hts hA hP hK hD hE hS hl hRet
  have hown : s.vm.findClass RX8 = some m.cls := hown
  have hl : lv_has ls 2 [(0, .ref h0), (1, .int a1)] := hl
  have hin_X8 : ∀ w ∈ u_ws RX8 TX8 32, w ∈ wsX8_must := fun w h9 => List.mem_cons_of_mem _ (List.mem_append_right _ h9)
  have fk_259 := hts (.fieldLink RX8 259 "MaskBowsModel" "isWrong" "Z") (by decide +kernel)
  refine lv_aload_n hx hb dX8_must_0 rfl (lv_at hl 0 rfl) ?_
  refine lv_aload_n hx hb dX8_must_1 rfl (lv_at hl 0 rfl) ?_
  refine va_get (D := G) (ci := 8) (v := .int isWrong) (C := RX8) (T := TX8) (N := 32) hx hb hts hin_X8 hown hK hP 0 rfl rfl 20 (by decide) fk_259 (fun _ h9 => h9) rfl dX8_must_2 ?_
  obtain ⟨u_1, e_1, h⟩ := bd_some h
  have J_1 : ∀ {H : Heap} {locs : List Loc} {ls : Array Slot}, va_P G vwCl (wM ca ev h0 h1 h2 h3 h4 h5 h6 h7 h8 h9 h10 h11 h12 h13 h14 h15 h16 h17 now kept isKept found order doubts doubtMany weights worn pairs isTwice doer doneTo doers tape taped begins ends sort value isWrong items itemMany bowThen doubtThen deedThen sayingThen widths sizes numbers moved) H → va_D A (wM ca ev h0 h1 h2 h3 h4 h5 h6 h7 h8 h9 h10 h11 h12 h13 h14 h15 h16 h17 now kept isKept found order doubts doubtMany weights worn pairs isTwice doer doneTo doers tape taped begins ends sort value isWrong items itemMany bowThen doubtThen deedThen sayingThen widths sizes numbers moved) → va_S A s.heap H locs → lv_has ls 2 [(0, .ref h0)] → (u_1 = 0 ∨ u_1 = 1) → W p l e rm_X8_must s m args below meth c H locs 0 0 Q (F0 m 17 ls [.int u_1, .ref h0]) := by
    intro H locs ls hP hD hS hl zj_1_0
    refine va_put (D := G) (ci := 8) (v := .int u_1) (ty := .boolean) (C := RX8) (T := TX8) (N := 32) hx hb hts hin_X8 tyX8 tyX8_ok nmX8 hown hK hP hD hS 0 rfl rfl 20 (by decide) fk_259 (fun _ h9 => h9) rfl (tyX8_ok 20 (by decide)) (zb_nar zj_1_0) (zb_fit zj_1_0) (Nat.le_of_ble_eq_true rfl) dX8_must_17 (fun H locs hP hD hS => ?_)
    have hP : va_P G vwCl (wM ca ev h0 h1 h2 h3 h4 h5 h6 h7 h8 h9 h10 h11 h12 h13 h14 h15 h16 h17 now kept isKept found order doubts doubtMany weights worn pairs isTwice doer doneTo doers tape taped begins ends sort value u_1 items itemMany bowThen doubtThen deedThen sayingThen widths sizes numbers moved) H := hP
    have hD : va_D A (wM ca ev h0 h1 h2 h3 h4 h5 h6 h7 h8 h9 h10 h11 h12 h13 h14 h15 h16 h17 now kept isKept found order doubts doubtMany weights worn pairs isTwice doer doneTo doers tape taped begins ends sort value u_1 items itemMany bowThen doubtThen deedThen sayingThen widths sizes numbers moved) := hD
    refine lv_aload_n hx hb dX8_must_20 rfl (lv_at hl 0 rfl) ?_
    refine va_get (D := G) (ci := 8) (v := .int u_1) (C := RX8) (T := TX8) (N := 32) hx hb hts hin_X8 hown hK hP 0 rfl rfl 20 (by decide) fk_259 (fun _ h9 => h9) rfl dX8_must_21 ?_
    refine lv_if_ne (tgt := 31) hx hb dX8_must_24 (by decide) (fun c_3 => ?_) (fun c_3 => ?_)
    · have h := ifn c_3 h
      obtain rfl := Option.some.inj h
      exact hRet hP hD hS dX8_must_31
    · have h := ifp c_3 h
      refine lv_aload_n hx hb dX8_must_27 rfl (lv_at hl 0 rfl) ?_
      obtain ⟨u_4, e_4, h⟩ := bd_some h
      refine cm_Vv (As := []) (rest := []) ⟨hx, hb, hml, hown, hts⟩ (c_X8_next (ca := ca) (ev := ev) (h0 := h0) (h1 := h1) (h2 := h2) (h3 := h3) (h4 := h4) (h5 := h5) (h6 := h6) (h7 := h7) (h8 := h8) (h9 := h9) (h10 := h10) (h11 := h11) (h12 := h12) (h13 := h13) (h14 := h14) (h15 := h15) (h16 := h16) (h17 := h17) (now := now) (kept := kept) (isKept := isKept) (found := found) (order := order) (doubts := doubts) (doubtMany := doubtMany) (weights := weights) (worn := worn) (pairs := pairs) (isTwice := isTwice) (doer := doer) (doneTo := doneTo) (doers := doers) (tape := tape) (taped := taped) (begins := begins) (ends := ends) (sort := sort) (value := value) (isWrong := u_1) (items := items) (itemMany := itemMany) (bowThen := bowThen) (doubtThen := doubtThen) (deedThen := deedThen) (sayingThen := sayingThen) (widths := widths) (sizes := sizes) (numbers := numbers) (moved := moved) e_4) (cwV 0 hts gX8_must_X8_next rfl rfl rfl hd_X8_next ⟨Nat.le_of_ble_eq_true rfl, Nat.le_of_ble_eq_true rfl⟩) hK hP hD hS hA hE (q0 := 0) (ci := 8) rfl rfl rfl rfl hl.1 rfl (Nat.le_of_ble_eq_true rfl) dX8_must_28 ⟨Nat.zero_le _, Nat.zero_le _⟩ (fun H locs hP hD hS => ?_)
      obtain rfl := Option.some.inj h
      exact hRet hP hD hS dX8_must_31
  have h := e_1
  clear e_1
  refine lv_if_ne (tgt := 12) hx hb dX8_must_5 (by decide) (fun c_1 => ?_) (fun c_1 => ?_)
  · have h := ifn c_1 h
    refine lv_iconst (v := (1 : Int32)) hx hb dX8_must_12 (by decide) ?_
    refine lv_goto (tgt := 17) hx hb dX8_must_13 (by decide) ?_
    obtain rfl := Option.some.inj h
    exact J_1 hP hD hS (lv_sub hl [0] rfl) zb_1
  · have h := ifp c_1 h
    refine lv_iload_n hx hb dX8_must_8 rfl (lv_at hl 1 rfl) ?_
    refine lv_if_ne (tgt := 16) hx hb dX8_must_9 (by decide) (fun c_2 => ?_) (fun c_2 => ?_)
    · have h := ifn c_2 h
      refine lv_iconst (v := (0 : Int32)) hx hb dX8_must_16 (by decide) ?_
      obtain rfl := Option.some.inj h
      exact J_1 hP hD hS (lv_sub hl [0] rfl) zb_0
    · have h := ifp c_2 h
      refine lv_iconst (v := (1 : Int32)) hx hb dX8_must_12 (by decide) ?_
      refine lv_goto (tgt := 17) hx hb dX8_must_13 (by decide) ?_
      obtain rfl := Option.some.inj h
      exact J_1 hP hD hS (lv_sub hl [0] rfl) zb_1
abbrev rm_X8_number : Room := { frames := 3, cells := 0, slots := 0, locals := 65 }
theorem hd_X8_number : yX8_number.cls = RX8 ∧ yX8_number.cls ≠ "java/lang/invoke/MethodHandle" ∧ yX8_number.cls ≠ "java/lang/invoke/VarHandle" ∧ (parseMethodDescriptor yX8_number.desc).map (fun d => d.parameters.length) = some 2 := by decide +kernel
set_option maxHeartbeats 4000000 in
set_option maxRecDepth 100000 in
theorem c_X8_number {l : Launch} {G : va_G} {ca : Nat → ClassId} {ev : Nat → Nat} {h0 h1 h2 h3 h4 h5 h6 h7 h8 h9 h10 h11 h12 h13 h14 h15 h16 h17 : Nat} {now : (Nat → Int32)} {kept : (Nat → Int32)} {isKept : Int32} {found : (Nat → Int32)} {order : (Nat → Int32)} {doubts : (Nat → Int32)} {doubtMany : Int32} {weights : (Nat → Int64)} {worn : (Nat → Int32)} {pairs : Int64} {isTwice : Int32} {doer : (Nat → Int32)} {doneTo : (Nat → Int32)} {doers : (Nat → Int64)} {tape : (Nat → Int32)} {taped : Int32} {begins : Int32} {ends : Int32} {sort : Int32} {value : Int32} {isWrong : Int32} {items : (Nat → Int32)} {itemMany : Int32} {bowThen : Int32} {doubtThen : Int32} {deedThen : Int32} {sayingThen : Int32} {widths : (Nat → Int32)} {sizes : (Nat → Int32)} {numbers : (Nat → Int64)} {moved : (Nat → Int64)} {a1 : Int32} {a2 : Int32} {N : Nat} {res : Int32 × Int32 × Int32 × Int32 × Int32 × Int32} (h : f_X8_number N tape taped begins ends sort value isWrong a1 a2 = some res) : CtI l yX8_number wsX8_number rm_X8_number G ca ev [.ref h0, .int a1, .int a2] (wM ca ev h0 h1 h2 h3 h4 h5 h6 h7 h8 h9 h10 h11 h12 h13 h14 h15 h16 h17 now kept isKept found order doubts doubtMany weights worn pairs isTwice doer doneTo doers tape taped begins ends sort value isWrong items itemMany bowThen doubtThen deedThen sayingThen widths sizes numbers moved) (wM ca ev h0 h1 h2 h3 h4 h5 h6 h7 h8 h9 h10 h11 h12 h13 h14 h15 h16 h17 now kept isKept found order doubts doubtMany weights worn pairs isTwice doer doneTo doers tape taped res.2.1 res.2.2.1 res.2.2.2.1 res.2.2.2.2.1 res.2.2.2.2.2 items itemMany bowThen doubtThen deedThen sayingThen widths sizes numbers moved) res.1 := by
  unfold f_X8_number at h
  refine en_i (by decide) rfl (Nat.le_of_ble_eq_true rfl) ?_
  intro p e s m args below meth c A Q H locs ls hx hb hml hown hts hA hP hK hD hE hS hl hRet
  have hown : s.vm.findClass RX8 = some m.cls := hown
  have hl : lv_has ls 4 [(0, .ref h0), (1, .int a1), (2, .int a2)] := hl
  have hin_X8 : ∀ w ∈ u_ws RX8 TX8 32, w ∈ wsX8_number := fun w h9 => List.mem_cons_of_mem _ (List.mem_append_right _ h9)
  have fk_246 := hts (.fieldLink RX8 246 "MaskBowsModel" "value" "I") (by decide +kernel)
  have fk_249 := hts (.fieldLink RX8 249 "MaskBowsModel" "sort" "I") (by decide +kernel)
  refine lv_aload_n hx hb dX8_number_0 rfl (lv_at hl 0 rfl) ?_
  refine va_get (D := G) (ci := 8) (v := .int value) (C := RX8) (T := TX8) (N := 32) hx hb hts hin_X8 hown hK hP 0 rfl rfl 19 (by decide) fk_246 (fun _ h9 => h9) rfl dX8_number_1 ?_
  refine lv_istore_n (lv' := [(3, .int value), (0, .ref h0), (1, .int a1), (2, .int a2)]) hx hb dX8_number_4 rfl hl (by decide) rfl (fun ls hl => ?_)
  refine lv_aload_n hx hb dX8_number_5 rfl (lv_at hl 1 rfl) ?_
  refine lv_aload_n hx hb dX8_number_6 rfl (lv_at hl 1 rfl) ?_
  refine va_get (D := G) (ci := 8) (v := .int sort) (C := RX8) (T := TX8) (N := 32) hx hb hts hin_X8 hown hK hP 0 rfl rfl 18 (by decide) fk_249 (fun _ h9 => h9) rfl dX8_number_7 ?_
  refine lv_iconst (v := (2 : Int32)) hx hb dX8_number_10 (by decide) ?_
  obtain ⟨u_1, e_1, h⟩ := bd_some h
  have J_1 : ∀ {H : Heap} {locs : List Loc} {ls : Array Slot}, va_P G vwCl (wM ca ev h0 h1 h2 h3 h4 h5 h6 h7 h8 h9 h10 h11 h12 h13 h14 h15 h16 h17 now kept isKept found order doubts doubtMany weights worn pairs isTwice doer doneTo doers tape taped begins ends sort value isWrong items itemMany bowThen doubtThen deedThen sayingThen widths sizes numbers moved) H → va_D A (wM ca ev h0 h1 h2 h3 h4 h5 h6 h7 h8 h9 h10 h11 h12 h13 h14 h15 h16 h17 now kept isKept found order doubts doubtMany weights worn pairs isTwice doer doneTo doers tape taped begins ends sort value isWrong items itemMany bowThen doubtThen deedThen sayingThen widths sizes numbers moved) → va_S A s.heap H locs → lv_has ls 4 [(3, .int value)] → (u_1 = 0 ∨ u_1 = 1) → W p l e rm_X8_number s m args below meth c H locs 0 0 Q (F0 m 28 ls [.int u_1, .ref h0]) := by
    intro H locs ls hP hD hS hl zj_1_0
    obtain ⟨u_4, e_4, h⟩ := bd_some h
    refine cm_Vv (As := [.int u_1]) (rest := []) ⟨hx, hb, hml, hown, hts⟩ (c_X8_must (ca := ca) (ev := ev) (h0 := h0) (h1 := h1) (h2 := h2) (h3 := h3) (h4 := h4) (h5 := h5) (h6 := h6) (h7 := h7) (h8 := h8) (h9 := h9) (h10 := h10) (h11 := h11) (h12 := h12) (h13 := h13) (h14 := h14) (h15 := h15) (h16 := h16) (h17 := h17) (now := now) (kept := kept) (isKept := isKept) (found := found) (order := order) (doubts := doubts) (doubtMany := doubtMany) (weights := weights) (worn := worn) (pairs := pairs) (isTwice := isTwice) (doer := doer) (doneTo := doneTo) (doers := doers) (tape := tape) (taped := taped) (begins := begins) (ends := ends) (sort := sort) (value := value) (isWrong := isWrong) (items := items) (itemMany := itemMany) (bowThen := bowThen) (doubtThen := doubtThen) (deedThen := deedThen) (sayingThen := sayingThen) (widths := widths) (sizes := sizes) (numbers := numbers) (moved := moved) e_4) (cwV 1 hts gX8_number_X8_must rfl rfl rfl hd_X8_must ⟨Nat.le_of_ble_eq_true rfl, Nat.le_of_ble_eq_true rfl⟩) hK hP hD hS hA hE (q0 := 0) (ci := 8) rfl rfl rfl rfl hl.1 rfl (Nat.le_of_ble_eq_true rfl) dX8_number_28 ⟨Nat.zero_le _, Nat.zero_le _⟩ (fun H locs hP hD hS => ?_)
    refine lv_iload_n hx hb dX8_number_31 rfl (lv_at hl 0 rfl) ?_
    obtain rfl := Option.some.inj h
    exact hRet hP hD hS dX8_number_32
  have h := e_1
  clear e_1
  refine lv_icmp_ne (tgt := 27) hx hb dX8_number_11 (by decide) (fun c_1 => ?_) (fun c_1 => ?_)
  · have h := ifn c_1 h
    refine lv_iconst (v := (0 : Int32)) hx hb dX8_number_27 (by decide) ?_
    obtain rfl := Option.some.inj h
    exact J_1 hP hD hS (lv_sub hl [0] rfl) zb_0
  · have h := ifp c_1 h
    refine lv_iload_n hx hb dX8_number_14 rfl (lv_at hl 0 rfl) ?_
    refine lv_iload_n hx hb dX8_number_15 rfl (lv_at hl 2 rfl) ?_
    refine lv_iload_n hx hb dX8_number_16 rfl (lv_at hl 3 rfl) ?_
    obtain ⟨u_2, e_2, h⟩ := bd_some h
    refine cn_Si (As := [.int value, .int a1, .int a2]) (rest := [.ref h0]) ⟨hx, hb, hml, hown, hts⟩ (c_X8_within e_2) (va_cwS 3 hts gX8_number_X8_within rfl rfl rfl hd_X8_within ⟨Nat.le_of_ble_eq_true rfl, Nat.le_of_ble_eq_true rfl⟩) hK hP hD hS hA hE rfl hl.1 rfl (Nat.le_of_ble_eq_true rfl) dX8_number_17 ⟨Nat.zero_le _, Nat.zero_le _⟩ (fun H locs hP hD hS => ?_)
    refine lv_if_eq (tgt := 27) hx hb dX8_number_20 (by decide) (fun c_3 => ?_) (fun c_3 => ?_)
    · have h := ifp c_3 h
      refine lv_iconst (v := (0 : Int32)) hx hb dX8_number_27 (by decide) ?_
      obtain rfl := Option.some.inj h
      exact J_1 hP hD hS (lv_sub hl [0] rfl) zb_0
    · have h := ifn c_3 h
      refine lv_iconst (v := (1 : Int32)) hx hb dX8_number_23 (by decide) ?_
      refine lv_goto (tgt := 28) hx hb dX8_number_24 (by decide) ?_
      obtain rfl := Option.some.inj h
      exact J_1 hP hD hS (lv_sub hl [0] rfl) zb_1
abbrev rm_X8_item : Room := { frames := 0, cells := 0, slots := 0, locals := 0 }
theorem hd_X8_item : yX8_item.cls = RX8 ∧ yX8_item.cls ≠ "java/lang/invoke/MethodHandle" ∧ yX8_item.cls ≠ "java/lang/invoke/VarHandle" ∧ (parseMethodDescriptor yX8_item.desc).map (fun d => d.parameters.length) = some 6 := by decide +kernel
set_option maxHeartbeats 4000000 in
set_option maxRecDepth 100000 in
theorem c_X8_item {l : Launch} {G : va_G} {ca : Nat → ClassId} {ev : Nat → Nat} {h0 h1 h2 h3 h4 h5 h6 h7 h8 h9 h10 h11 h12 h13 h14 h15 h16 h17 : Nat} {now : (Nat → Int32)} {kept : (Nat → Int32)} {isKept : Int32} {found : (Nat → Int32)} {order : (Nat → Int32)} {doubts : (Nat → Int32)} {doubtMany : Int32} {weights : (Nat → Int64)} {worn : (Nat → Int32)} {pairs : Int64} {isTwice : Int32} {doer : (Nat → Int32)} {doneTo : (Nat → Int32)} {doers : (Nat → Int64)} {tape : (Nat → Int32)} {taped : Int32} {begins : Int32} {ends : Int32} {sort : Int32} {value : Int32} {isWrong : Int32} {items : (Nat → Int32)} {itemMany : Int32} {bowThen : Int32} {doubtThen : Int32} {deedThen : Int32} {sayingThen : Int32} {widths : (Nat → Int32)} {sizes : (Nat → Int32)} {numbers : (Nat → Int64)} {moved : (Nat → Int64)} {a1 : Int32} {a2 : Int32} {a3 : Int32} {a4 : Int32} {a5 : Int32} {a6 : Int32} {res : (Nat → Int32) × Int32} (h : f_X8_item items itemMany a1 a2 a3 a4 a5 a6 = some res) : CtV l yX8_item wsX8_item rm_X8_item G ca ev [.ref h0, .int a1, .int a2, .int a3, .int a4, .int a5, .int a6] (wM ca ev h0 h1 h2 h3 h4 h5 h6 h7 h8 h9 h10 h11 h12 h13 h14 h15 h16 h17 now kept isKept found order doubts doubtMany weights worn pairs isTwice doer doneTo doers tape taped begins ends sort value isWrong items itemMany bowThen doubtThen deedThen sayingThen widths sizes numbers moved) (wM ca ev h0 h1 h2 h3 h4 h5 h6 h7 h8 h9 h10 h11 h12 h13 h14 h15 h16 h17 now kept isKept found order doubts doubtMany weights worn pairs isTwice doer doneTo doers tape taped begins ends sort value isWrong res.1 res.2 bowThen doubtThen deedThen sayingThen widths sizes numbers moved) := by
  unfold f_X8_item at h
  refine en_v (by decide) rfl (Nat.le_of_ble_eq_true rfl) ?_
  intro p e s m args below meth c A Q H locs ls hx hb hml hown hts hA hP hK hD hE hS hl hRet
  have hown : s.vm.findClass RX8 = some m.cls := hown
  have hl : lv_has ls 8 [(0, .ref h0), (1, .int a1), (2, .int a2), (3, .int a3), (4, .int a4), (5, .int a5), (6, .int a6)] := hl
  have hin_X8 : ∀ w ∈ u_ws RX8 TX8 32, w ∈ wsX8_item := fun w h9 => List.mem_cons_of_mem _ (List.mem_append_right _ h9)
  have fk_269 := hts (.fieldLink RX8 269 "MaskBowsModel" "itemMany" "I") (by decide +kernel)
  have fk_62 := hts (.fieldLink RX8 62 "MaskBowsModel" "items" "[I") (by decide +kernel)
  refine lv_bipush (v := (6 : Int32)) hx hb dX8_item_0 (by decide) ?_
  refine lv_aload_n hx hb dX8_item_2 rfl (lv_at hl 0 rfl) ?_
  refine va_get (D := G) (ci := 8) (v := .int itemMany) (C := RX8) (T := TX8) (N := 32) hx hb hts hin_X8 hown hK hP 0 rfl rfl 23 (by decide) fk_269 (fun _ h9 => h9) rfl dX8_item_3 ?_
  refine lv_imul hx hb dX8_item_6 ?_
  refine lv_istore (lv' := [(7, .int ((6 : Int32) * itemMany)), (0, .ref h0), (1, .int a1), (2, .int a2), (3, .int a3), (4, .int a4), (5, .int a5), (6, .int a6)]) hx hb dX8_item_7 hl (by decide) rfl (fun ls hl => ?_)
  refine lv_aload_n hx hb dX8_item_9 rfl (lv_at hl 1 rfl) ?_
  refine va_get (D := G) (ci := 8) (v := .ref h13) (C := RX8) (T := TX8) (N := 32) hx hb hts hin_X8 hown hK hP 0 rfl rfl 22 (by decide) fk_62 (fun _ h9 => h9) rfl dX8_item_10 ?_
  refine lv_iload hx hb dX8_item_13 (lv_at hl 0 rfl) ?_
  refine lv_iload_n hx hb dX8_item_15 rfl (lv_at hl 2 rfl) ?_
  obtain ⟨i_1, h⟩ := gd_some h
  refine va_iast hx hb hK hP hD hS 13 0 rfl rfl (ix_in i_1) dX8_item_16 (fun H locs hP hD hS => ?_)
  have hP : va_P G vwCl (wM ca ev h0 h1 h2 h3 h4 h5 h6 h7 h8 h9 h10 h11 h12 h13 h14 h15 h16 h17 now kept isKept found order doubts doubtMany weights worn pairs isTwice doer doneTo doers tape taped begins ends sort value isWrong (upd items ((6 : Int32) * itemMany).toNatClampNeg a1) itemMany bowThen doubtThen deedThen sayingThen widths sizes numbers moved) H := hP
  have hD : va_D A (wM ca ev h0 h1 h2 h3 h4 h5 h6 h7 h8 h9 h10 h11 h12 h13 h14 h15 h16 h17 now kept isKept found order doubts doubtMany weights worn pairs isTwice doer doneTo doers tape taped begins ends sort value isWrong (upd items ((6 : Int32) * itemMany).toNatClampNeg a1) itemMany bowThen doubtThen deedThen sayingThen widths sizes numbers moved) := hD
  refine lv_aload_n hx hb dX8_item_17 rfl (lv_at hl 1 rfl) ?_
  refine va_get (D := G) (ci := 8) (v := .ref h13) (C := RX8) (T := TX8) (N := 32) hx hb hts hin_X8 hown hK hP 0 rfl rfl 22 (by decide) fk_62 (fun _ h9 => h9) rfl dX8_item_18 ?_
  refine lv_iload hx hb dX8_item_21 (lv_at hl 0 rfl) ?_
  refine lv_iconst (v := (1 : Int32)) hx hb dX8_item_23 (by decide) ?_
  refine lv_iadd hx hb dX8_item_24 ?_
  refine lv_iload_n hx hb dX8_item_25 rfl (lv_at hl 3 rfl) ?_
  obtain ⟨i_2, h⟩ := gd_some h
  refine va_iast hx hb hK hP hD hS 13 0 rfl rfl (ix_in i_2) dX8_item_26 (fun H locs hP hD hS => ?_)
  have hP : va_P G vwCl (wM ca ev h0 h1 h2 h3 h4 h5 h6 h7 h8 h9 h10 h11 h12 h13 h14 h15 h16 h17 now kept isKept found order doubts doubtMany weights worn pairs isTwice doer doneTo doers tape taped begins ends sort value isWrong (upd (upd items ((6 : Int32) * itemMany).toNatClampNeg a1) (((6 : Int32) * itemMany) + (1 : Int32)).toNatClampNeg a2) itemMany bowThen doubtThen deedThen sayingThen widths sizes numbers moved) H := hP
  have hD : va_D A (wM ca ev h0 h1 h2 h3 h4 h5 h6 h7 h8 h9 h10 h11 h12 h13 h14 h15 h16 h17 now kept isKept found order doubts doubtMany weights worn pairs isTwice doer doneTo doers tape taped begins ends sort value isWrong (upd (upd items ((6 : Int32) * itemMany).toNatClampNeg a1) (((6 : Int32) * itemMany) + (1 : Int32)).toNatClampNeg a2) itemMany bowThen doubtThen deedThen sayingThen widths sizes numbers moved) := hD
  refine lv_aload_n hx hb dX8_item_27 rfl (lv_at hl 1 rfl) ?_
  refine va_get (D := G) (ci := 8) (v := .ref h13) (C := RX8) (T := TX8) (N := 32) hx hb hts hin_X8 hown hK hP 0 rfl rfl 22 (by decide) fk_62 (fun _ h9 => h9) rfl dX8_item_28 ?_
  refine lv_iload hx hb dX8_item_31 (lv_at hl 0 rfl) ?_
  refine lv_iconst (v := (2 : Int32)) hx hb dX8_item_33 (by decide) ?_
  refine lv_iadd hx hb dX8_item_34 ?_
  refine lv_iload_n hx hb dX8_item_35 rfl (lv_at hl 4 rfl) ?_
  obtain ⟨i_3, h⟩ := gd_some h
  refine va_iast hx hb hK hP hD hS 13 0 rfl rfl (ix_in i_3) dX8_item_36 (fun H locs hP hD hS => ?_)
  have hP : va_P G vwCl (wM ca ev h0 h1 h2 h3 h4 h5 h6 h7 h8 h9 h10 h11 h12 h13 h14 h15 h16 h17 now kept isKept found order doubts doubtMany weights worn pairs isTwice doer doneTo doers tape taped begins ends sort value isWrong (upd (upd (upd items ((6 : Int32) * itemMany).toNatClampNeg a1) (((6 : Int32) * itemMany) + (1 : Int32)).toNatClampNeg a2) (((6 : Int32) * itemMany) + (2 : Int32)).toNatClampNeg a3) itemMany bowThen doubtThen deedThen sayingThen widths sizes numbers moved) H := hP
  have hD : va_D A (wM ca ev h0 h1 h2 h3 h4 h5 h6 h7 h8 h9 h10 h11 h12 h13 h14 h15 h16 h17 now kept isKept found order doubts doubtMany weights worn pairs isTwice doer doneTo doers tape taped begins ends sort value isWrong (upd (upd (upd items ((6 : Int32) * itemMany).toNatClampNeg a1) (((6 : Int32) * itemMany) + (1 : Int32)).toNatClampNeg a2) (((6 : Int32) * itemMany) + (2 : Int32)).toNatClampNeg a3) itemMany bowThen doubtThen deedThen sayingThen widths sizes numbers moved) := hD
  refine lv_aload_n hx hb dX8_item_37 rfl (lv_at hl 1 rfl) ?_
  refine va_get (D := G) (ci := 8) (v := .ref h13) (C := RX8) (T := TX8) (N := 32) hx hb hts hin_X8 hown hK hP 0 rfl rfl 22 (by decide) fk_62 (fun _ h9 => h9) rfl dX8_item_38 ?_
  refine lv_iload hx hb dX8_item_41 (lv_at hl 0 rfl) ?_
  refine lv_iconst (v := (3 : Int32)) hx hb dX8_item_43 (by decide) ?_
  refine lv_iadd hx hb dX8_item_44 ?_
  refine lv_iload hx hb dX8_item_45 (lv_at hl 5 rfl) ?_
  obtain ⟨i_4, h⟩ := gd_some h
  refine va_iast hx hb hK hP hD hS 13 0 rfl rfl (ix_in i_4) dX8_item_47 (fun H locs hP hD hS => ?_)
  have hP : va_P G vwCl (wM ca ev h0 h1 h2 h3 h4 h5 h6 h7 h8 h9 h10 h11 h12 h13 h14 h15 h16 h17 now kept isKept found order doubts doubtMany weights worn pairs isTwice doer doneTo doers tape taped begins ends sort value isWrong (upd (upd (upd (upd items ((6 : Int32) * itemMany).toNatClampNeg a1) (((6 : Int32) * itemMany) + (1 : Int32)).toNatClampNeg a2) (((6 : Int32) * itemMany) + (2 : Int32)).toNatClampNeg a3) (((6 : Int32) * itemMany) + (3 : Int32)).toNatClampNeg a4) itemMany bowThen doubtThen deedThen sayingThen widths sizes numbers moved) H := hP
  have hD : va_D A (wM ca ev h0 h1 h2 h3 h4 h5 h6 h7 h8 h9 h10 h11 h12 h13 h14 h15 h16 h17 now kept isKept found order doubts doubtMany weights worn pairs isTwice doer doneTo doers tape taped begins ends sort value isWrong (upd (upd (upd (upd items ((6 : Int32) * itemMany).toNatClampNeg a1) (((6 : Int32) * itemMany) + (1 : Int32)).toNatClampNeg a2) (((6 : Int32) * itemMany) + (2 : Int32)).toNatClampNeg a3) (((6 : Int32) * itemMany) + (3 : Int32)).toNatClampNeg a4) itemMany bowThen doubtThen deedThen sayingThen widths sizes numbers moved) := hD
  refine lv_aload_n hx hb dX8_item_48 rfl (lv_at hl 1 rfl) ?_
  refine va_get (D := G) (ci := 8) (v := .ref h13) (C := RX8) (T := TX8) (N := 32) hx hb hts hin_X8 hown hK hP 0 rfl rfl 22 (by decide) fk_62 (fun _ h9 => h9) rfl dX8_item_49 ?_
  refine lv_iload hx hb dX8_item_52 (lv_at hl 0 rfl) ?_
  refine lv_iconst (v := (4 : Int32)) hx hb dX8_item_54 (by decide) ?_
  refine lv_iadd hx hb dX8_item_55 ?_
  refine lv_iload hx hb dX8_item_56 (lv_at hl 6 rfl) ?_
  obtain ⟨i_5, h⟩ := gd_some h
  refine va_iast hx hb hK hP hD hS 13 0 rfl rfl (ix_in i_5) dX8_item_58 (fun H locs hP hD hS => ?_)
  have hP : va_P G vwCl (wM ca ev h0 h1 h2 h3 h4 h5 h6 h7 h8 h9 h10 h11 h12 h13 h14 h15 h16 h17 now kept isKept found order doubts doubtMany weights worn pairs isTwice doer doneTo doers tape taped begins ends sort value isWrong (upd (upd (upd (upd (upd items ((6 : Int32) * itemMany).toNatClampNeg a1) (((6 : Int32) * itemMany) + (1 : Int32)).toNatClampNeg a2) (((6 : Int32) * itemMany) + (2 : Int32)).toNatClampNeg a3) (((6 : Int32) * itemMany) + (3 : Int32)).toNatClampNeg a4) (((6 : Int32) * itemMany) + (4 : Int32)).toNatClampNeg a5) itemMany bowThen doubtThen deedThen sayingThen widths sizes numbers moved) H := hP
  have hD : va_D A (wM ca ev h0 h1 h2 h3 h4 h5 h6 h7 h8 h9 h10 h11 h12 h13 h14 h15 h16 h17 now kept isKept found order doubts doubtMany weights worn pairs isTwice doer doneTo doers tape taped begins ends sort value isWrong (upd (upd (upd (upd (upd items ((6 : Int32) * itemMany).toNatClampNeg a1) (((6 : Int32) * itemMany) + (1 : Int32)).toNatClampNeg a2) (((6 : Int32) * itemMany) + (2 : Int32)).toNatClampNeg a3) (((6 : Int32) * itemMany) + (3 : Int32)).toNatClampNeg a4) (((6 : Int32) * itemMany) + (4 : Int32)).toNatClampNeg a5) itemMany bowThen doubtThen deedThen sayingThen widths sizes numbers moved) := hD
  refine lv_aload_n hx hb dX8_item_59 rfl (lv_at hl 1 rfl) ?_
  refine va_get (D := G) (ci := 8) (v := .ref h13) (C := RX8) (T := TX8) (N := 32) hx hb hts hin_X8 hown hK hP 0 rfl rfl 22 (by decide) fk_62 (fun _ h9 => h9) rfl dX8_item_60 ?_
  refine lv_iload hx hb dX8_item_63 (lv_at hl 0 rfl) ?_
  refine lv_iconst (v := (5 : Int32)) hx hb dX8_item_65 (by decide) ?_
  refine lv_iadd hx hb dX8_item_66 ?_
  refine lv_iload hx hb dX8_item_67 (lv_at hl 7 rfl) ?_
  obtain ⟨i_6, h⟩ := gd_some h
  refine va_iast hx hb hK hP hD hS 13 0 rfl rfl (ix_in i_6) dX8_item_69 (fun H locs hP hD hS => ?_)
  have hP : va_P G vwCl (wM ca ev h0 h1 h2 h3 h4 h5 h6 h7 h8 h9 h10 h11 h12 h13 h14 h15 h16 h17 now kept isKept found order doubts doubtMany weights worn pairs isTwice doer doneTo doers tape taped begins ends sort value isWrong (upd (upd (upd (upd (upd (upd items ((6 : Int32) * itemMany).toNatClampNeg a1) (((6 : Int32) * itemMany) + (1 : Int32)).toNatClampNeg a2) (((6 : Int32) * itemMany) + (2 : Int32)).toNatClampNeg a3) (((6 : Int32) * itemMany) + (3 : Int32)).toNatClampNeg a4) (((6 : Int32) * itemMany) + (4 : Int32)).toNatClampNeg a5) (((6 : Int32) * itemMany) + (5 : Int32)).toNatClampNeg a6) itemMany bowThen doubtThen deedThen sayingThen widths sizes numbers moved) H := hP
  have hD : va_D A (wM ca ev h0 h1 h2 h3 h4 h5 h6 h7 h8 h9 h10 h11 h12 h13 h14 h15 h16 h17 now kept isKept found order doubts doubtMany weights worn pairs isTwice doer doneTo doers tape taped begins ends sort value isWrong (upd (upd (upd (upd (upd (upd items ((6 : Int32) * itemMany).toNatClampNeg a1) (((6 : Int32) * itemMany) + (1 : Int32)).toNatClampNeg a2) (((6 : Int32) * itemMany) + (2 : Int32)).toNatClampNeg a3) (((6 : Int32) * itemMany) + (3 : Int32)).toNatClampNeg a4) (((6 : Int32) * itemMany) + (4 : Int32)).toNatClampNeg a5) (((6 : Int32) * itemMany) + (5 : Int32)).toNatClampNeg a6) itemMany bowThen doubtThen deedThen sayingThen widths sizes numbers moved) := hD
  refine lv_aload_n hx hb dX8_item_70 rfl (lv_at hl 1 rfl) ?_
  refine lv_dup hx hb dX8_item_71 rfl ?_
  refine va_get (D := G) (ci := 8) (v := .int itemMany) (C := RX8) (T := TX8) (N := 32) hx hb hts hin_X8 hown hK hP 0 rfl rfl 23 (by decide) fk_269 (fun _ h9 => h9) rfl dX8_item_72 ?_
  refine lv_iconst (v := (1 : Int32)) hx hb dX8_item_75 (by decide) ?_
  refine lv_iadd hx hb dX8_item_76 ?_
  refine va_put (D := G) (ci := 8) (v := .int (itemMany + (1 : Int32))) (ty := .int) (C := RX8) (T := TX8) (N := 32) hx hb hts hin_X8 tyX8 tyX8_ok nmX8 hown hK hP hD hS 0 rfl rfl 23 (by decide) fk_269 (fun _ h9 => h9) rfl (tyX8_ok 23 (by decide)) rfl rfl (Nat.le_of_ble_eq_true rfl) dX8_item_77 (fun H locs hP hD hS => ?_)
  have hP : va_P G vwCl (wM ca ev h0 h1 h2 h3 h4 h5 h6 h7 h8 h9 h10 h11 h12 h13 h14 h15 h16 h17 now kept isKept found order doubts doubtMany weights worn pairs isTwice doer doneTo doers tape taped begins ends sort value isWrong (upd (upd (upd (upd (upd (upd items ((6 : Int32) * itemMany).toNatClampNeg a1) (((6 : Int32) * itemMany) + (1 : Int32)).toNatClampNeg a2) (((6 : Int32) * itemMany) + (2 : Int32)).toNatClampNeg a3) (((6 : Int32) * itemMany) + (3 : Int32)).toNatClampNeg a4) (((6 : Int32) * itemMany) + (4 : Int32)).toNatClampNeg a5) (((6 : Int32) * itemMany) + (5 : Int32)).toNatClampNeg a6) (itemMany + (1 : Int32)) bowThen doubtThen deedThen sayingThen widths sizes numbers moved) H := hP
  have hD : va_D A (wM ca ev h0 h1 h2 h3 h4 h5 h6 h7 h8 h9 h10 h11 h12 h13 h14 h15 h16 h17 now kept isKept found order doubts doubtMany weights worn pairs isTwice doer doneTo doers tape taped begins ends sort value isWrong (upd (upd (upd (upd (upd (upd items ((6 : Int32) * itemMany).toNatClampNeg a1) (((6 : Int32) * itemMany) + (1 : Int32)).toNatClampNeg a2) (((6 : Int32) * itemMany) + (2 : Int32)).toNatClampNeg a3) (((6 : Int32) * itemMany) + (3 : Int32)).toNatClampNeg a4) (((6 : Int32) * itemMany) + (4 : Int32)).toNatClampNeg a5) (((6 : Int32) * itemMany) + (5 : Int32)).toNatClampNeg a6) (itemMany + (1 : Int32)) bowThen doubtThen deedThen sayingThen widths sizes numbers moved) := hD
  obtain rfl := Option.some.inj h
  exact hRet hP hD hS dX8_item_80
abbrev rm_X8_mask : Room := { frames := 4, cells := 0, slots := 0, locals := 88 }
theorem hd_X8_mask : yX8_mask.cls = RX8 ∧ yX8_mask.cls ≠ "java/lang/invoke/MethodHandle" ∧ yX8_mask.cls ≠ "java/lang/invoke/VarHandle" ∧ (parseMethodDescriptor yX8_mask.desc).map (fun d => d.parameters.length) = some 0 := by decide +kernel
set_option maxHeartbeats 4000000 in
set_option maxRecDepth 100000 in
theorem c_X8_mask {l : Launch} {G : va_G} {ca : Nat → ClassId} {ev : Nat → Nat} {h0 h1 h2 h3 h4 h5 h6 h7 h8 h9 h10 h11 h12 h13 h14 h15 h16 h17 : Nat} {now : (Nat → Int32)} {kept : (Nat → Int32)} {isKept : Int32} {found : (Nat → Int32)} {order : (Nat → Int32)} {doubts : (Nat → Int32)} {doubtMany : Int32} {weights : (Nat → Int64)} {worn : (Nat → Int32)} {pairs : Int64} {isTwice : Int32} {doer : (Nat → Int32)} {doneTo : (Nat → Int32)} {doers : (Nat → Int64)} {tape : (Nat → Int32)} {taped : Int32} {begins : Int32} {ends : Int32} {sort : Int32} {value : Int32} {isWrong : Int32} {items : (Nat → Int32)} {itemMany : Int32} {bowThen : Int32} {doubtThen : Int32} {deedThen : Int32} {sayingThen : Int32} {widths : (Nat → Int32)} {sizes : (Nat → Int32)} {numbers : (Nat → Int64)} {moved : (Nat → Int64)}  {N : Nat} {res : Int32 × Int32 × Int32 × Int32 × Int32 × Int32} (h : f_X8_mask N now tape taped begins ends sort value isWrong = some res) : CtI l yX8_mask wsX8_mask rm_X8_mask G ca ev [.ref h0] (wM ca ev h0 h1 h2 h3 h4 h5 h6 h7 h8 h9 h10 h11 h12 h13 h14 h15 h16 h17 now kept isKept found order doubts doubtMany weights worn pairs isTwice doer doneTo doers tape taped begins ends sort value isWrong items itemMany bowThen doubtThen deedThen sayingThen widths sizes numbers moved) (wM ca ev h0 h1 h2 h3 h4 h5 h6 h7 h8 h9 h10 h11 h12 h13 h14 h15 h16 h17 now kept isKept found order doubts doubtMany weights worn pairs isTwice doer doneTo doers tape taped res.2.1 res.2.2.1 res.2.2.2.1 res.2.2.2.2.1 res.2.2.2.2.2 items itemMany bowThen doubtThen deedThen sayingThen widths sizes numbers moved) res.1 := by
  unfold f_X8_mask at h
  refine en_i (by decide) rfl (Nat.le_of_ble_eq_true rfl) ?_
  intro p e s m args below meth c A Q H locs ls hx hb hml hown hts hA hP hK hD hE hS hl hRet
  have hown : s.vm.findClass RX8 = some m.cls := hown
  have hl : lv_has ls 1 [(0, .ref h0)] := hl
  have hin_X8 : ∀ w ∈ u_ws RX8 TX8 32, w ∈ wsX8_mask := fun w h9 => List.mem_cons_of_mem _ (List.mem_append_right _ h9)
  have fk_9 := hts (.fieldLink RX8 9 "MaskBowsModel" "now" "[I") (by decide +kernel)
  refine lv_aload_n hx hb dX8_mask_0 rfl (lv_at hl 0 rfl) ?_
  refine lv_iconst (v := (0 : Int32)) hx hb dX8_mask_1 (by decide) ?_
  refine lv_aload_n hx hb dX8_mask_2 rfl (lv_at hl 0 rfl) ?_
  refine va_get (D := G) (ci := 8) (v := .ref h1) (C := RX8) (T := TX8) (N := 32) hx hb hts hin_X8 hown hK hP 0 rfl rfl 0 (by decide) fk_9 (fun _ h9 => h9) rfl dX8_mask_3 ?_
  refine lv_iconst (v := (0 : Int32)) hx hb dX8_mask_6 (by decide) ?_
  refine va_iald hx hb hK hP 1 0 rfl rfl (ix_in (by decide)) dX8_mask_7 ?_
  refine lv_iconst (v := (1 : Int32)) hx hb dX8_mask_8 (by decide) ?_
  refine lv_isub hx hb dX8_mask_9 ?_
  obtain ⟨u_1, e_1, h⟩ := bd_some h
  refine cm_Vi (As := [.int (0 : Int32), .int ((now (0 : Int32).toNatClampNeg) - (1 : Int32))]) (rest := []) ⟨hx, hb, hml, hown, hts⟩ (c_X8_number (ca := ca) (ev := ev) (h0 := h0) (h1 := h1) (h2 := h2) (h3 := h3) (h4 := h4) (h5 := h5) (h6 := h6) (h7 := h7) (h8 := h8) (h9 := h9) (h10 := h10) (h11 := h11) (h12 := h12) (h13 := h13) (h14 := h14) (h15 := h15) (h16 := h16) (h17 := h17) (now := now) (kept := kept) (isKept := isKept) (found := found) (order := order) (doubts := doubts) (doubtMany := doubtMany) (weights := weights) (worn := worn) (pairs := pairs) (isTwice := isTwice) (doer := doer) (doneTo := doneTo) (doers := doers) (tape := tape) (taped := taped) (begins := begins) (ends := ends) (sort := sort) (value := value) (isWrong := isWrong) (items := items) (itemMany := itemMany) (bowThen := bowThen) (doubtThen := doubtThen) (deedThen := deedThen) (sayingThen := sayingThen) (widths := widths) (sizes := sizes) (numbers := numbers) (moved := moved) e_1) (cwV 2 hts gX8_mask_X8_number rfl rfl rfl hd_X8_number ⟨Nat.le_of_ble_eq_true rfl, Nat.le_of_ble_eq_true rfl⟩) hK hP hD hS hA hE (q0 := 0) (ci := 8) rfl rfl rfl rfl hl.1 rfl (Nat.le_of_ble_eq_true rfl) dX8_mask_10 ⟨Nat.zero_le _, Nat.zero_le _⟩ (fun H locs hP hD hS => ?_)
  obtain rfl := Option.some.inj h
  exact hRet hP hD hS dX8_mask_13
abbrev rm_X8_otherMask : Room := { frames := 3, cells := 0, slots := 0, locals := 65 }
theorem hd_X8_otherMask : yX8_otherMask.cls = RX8 ∧ yX8_otherMask.cls ≠ "java/lang/invoke/MethodHandle" ∧ yX8_otherMask.cls ≠ "java/lang/invoke/VarHandle" ∧ (parseMethodDescriptor yX8_otherMask.desc).map (fun d => d.parameters.length) = some 1 := by decide +kernel
set_option maxHeartbeats 4000000 in
set_option maxRecDepth 100000 in
theorem c_X8_otherMask {l : Launch} {G : va_G} {ca : Nat → ClassId} {ev : Nat → Nat} {h0 h1 h2 h3 h4 h5 h6 h7 h8 h9 h10 h11 h12 h13 h14 h15 h16 h17 : Nat} {now : (Nat → Int32)} {kept : (Nat → Int32)} {isKept : Int32} {found : (Nat → Int32)} {order : (Nat → Int32)} {doubts : (Nat → Int32)} {doubtMany : Int32} {weights : (Nat → Int64)} {worn : (Nat → Int32)} {pairs : Int64} {isTwice : Int32} {doer : (Nat → Int32)} {doneTo : (Nat → Int32)} {doers : (Nat → Int64)} {tape : (Nat → Int32)} {taped : Int32} {begins : Int32} {ends : Int32} {sort : Int32} {value : Int32} {isWrong : Int32} {items : (Nat → Int32)} {itemMany : Int32} {bowThen : Int32} {doubtThen : Int32} {deedThen : Int32} {sayingThen : Int32} {widths : (Nat → Int32)} {sizes : (Nat → Int32)} {numbers : (Nat → Int64)} {moved : (Nat → Int64)} {a1 : Int32} {N : Nat} {res : Int32 × Int32 × Int32 × Int32 × Int32 × Int32} (h : f_X8_otherMask N now tape taped begins ends sort value isWrong a1 = some res) : CtI l yX8_otherMask wsX8_otherMask rm_X8_otherMask G ca ev [.ref h0, .int a1] (wM ca ev h0 h1 h2 h3 h4 h5 h6 h7 h8 h9 h10 h11 h12 h13 h14 h15 h16 h17 now kept isKept found order doubts doubtMany weights worn pairs isTwice doer doneTo doers tape taped begins ends sort value isWrong items itemMany bowThen doubtThen deedThen sayingThen widths sizes numbers moved) (wM ca ev h0 h1 h2 h3 h4 h5 h6 h7 h8 h9 h10 h11 h12 h13 h14 h15 h16 h17 now kept isKept found order doubts doubtMany weights worn pairs isTwice doer doneTo doers tape taped res.2.1 res.2.2.1 res.2.2.2.1 res.2.2.2.2.1 res.2.2.2.2.2 items itemMany bowThen doubtThen deedThen sayingThen widths sizes numbers moved) res.1 := by
  unfold f_X8_otherMask at h
  refine en_i (by decide) rfl (Nat.le_of_ble_eq_true rfl) ?_
  intro p e s m args below meth c A Q H locs ls hx hb hml hown hts hA hP hK hD hE hS hl hRet
  have hown : s.vm.findClass RX8 = some m.cls := hown
  have hl : lv_has ls 3 [(0, .ref h0), (1, .int a1)] := hl
  have hin_X8 : ∀ w ∈ u_ws RX8 TX8 32, w ∈ wsX8_otherMask := fun w h9 => List.mem_cons_of_mem _ (List.mem_append_right _ h9)
  have fk_246 := hts (.fieldLink RX8 246 "MaskBowsModel" "value" "I") (by decide +kernel)
  have fk_249 := hts (.fieldLink RX8 249 "MaskBowsModel" "sort" "I") (by decide +kernel)
  refine lv_aload_n hx hb dX8_otherMask_0 rfl (lv_at hl 0 rfl) ?_
  refine va_get (D := G) (ci := 8) (v := .int value) (C := RX8) (T := TX8) (N := 32) hx hb hts hin_X8 hown hK hP 0 rfl rfl 19 (by decide) fk_246 (fun _ h9 => h9) rfl dX8_otherMask_1 ?_
  refine lv_istore_n (lv' := [(2, .int value), (0, .ref h0), (1, .int a1)]) hx hb dX8_otherMask_4 rfl hl (by decide) rfl (fun ls hl => ?_)
  refine lv_aload_n hx hb dX8_otherMask_5 rfl (lv_at hl 1 rfl) ?_
  refine lv_aload_n hx hb dX8_otherMask_6 rfl (lv_at hl 1 rfl) ?_
  refine va_get (D := G) (ci := 8) (v := .int sort) (C := RX8) (T := TX8) (N := 32) hx hb hts hin_X8 hown hK hP 0 rfl rfl 18 (by decide) fk_249 (fun _ h9 => h9) rfl dX8_otherMask_7 ?_
  refine lv_iconst (v := (2 : Int32)) hx hb dX8_otherMask_10 (by decide) ?_
  obtain ⟨u_1, e_1, h⟩ := bd_some h
  have J_1 : ∀ {H : Heap} {locs : List Loc} {ls : Array Slot}, va_P G vwCl (wM ca ev h0 h1 h2 h3 h4 h5 h6 h7 h8 h9 h10 h11 h12 h13 h14 h15 h16 h17 now kept isKept found order doubts doubtMany weights worn pairs isTwice doer doneTo doers tape taped begins ends sort value isWrong items itemMany bowThen doubtThen deedThen sayingThen widths sizes numbers moved) H → va_D A (wM ca ev h0 h1 h2 h3 h4 h5 h6 h7 h8 h9 h10 h11 h12 h13 h14 h15 h16 h17 now kept isKept found order doubts doubtMany weights worn pairs isTwice doer doneTo doers tape taped begins ends sort value isWrong items itemMany bowThen doubtThen deedThen sayingThen widths sizes numbers moved) → va_S A s.heap H locs → lv_has ls 3 [(2, .int value)] → (u_1 = 0 ∨ u_1 = 1) → W p l e rm_X8_otherMask s m args below meth c H locs 0 0 Q (F0 m 32 ls [.int u_1, .ref h0]) := by
    intro H locs ls hP hD hS hl zj_1_0
    obtain ⟨u_5, e_5, h⟩ := bd_some h
    refine cm_Vv (As := [.int u_1]) (rest := []) ⟨hx, hb, hml, hown, hts⟩ (c_X8_must (ca := ca) (ev := ev) (h0 := h0) (h1 := h1) (h2 := h2) (h3 := h3) (h4 := h4) (h5 := h5) (h6 := h6) (h7 := h7) (h8 := h8) (h9 := h9) (h10 := h10) (h11 := h11) (h12 := h12) (h13 := h13) (h14 := h14) (h15 := h15) (h16 := h16) (h17 := h17) (now := now) (kept := kept) (isKept := isKept) (found := found) (order := order) (doubts := doubts) (doubtMany := doubtMany) (weights := weights) (worn := worn) (pairs := pairs) (isTwice := isTwice) (doer := doer) (doneTo := doneTo) (doers := doers) (tape := tape) (taped := taped) (begins := begins) (ends := ends) (sort := sort) (value := value) (isWrong := isWrong) (items := items) (itemMany := itemMany) (bowThen := bowThen) (doubtThen := doubtThen) (deedThen := deedThen) (sayingThen := sayingThen) (widths := widths) (sizes := sizes) (numbers := numbers) (moved := moved) e_5) (cwV 1 hts gX8_otherMask_X8_must rfl rfl rfl hd_X8_must ⟨Nat.le_of_ble_eq_true rfl, Nat.le_of_ble_eq_true rfl⟩) hK hP hD hS hA hE (q0 := 0) (ci := 8) rfl rfl rfl rfl hl.1 rfl (Nat.le_of_ble_eq_true rfl) dX8_otherMask_32 ⟨Nat.zero_le _, Nat.zero_le _⟩ (fun H locs hP hD hS => ?_)
    refine lv_iload_n hx hb dX8_otherMask_35 rfl (lv_at hl 0 rfl) ?_
    obtain rfl := Option.some.inj h
    exact hRet hP hD hS dX8_otherMask_36
  have h := e_1
  clear e_1
  refine lv_icmp_ne (tgt := 31) hx hb dX8_otherMask_11 (by decide) (fun c_1 => ?_) (fun c_1 => ?_)
  · have h := ifn c_1 h
    refine lv_iconst (v := (0 : Int32)) hx hb dX8_otherMask_31 (by decide) ?_
    obtain rfl := Option.some.inj h
    exact J_1 hP hD hS (lv_sub hl [0] rfl) zb_0
  · have h := ifp c_1 h
    refine lv_aload_n hx hb dX8_otherMask_14 rfl (lv_at hl 1 rfl) ?_
    refine lv_iload_n hx hb dX8_otherMask_15 rfl (lv_at hl 0 rfl) ?_
    obtain ⟨u_2, e_2, h⟩ := bd_some h
    refine cm_Vi (As := [.int value]) (rest := [.ref h0]) ⟨hx, hb, hml, hown, hts⟩ (c_X8_isOne (ca := ca) (ev := ev) (h0 := h0) (h1 := h1) (h2 := h2) (h3 := h3) (h4 := h4) (h5 := h5) (h6 := h6) (h7 := h7) (h8 := h8) (h9 := h9) (h10 := h10) (h11 := h11) (h12 := h12) (h13 := h13) (h14 := h14) (h15 := h15) (h16 := h16) (h17 := h17) (now := now) (kept := kept) (isKept := isKept) (found := found) (order := order) (doubts := doubts) (doubtMany := doubtMany) (weights := weights) (worn := worn) (pairs := pairs) (isTwice := isTwice) (doer := doer) (doneTo := doneTo) (doers := doers) (tape := tape) (taped := taped) (begins := begins) (ends := ends) (sort := sort) (value := value) (isWrong := isWrong) (items := items) (itemMany := itemMany) (bowThen := bowThen) (doubtThen := doubtThen) (deedThen := deedThen) (sayingThen := sayingThen) (widths := widths) (sizes := sizes) (numbers := numbers) (moved := moved) e_2) (cwV 1 hts gX8_otherMask_X8_isOne rfl rfl rfl hd_X8_isOne ⟨Nat.le_of_ble_eq_true rfl, Nat.le_of_ble_eq_true rfl⟩) hK hP hD hS hA hE (q0 := 0) (ci := 8) rfl rfl rfl rfl hl.1 rfl (Nat.le_of_ble_eq_true rfl) dX8_otherMask_16 ⟨Nat.zero_le _, Nat.zero_le _⟩ (fun H locs hP hD hS => ?_)
    refine lv_if_eq (tgt := 31) hx hb dX8_otherMask_19 (by decide) (fun c_3 => ?_) (fun c_3 => ?_)
    · have h := ifp c_3 h
      refine lv_iconst (v := (0 : Int32)) hx hb dX8_otherMask_31 (by decide) ?_
      obtain rfl := Option.some.inj h
      exact J_1 hP hD hS (lv_sub hl [0] rfl) zb_0
    · have h := ifn c_3 h
      refine lv_iload_n hx hb dX8_otherMask_22 rfl (lv_at hl 0 rfl) ?_
      refine lv_iload_n hx hb dX8_otherMask_23 rfl (lv_at hl 2 rfl) ?_
      refine lv_icmp_eq (tgt := 31) hx hb dX8_otherMask_24 (by decide) (fun c_4 => ?_) (fun c_4 => ?_)
      · have h := ifp c_4 h
        refine lv_iconst (v := (0 : Int32)) hx hb dX8_otherMask_31 (by decide) ?_
        obtain rfl := Option.some.inj h
        exact J_1 hP hD hS (lv_sub hl [0] rfl) zb_0
      · have h := ifn c_4 h
        refine lv_iconst (v := (1 : Int32)) hx hb dX8_otherMask_27 (by decide) ?_
        refine lv_goto (tgt := 32) hx hb dX8_otherMask_28 (by decide) ?_
        obtain rfl := Option.some.inj h
        exact J_1 hP hD hS (lv_sub hl [0] rfl) zb_1
abbrev rm_X8_isSo : Room := { frames := 1, cells := 0, slots := 0, locals := 27 }
theorem hd_X8_isSo : yX8_isSo.cls = RX8 ∧ yX8_isSo.cls ≠ "java/lang/invoke/MethodHandle" ∧ yX8_isSo.cls ≠ "java/lang/invoke/VarHandle" ∧ (parseMethodDescriptor yX8_isSo.desc).map (fun d => d.parameters.length) = some 1 := by decide +kernel
set_option maxHeartbeats 4000000 in
set_option maxRecDepth 100000 in
theorem c_X8_isSo {l : Launch} {G : va_G} {ca : Nat → ClassId} {ev : Nat → Nat} {h0 h1 h2 h3 h4 h5 h6 h7 h8 h9 h10 h11 h12 h13 h14 h15 h16 h17 : Nat} {now : (Nat → Int32)} {kept : (Nat → Int32)} {isKept : Int32} {found : (Nat → Int32)} {order : (Nat → Int32)} {doubts : (Nat → Int32)} {doubtMany : Int32} {weights : (Nat → Int64)} {worn : (Nat → Int32)} {pairs : Int64} {isTwice : Int32} {doer : (Nat → Int32)} {doneTo : (Nat → Int32)} {doers : (Nat → Int64)} {tape : (Nat → Int32)} {taped : Int32} {begins : Int32} {ends : Int32} {sort : Int32} {value : Int32} {isWrong : Int32} {items : (Nat → Int32)} {itemMany : Int32} {bowThen : Int32} {doubtThen : Int32} {deedThen : Int32} {sayingThen : Int32} {widths : (Nat → Int32)} {sizes : (Nat → Int32)} {numbers : (Nat → Int64)} {moved : (Nat → Int64)} {a1 : Int32} {res : (Nat → Int32)} (h : f_X8_isSo now items a1 = some res) : CtV l yX8_isSo wsX8_isSo rm_X8_isSo G ca ev [.ref h0, .int a1] (wM ca ev h0 h1 h2 h3 h4 h5 h6 h7 h8 h9 h10 h11 h12 h13 h14 h15 h16 h17 now kept isKept found order doubts doubtMany weights worn pairs isTwice doer doneTo doers tape taped begins ends sort value isWrong items itemMany bowThen doubtThen deedThen sayingThen widths sizes numbers moved) (wM ca ev h0 h1 h2 h3 h4 h5 h6 h7 h8 h9 h10 h11 h12 h13 h14 h15 h16 h17 res kept isKept found order doubts doubtMany weights worn pairs isTwice doer doneTo doers tape taped begins ends sort value isWrong items itemMany bowThen doubtThen deedThen sayingThen widths sizes numbers moved) := by
  unfold f_X8_isSo at h
  refine en_v (by decide) rfl (Nat.le_of_ble_eq_true rfl) ?_
  intro p e s m args below meth c A Q H locs ls hx hb hml hown hts hA hP hK hD hE hS hl hRet
  have hown : s.vm.findClass RX8 = some m.cls := hown
  have hl : lv_has ls 7 [(0, .ref h0), (1, .int a1)] := hl
  have hin_X8 : ∀ w ∈ u_ws RX8 TX8 32, w ∈ wsX8_isSo := fun w h9 => List.mem_cons_of_mem _ (List.mem_append_right _ h9)
  have fk_62 := hts (.fieldLink RX8 62 "MaskBowsModel" "items" "[I") (by decide +kernel)
  have fk_9 := hts (.fieldLink RX8 9 "MaskBowsModel" "now" "[I") (by decide +kernel)
  refine lv_aload_n hx hb dX8_isSo_0 rfl (lv_at hl 0 rfl) ?_
  refine va_get (D := G) (ci := 8) (v := .ref h13) (C := RX8) (T := TX8) (N := 32) hx hb hts hin_X8 hown hK hP 0 rfl rfl 22 (by decide) fk_62 (fun _ h9 => h9) rfl dX8_isSo_1 ?_
  refine lv_iload_n hx hb dX8_isSo_4 rfl (lv_at hl 1 rfl) ?_
  refine lv_iconst (v := (1 : Int32)) hx hb dX8_isSo_5 (by decide) ?_
  refine lv_iadd hx hb dX8_isSo_6 ?_
  obtain ⟨i_1, h⟩ := gd_some h
  refine va_iald hx hb hK hP 13 0 rfl rfl (ix_in i_1) dX8_isSo_7 ?_
  refine lv_istore_n (lv' := [(2, .int (items (a1 + (1 : Int32)).toNatClampNeg)), (0, .ref h0), (1, .int a1)]) hx hb dX8_isSo_8 rfl hl (by decide) rfl (fun ls hl => ?_)
  refine lv_aload_n hx hb dX8_isSo_9 rfl (lv_at hl 1 rfl) ?_
  refine va_get (D := G) (ci := 8) (v := .ref h13) (C := RX8) (T := TX8) (N := 32) hx hb hts hin_X8 hown hK hP 0 rfl rfl 22 (by decide) fk_62 (fun _ h9 => h9) rfl dX8_isSo_10 ?_
  refine lv_iload_n hx hb dX8_isSo_13 rfl (lv_at hl 2 rfl) ?_
  refine lv_iconst (v := (2 : Int32)) hx hb dX8_isSo_14 (by decide) ?_
  refine lv_iadd hx hb dX8_isSo_15 ?_
  obtain ⟨i_2, h⟩ := gd_some h
  refine va_iald hx hb hK hP 13 0 rfl rfl (ix_in i_2) dX8_isSo_16 ?_
  refine lv_istore_n (lv' := [(3, .int (items (a1 + (2 : Int32)).toNatClampNeg)), (2, .int (items (a1 + (1 : Int32)).toNatClampNeg)), (0, .ref h0), (1, .int a1)]) hx hb dX8_isSo_17 rfl hl (by decide) rfl (fun ls hl => ?_)
  refine lv_aload_n hx hb dX8_isSo_18 rfl (lv_at hl 2 rfl) ?_
  refine va_get (D := G) (ci := 8) (v := .ref h13) (C := RX8) (T := TX8) (N := 32) hx hb hts hin_X8 hown hK hP 0 rfl rfl 22 (by decide) fk_62 (fun _ h9 => h9) rfl dX8_isSo_19 ?_
  refine lv_iload_n hx hb dX8_isSo_22 rfl (lv_at hl 3 rfl) ?_
  refine lv_iconst (v := (3 : Int32)) hx hb dX8_isSo_23 (by decide) ?_
  refine lv_iadd hx hb dX8_isSo_24 ?_
  obtain ⟨i_3, h⟩ := gd_some h
  refine va_iald hx hb hK hP 13 0 rfl rfl (ix_in i_3) dX8_isSo_25 ?_
  refine lv_istore (lv' := [(4, .int (items (a1 + (3 : Int32)).toNatClampNeg)), (3, .int (items (a1 + (2 : Int32)).toNatClampNeg)), (2, .int (items (a1 + (1 : Int32)).toNatClampNeg)), (0, .ref h0), (1, .int a1)]) hx hb dX8_isSo_26 hl (by decide) rfl (fun ls hl => ?_)
  refine lv_aload_n hx hb dX8_isSo_28 rfl (lv_at hl 3 rfl) ?_
  refine va_get (D := G) (ci := 8) (v := .ref h13) (C := RX8) (T := TX8) (N := 32) hx hb hts hin_X8 hown hK hP 0 rfl rfl 22 (by decide) fk_62 (fun _ h9 => h9) rfl dX8_isSo_29 ?_
  refine lv_iload_n hx hb dX8_isSo_32 rfl (lv_at hl 4 rfl) ?_
  refine lv_iconst (v := (4 : Int32)) hx hb dX8_isSo_33 (by decide) ?_
  refine lv_iadd hx hb dX8_isSo_34 ?_
  obtain ⟨i_4, h⟩ := gd_some h
  refine va_iald hx hb hK hP 13 0 rfl rfl (ix_in i_4) dX8_isSo_35 ?_
  refine lv_istore (lv' := [(5, .int (items (a1 + (4 : Int32)).toNatClampNeg)), (4, .int (items (a1 + (3 : Int32)).toNatClampNeg)), (3, .int (items (a1 + (2 : Int32)).toNatClampNeg)), (2, .int (items (a1 + (1 : Int32)).toNatClampNeg)), (0, .ref h0), (1, .int a1)]) hx hb dX8_isSo_36 hl (by decide) rfl (fun ls hl => ?_)
  refine lv_aload_n hx hb dX8_isSo_38 rfl (lv_at hl 4 rfl) ?_
  refine va_get (D := G) (ci := 8) (v := .ref h13) (C := RX8) (T := TX8) (N := 32) hx hb hts hin_X8 hown hK hP 0 rfl rfl 22 (by decide) fk_62 (fun _ h9 => h9) rfl dX8_isSo_39 ?_
  refine lv_iload_n hx hb dX8_isSo_42 rfl (lv_at hl 5 rfl) ?_
  obtain ⟨i_5, h⟩ := gd_some h
  refine va_iald hx hb hK hP 13 0 rfl rfl (ix_in i_5) dX8_isSo_43 ?_
  by_cases c_6 : (items a1.toNatClampNeg) = (10 : Int32)
  · have h := ifp c_6 h
    rw [c_6]
    refine lv_tableIn (tgt := 72) hx hb dX8_isSo_44 (by decide) (by decide) rfl (by decide) ?_
    refine lv_aload_n hx hb dX8_isSo_72 rfl (lv_at hl 4 rfl) ?_
    refine lv_iload_n hx hb dX8_isSo_73 rfl (lv_at hl 3 rfl) ?_
    refine lv_iload_n hx hb dX8_isSo_74 rfl (lv_at hl 2 rfl) ?_
    refine lv_iload hx hb dX8_isSo_75 (lv_at hl 1 rfl) ?_
    refine lv_iload hx hb dX8_isSo_77 (lv_at hl 0 rfl) ?_
    obtain ⟨u_12, e_12, h⟩ := bd_some h
    refine cm_Vi (As := [.int (items (a1 + (1 : Int32)).toNatClampNeg), .int (items (a1 + (2 : Int32)).toNatClampNeg), .int (items (a1 + (3 : Int32)).toNatClampNeg), .int (items (a1 + (4 : Int32)).toNatClampNeg)]) (rest := []) ⟨hx, hb, hml, hown, hts⟩ (c_X8_bowed (ca := ca) (ev := ev) (h0 := h0) (h1 := h1) (h2 := h2) (h3 := h3) (h4 := h4) (h5 := h5) (h6 := h6) (h7 := h7) (h8 := h8) (h9 := h9) (h10 := h10) (h11 := h11) (h12 := h12) (h13 := h13) (h14 := h14) (h15 := h15) (h16 := h16) (h17 := h17) (now := now) (kept := kept) (isKept := isKept) (found := found) (order := order) (doubts := doubts) (doubtMany := doubtMany) (weights := weights) (worn := worn) (pairs := pairs) (isTwice := isTwice) (doer := doer) (doneTo := doneTo) (doers := doers) (tape := tape) (taped := taped) (begins := begins) (ends := ends) (sort := sort) (value := value) (isWrong := isWrong) (items := items) (itemMany := itemMany) (bowThen := bowThen) (doubtThen := doubtThen) (deedThen := deedThen) (sayingThen := sayingThen) (widths := widths) (sizes := sizes) (numbers := numbers) (moved := moved) e_12) (cwV 4 hts gX8_isSo_X8_bowed rfl rfl rfl hd_X8_bowed ⟨Nat.le_of_ble_eq_true rfl, Nat.le_of_ble_eq_true rfl⟩) hK hP hD hS hA hE (q0 := 0) (ci := 8) rfl rfl rfl rfl hl.1 rfl (Nat.le_of_ble_eq_true rfl) dX8_isSo_79 ⟨Nat.zero_le _, Nat.zero_le _⟩ (fun H locs hP hD hS => ?_)
    refine lv_istore (lv' := [(6, .int u_12.1), (5, .int (items (a1 + (4 : Int32)).toNatClampNeg)), (4, .int (items (a1 + (3 : Int32)).toNatClampNeg)), (3, .int (items (a1 + (2 : Int32)).toNatClampNeg)), (2, .int (items (a1 + (1 : Int32)).toNatClampNeg)), (0, .ref h0), (1, .int a1)]) hx hb dX8_isSo_82 hl (by decide) rfl (fun ls hl => ?_)
    refine lv_goto (tgt := 132) hx hb dX8_isSo_84 (by decide) ?_
    obtain rfl := Option.some.inj h
    exact hRet hP hD hS dX8_isSo_132
  · have h := ifn c_6 h
    by_cases c_7 : (items a1.toNatClampNeg) = (11 : Int32)
    · have h := ifp c_7 h
      rw [c_7]
      refine lv_tableIn (tgt := 87) hx hb dX8_isSo_44 (by decide) (by decide) rfl (by decide) ?_
      refine lv_aload_n hx hb dX8_isSo_87 rfl (lv_at hl 4 rfl) ?_
      refine lv_iload_n hx hb dX8_isSo_88 rfl (lv_at hl 3 rfl) ?_
      refine lv_iload_n hx hb dX8_isSo_89 rfl (lv_at hl 2 rfl) ?_
      refine lv_iload hx hb dX8_isSo_90 (lv_at hl 1 rfl) ?_
      refine lv_iload hx hb dX8_isSo_92 (lv_at hl 0 rfl) ?_
      obtain ⟨u_11, e_11, h⟩ := bd_some h
      refine cm_Vi (As := [.int (items (a1 + (1 : Int32)).toNatClampNeg), .int (items (a1 + (2 : Int32)).toNatClampNeg), .int (items (a1 + (3 : Int32)).toNatClampNeg), .int (items (a1 + (4 : Int32)).toNatClampNeg)]) (rest := []) ⟨hx, hb, hml, hown, hts⟩ (c_X8_said (ca := ca) (ev := ev) (h0 := h0) (h1 := h1) (h2 := h2) (h3 := h3) (h4 := h4) (h5 := h5) (h6 := h6) (h7 := h7) (h8 := h8) (h9 := h9) (h10 := h10) (h11 := h11) (h12 := h12) (h13 := h13) (h14 := h14) (h15 := h15) (h16 := h16) (h17 := h17) (now := now) (kept := kept) (isKept := isKept) (found := found) (order := order) (doubts := doubts) (doubtMany := doubtMany) (weights := weights) (worn := worn) (pairs := pairs) (isTwice := isTwice) (doer := doer) (doneTo := doneTo) (doers := doers) (tape := tape) (taped := taped) (begins := begins) (ends := ends) (sort := sort) (value := value) (isWrong := isWrong) (items := items) (itemMany := itemMany) (bowThen := bowThen) (doubtThen := doubtThen) (deedThen := deedThen) (sayingThen := sayingThen) (widths := widths) (sizes := sizes) (numbers := numbers) (moved := moved) e_11) (cwV 4 hts gX8_isSo_X8_said rfl rfl rfl hd_X8_said ⟨Nat.le_of_ble_eq_true rfl, Nat.le_of_ble_eq_true rfl⟩) hK hP hD hS hA hE (q0 := 0) (ci := 8) rfl rfl rfl rfl hl.1 rfl (Nat.le_of_ble_eq_true rfl) dX8_isSo_94 ⟨Nat.zero_le _, Nat.zero_le _⟩ (fun H locs hP hD hS => ?_)
      refine lv_istore (lv' := [(6, .int u_11.1), (5, .int (items (a1 + (4 : Int32)).toNatClampNeg)), (4, .int (items (a1 + (3 : Int32)).toNatClampNeg)), (3, .int (items (a1 + (2 : Int32)).toNatClampNeg)), (2, .int (items (a1 + (1 : Int32)).toNatClampNeg)), (0, .ref h0), (1, .int a1)]) hx hb dX8_isSo_97 hl (by decide) rfl (fun ls hl => ?_)
      refine lv_goto (tgt := 132) hx hb dX8_isSo_99 (by decide) ?_
      obtain rfl := Option.some.inj h
      exact hRet hP hD hS dX8_isSo_132
    · have h := ifn c_7 h
      by_cases c_8 : (items a1.toNatClampNeg) = (12 : Int32)
      · have h := ifp c_8 h
        rw [c_8]
        refine lv_tableIn (tgt := 102) hx hb dX8_isSo_44 (by decide) (by decide) rfl (by decide) ?_
        refine lv_aload_n hx hb dX8_isSo_102 rfl (lv_at hl 4 rfl) ?_
        refine va_get (D := G) (ci := 8) (v := .ref h1) (C := RX8) (T := TX8) (N := 32) hx hb hts hin_X8 hown hK hP 0 rfl rfl 0 (by decide) fk_9 (fun _ h9 => h9) rfl dX8_isSo_103 ?_
        refine lv_iconst (v := (1 : Int32)) hx hb dX8_isSo_106 (by decide) ?_
        refine lv_iload_n hx hb dX8_isSo_107 rfl (lv_at hl 3 rfl) ?_
        refine lv_iadd hx hb dX8_isSo_108 ?_
        refine lv_iload_n hx hb dX8_isSo_109 rfl (lv_at hl 2 rfl) ?_
        obtain ⟨i_10, h⟩ := gd_some h
        refine va_iast hx hb hK hP hD hS 1 0 rfl rfl (ix_in i_10) dX8_isSo_110 (fun H locs hP hD hS => ?_)
        have hP : va_P G vwCl (wM ca ev h0 h1 h2 h3 h4 h5 h6 h7 h8 h9 h10 h11 h12 h13 h14 h15 h16 h17 (upd now ((1 : Int32) + (items (a1 + (1 : Int32)).toNatClampNeg)).toNatClampNeg (items (a1 + (2 : Int32)).toNatClampNeg)) kept isKept found order doubts doubtMany weights worn pairs isTwice doer doneTo doers tape taped begins ends sort value isWrong items itemMany bowThen doubtThen deedThen sayingThen widths sizes numbers moved) H := hP
        have hD : va_D A (wM ca ev h0 h1 h2 h3 h4 h5 h6 h7 h8 h9 h10 h11 h12 h13 h14 h15 h16 h17 (upd now ((1 : Int32) + (items (a1 + (1 : Int32)).toNatClampNeg)).toNatClampNeg (items (a1 + (2 : Int32)).toNatClampNeg)) kept isKept found order doubts doubtMany weights worn pairs isTwice doer doneTo doers tape taped begins ends sort value isWrong items itemMany bowThen doubtThen deedThen sayingThen widths sizes numbers moved) := hD
        refine lv_goto (tgt := 132) hx hb dX8_isSo_111 (by decide) ?_
        obtain rfl := Option.some.inj h
        exact hRet hP hD hS dX8_isSo_132
      · have h := ifn c_8 h
        refine lv_tableOut (tgt := 114) hx hb dX8_isSo_44 (by by_cases q : (items a1.toNatClampNeg).toInt < 10 ∨ 12 < (items a1.toNatClampNeg).toInt; exact q; exfalso; have z0 : (items a1.toNatClampNeg).toInt = 10 ∨ (items a1.toNatClampNeg).toInt = 11 ∨ (items a1.toNatClampNeg).toInt = 12 := (by omega); rcases z0 with z | z | z; exact c_6 (Int32.toInt_inj.mp (z.trans (by decide))); exact c_7 (Int32.toInt_inj.mp (z.trans (by decide))); exact c_8 (Int32.toInt_inj.mp (z.trans (by decide)))) (by decide) ?_
        refine lv_aload_n hx hb dX8_isSo_114 rfl (lv_at hl 4 rfl) ?_
        refine lv_aload_n hx hb dX8_isSo_115 rfl (lv_at hl 4 rfl) ?_
        refine va_get (D := G) (ci := 8) (v := .ref h13) (C := RX8) (T := TX8) (N := 32) hx hb hts hin_X8 hown hK hP 0 rfl rfl 22 (by decide) fk_62 (fun _ h9 => h9) rfl dX8_isSo_116 ?_
        refine lv_iload_n hx hb dX8_isSo_119 rfl (lv_at hl 5 rfl) ?_
        refine va_iald hx hb hK hP 13 0 rfl rfl (ix_in i_5) dX8_isSo_120 ?_
        refine lv_iload_n hx hb dX8_isSo_121 rfl (lv_at hl 3 rfl) ?_
        refine lv_iload_n hx hb dX8_isSo_122 rfl (lv_at hl 2 rfl) ?_
        refine lv_iload hx hb dX8_isSo_123 (lv_at hl 1 rfl) ?_
        refine lv_iload hx hb dX8_isSo_125 (lv_at hl 0 rfl) ?_
        obtain ⟨u_9, e_9, h⟩ := bd_some h
        refine cm_Vi (As := [.int (items a1.toNatClampNeg), .int (items (a1 + (1 : Int32)).toNatClampNeg), .int (items (a1 + (2 : Int32)).toNatClampNeg), .int (items (a1 + (3 : Int32)).toNatClampNeg), .int (items (a1 + (4 : Int32)).toNatClampNeg)]) (rest := []) ⟨hx, hb, hml, hown, hts⟩ (c_X8_done (ca := ca) (ev := ev) (h0 := h0) (h1 := h1) (h2 := h2) (h3 := h3) (h4 := h4) (h5 := h5) (h6 := h6) (h7 := h7) (h8 := h8) (h9 := h9) (h10 := h10) (h11 := h11) (h12 := h12) (h13 := h13) (h14 := h14) (h15 := h15) (h16 := h16) (h17 := h17) (now := now) (kept := kept) (isKept := isKept) (found := found) (order := order) (doubts := doubts) (doubtMany := doubtMany) (weights := weights) (worn := worn) (pairs := pairs) (isTwice := isTwice) (doer := doer) (doneTo := doneTo) (doers := doers) (tape := tape) (taped := taped) (begins := begins) (ends := ends) (sort := sort) (value := value) (isWrong := isWrong) (items := items) (itemMany := itemMany) (bowThen := bowThen) (doubtThen := doubtThen) (deedThen := deedThen) (sayingThen := sayingThen) (widths := widths) (sizes := sizes) (numbers := numbers) (moved := moved) e_9) (cwV 5 hts gX8_isSo_X8_done rfl rfl rfl hd_X8_done ⟨Nat.le_of_ble_eq_true rfl, Nat.le_of_ble_eq_true rfl⟩) hK hP hD hS hA hE (q0 := 0) (ci := 8) rfl rfl rfl rfl hl.1 rfl (Nat.le_of_ble_eq_true rfl) dX8_isSo_127 ⟨Nat.zero_le _, Nat.zero_le _⟩ (fun H locs hP hD hS => ?_)
        refine lv_istore (lv' := [(6, .int u_9.1), (5, .int (items (a1 + (4 : Int32)).toNatClampNeg)), (4, .int (items (a1 + (3 : Int32)).toNatClampNeg)), (3, .int (items (a1 + (2 : Int32)).toNatClampNeg)), (2, .int (items (a1 + (1 : Int32)).toNatClampNeg)), (0, .ref h0), (1, .int a1)]) hx hb dX8_isSo_130 hl (by decide) rfl (fun ls hl => ?_)
        obtain rfl := Option.some.inj h
        exact hRet hP hD hS dX8_isSo_132
abbrev rm_X8_isSheet : Room := { frames := 1, cells := 0, slots := 0, locals := 22 }
theorem hd_X8_isSheet : yX8_isSheet.cls ≠ "java/lang/invoke/MethodHandle" ∧ yX8_isSheet.cls ≠ "java/lang/invoke/VarHandle" ∧ (parseMethodDescriptor yX8_isSheet.desc).map (fun d => d.parameters.length) = some 1 := by decide +kernel
set_option maxHeartbeats 4000000 in
set_option maxRecDepth 100000 in
theorem c_X8_isSheet {l : Launch} {G : va_G} {ca : Nat → ClassId} {ev : Nat → Nat}  {a0 : Int32} {res : Int32} (h : f_X8_isSheet a0 = some res) : CtI l yX8_isSheet wsX8_isSheet rm_X8_isSheet G ca ev [.int a0] [] [] res := by
  unfold f_X8_isSheet at h
  refine en_z (by decide) rfl (Nat.le_of_ble_eq_true rfl) ?_
  intro p e s m args below meth c A Q H locs ls hx hb hml hown hts hA hP hK hD hE hS hl hRet
  have hown : s.vm.findClass RX8 = some m.cls := hown
  have hl : lv_has ls 1 [(0, .int a0)] := hl
  refine lv_iload_n hx hb dX8_isSheet_0 rfl (lv_at hl 0 rfl) ?_
  refine lv_iconst (v := (0 : Int32)) hx hb dX8_isSheet_1 (by decide) ?_
  refine lv_iconst (v := (3 : Int32)) hx hb dX8_isSheet_2 (by decide) ?_
  obtain ⟨u_1, e_1, h⟩ := bd_some h
  refine cn_Si (As := [.int a0, .int (0 : Int32), .int (3 : Int32)]) (rest := []) ⟨hx, hb, hml, hown, hts⟩ (c_X8_within e_1) (va_cwS 3 hts gX8_isSheet_X8_within rfl rfl rfl hd_X8_within ⟨Nat.le_of_ble_eq_true rfl, Nat.le_of_ble_eq_true rfl⟩) hK hP hD hS hA hE rfl hl.1 rfl (Nat.le_of_ble_eq_true rfl) dX8_isSheet_3 ⟨Nat.zero_le _, Nat.zero_le _⟩ (fun H locs hP hD hS => ?_)
  obtain ⟨z_2, h⟩ := gd_some h
  obtain rfl := Option.some.inj h
  exact hRet hP hD hS (isb_or z_2) dX8_isSheet_6
abbrev rm_X8_cutTo : Room := { frames := 0, cells := 0, slots := 0, locals := 0 }
theorem hd_X8_cutTo : yX8_cutTo.cls ≠ "java/lang/invoke/MethodHandle" ∧ yX8_cutTo.cls ≠ "java/lang/invoke/VarHandle" ∧ (parseMethodDescriptor yX8_cutTo.desc).map (fun d => d.parameters.length) = some 2 := by decide +kernel
set_option maxHeartbeats 4000000 in
set_option maxRecDepth 100000 in
theorem c_X8_cutTo {l : Launch} {G : va_G} {ca : Nat → ClassId} {ev : Nat → Nat}  {a0 : Int64} {a2 : Int32} {res : Int64} (h : f_X8_cutTo a0 a2 = some res) : CtL l yX8_cutTo wsX8_cutTo rm_X8_cutTo G ca ev [.long a0, .int a2] [] [] res := by
  unfold f_X8_cutTo at h
  refine en_l (by decide) rfl (Nat.le_of_ble_eq_true rfl) ?_
  intro p e s m args below meth c A Q H locs ls hx hb hml hown hts hA hP hK hD hE hS hl hRet
  have hown : s.vm.findClass RX8 = some m.cls := hown
  have hl : lv_has ls 3 [(0, .long a0), (2, .int a2)] := hl
  refine lv_iload_n hx hb dX8_cutTo_0 rfl (lv_at hl 1 rfl) ?_
  refine lv_bipush (v := (8 : Int32)) hx hb dX8_cutTo_1 (by decide) ?_
  refine lv_icmp_ne (tgt := 13) hx hb dX8_cutTo_3 (by decide) (fun c_1 => ?_) (fun c_1 => ?_)
  · have h := ifn c_1 h
    refine lv_iload_n hx hb dX8_cutTo_13 rfl (lv_at hl 1 rfl) ?_
    refine lv_bipush (v := (16 : Int32)) hx hb dX8_cutTo_14 (by decide) ?_
    refine lv_icmp_ne (tgt := 26) hx hb dX8_cutTo_16 (by decide) (fun c_2 => ?_) (fun c_2 => ?_)
    · have h := ifn c_2 h
      refine lv_lload_n hx hb dX8_cutTo_26 rfl (lv_at hl 0 rfl) ?_
      obtain rfl := Option.some.inj h
      exact hRet hP hD hS dX8_cutTo_27
    · have h := ifp c_2 h
      refine lv_lload_n hx hb dX8_cutTo_19 rfl (lv_at hl 0 rfl) ?_
      refine lv_l2i (v := a0.toInt32) hx hb dX8_cutTo_20 rfl ?_
      refine lv_i2s (v := a0.toInt32.toInt16.toInt32) hx hb dX8_cutTo_21 rfl ?_
      refine lv_i2l (v := a0.toInt32.toInt16.toInt32.toInt64) hx hb dX8_cutTo_22 rfl ?_
      refine lv_goto (tgt := 27) hx hb dX8_cutTo_23 (by decide) ?_
      obtain rfl := Option.some.inj h
      exact hRet hP hD hS dX8_cutTo_27
  · have h := ifp c_1 h
    refine lv_lload_n hx hb dX8_cutTo_6 rfl (lv_at hl 0 rfl) ?_
    refine lv_l2i (v := a0.toInt32) hx hb dX8_cutTo_7 rfl ?_
    refine lv_i2b (v := a0.toInt32.toInt8.toInt32) hx hb dX8_cutTo_8 rfl ?_
    refine lv_i2l (v := a0.toInt32.toInt8.toInt32.toInt64) hx hb dX8_cutTo_9 rfl ?_
    refine lv_goto (tgt := 27) hx hb dX8_cutTo_10 (by decide) ?_
    obtain rfl := Option.some.inj h
    exact hRet hP hD hS dX8_cutTo_27
abbrev rm_X8_sheet : Room := { frames := 2, cells := 0, slots := 0, locals := 42 }
theorem hd_X8_sheet : yX8_sheet.cls = RX8 ∧ yX8_sheet.cls ≠ "java/lang/invoke/MethodHandle" ∧ yX8_sheet.cls ≠ "java/lang/invoke/VarHandle" ∧ (parseMethodDescriptor yX8_sheet.desc).map (fun d => d.parameters.length) = some 3 := by decide +kernel
set_option maxHeartbeats 4000000 in
set_option maxRecDepth 100000 in
theorem c_X8_sheet {l : Launch} {G : va_G} {ca : Nat → ClassId} {ev : Nat → Nat} {h0 h1 h2 h3 h4 h5 h6 h7 h8 h9 h10 h11 h12 h13 h14 h15 h16 h17 : Nat} {now : (Nat → Int32)} {kept : (Nat → Int32)} {isKept : Int32} {found : (Nat → Int32)} {order : (Nat → Int32)} {doubts : (Nat → Int32)} {doubtMany : Int32} {weights : (Nat → Int64)} {worn : (Nat → Int32)} {pairs : Int64} {isTwice : Int32} {doer : (Nat → Int32)} {doneTo : (Nat → Int32)} {doers : (Nat → Int64)} {tape : (Nat → Int32)} {taped : Int32} {begins : Int32} {ends : Int32} {sort : Int32} {value : Int32} {isWrong : Int32} {items : (Nat → Int32)} {itemMany : Int32} {bowThen : Int32} {doubtThen : Int32} {deedThen : Int32} {sayingThen : Int32} {widths : (Nat → Int32)} {sizes : (Nat → Int32)} {numbers : (Nat → Int64)} {moved : (Nat → Int64)} {a1 : Int32} {a2 : Int32} {a3 : Int32} {N : Nat} {res : Int32 × (Nat → Int32) × (Nat → Int32) × (Nat → Int32) × (Nat → Int64)} (h : f_X8_sheet N found widths sizes numbers a1 a2 a3 = some res) : CtI l yX8_sheet wsX8_sheet rm_X8_sheet G ca ev [.ref h0, .int a1, .int a2, .int a3] (wM ca ev h0 h1 h2 h3 h4 h5 h6 h7 h8 h9 h10 h11 h12 h13 h14 h15 h16 h17 now kept isKept found order doubts doubtMany weights worn pairs isTwice doer doneTo doers tape taped begins ends sort value isWrong items itemMany bowThen doubtThen deedThen sayingThen widths sizes numbers moved) (wM ca ev h0 h1 h2 h3 h4 h5 h6 h7 h8 h9 h10 h11 h12 h13 h14 h15 h16 h17 now kept isKept res.2.1 order doubts doubtMany weights worn pairs isTwice doer doneTo doers tape taped begins ends sort value isWrong items itemMany bowThen doubtThen deedThen sayingThen res.2.2.1 res.2.2.2.1 res.2.2.2.2 moved) res.1 := by
  unfold f_X8_sheet at h
  refine en_i (by decide) rfl (Nat.le_of_ble_eq_true rfl) ?_
  intro p e s m args below meth c A Q H locs ls hx hb hml hown hts hA hP hK hD hE hS hl hRet
  have hown : s.vm.findClass RX8 = some m.cls := hown
  have hl : lv_has ls 5 [(0, .ref h0), (1, .int a1), (2, .int a2), (3, .int a3)] := hl
  have hin_X8 : ∀ w ∈ u_ws RX8 TX8 32, w ∈ wsX8_sheet := fun w h9 => List.mem_cons_of_mem _ (List.mem_append_right _ h9)
  have fk_65 := hts (.fieldLink RX8 65 "MaskBowsModel" "widths" "[I") (by decide +kernel)
  have fk_68 := hts (.fieldLink RX8 68 "MaskBowsModel" "sizes" "[I") (by decide +kernel)
  have fk_71 := hts (.fieldLink RX8 71 "MaskBowsModel" "numbers" "[J") (by decide +kernel)
  refine lv_iload_n hx hb dX8_sheet_0 rfl (lv_at hl 1 rfl) ?_
  obtain ⟨u_1, e_1, h⟩ := bd_some h
  refine cn_Si (As := [.int a1]) (rest := []) ⟨hx, hb, hml, hown, hts⟩ (c_X8_isSheet e_1) (va_cwS 1 hts gX8_sheet_X8_isSheet rfl rfl rfl hd_X8_isSheet ⟨Nat.le_of_ble_eq_true rfl, Nat.le_of_ble_eq_true rfl⟩) hK hP hD hS hA hE rfl hl.1 rfl (Nat.le_of_ble_eq_true rfl) dX8_sheet_1 ⟨Nat.zero_le _, Nat.zero_le _⟩ (fun H locs hP hD hS => ?_)
  refine lv_if_eq (tgt := 29) hx hb dX8_sheet_4 (by decide) (fun c_2 => ?_) (fun c_2 => ?_)
  · have h := ifp c_2 h
    refine lv_aload_n hx hb dX8_sheet_29 rfl (lv_at hl 0 rfl) ?_
    refine lv_ldc (v := (-1000000001 : Int32)) hx hb hown (hts (.constant RX8 77 (-1000000001)) (by decide +kernel)) dX8_sheet_30 ?_
    obtain ⟨u_3, e_3, h⟩ := bd_some h
    refine cm_Vi (As := [.int (-1000000001 : Int32)]) (rest := []) ⟨hx, hb, hml, hown, hts⟩ (c_X8_finding (ca := ca) (ev := ev) (h0 := h0) (h1 := h1) (h2 := h2) (h3 := h3) (h4 := h4) (h5 := h5) (h6 := h6) (h7 := h7) (h8 := h8) (h9 := h9) (h10 := h10) (h11 := h11) (h12 := h12) (h13 := h13) (h14 := h14) (h15 := h15) (h16 := h16) (h17 := h17) (now := now) (kept := kept) (isKept := isKept) (found := found) (order := order) (doubts := doubts) (doubtMany := doubtMany) (weights := weights) (worn := worn) (pairs := pairs) (isTwice := isTwice) (doer := doer) (doneTo := doneTo) (doers := doers) (tape := tape) (taped := taped) (begins := begins) (ends := ends) (sort := sort) (value := value) (isWrong := isWrong) (items := items) (itemMany := itemMany) (bowThen := bowThen) (doubtThen := doubtThen) (deedThen := deedThen) (sayingThen := sayingThen) (widths := widths) (sizes := sizes) (numbers := numbers) (moved := moved) e_3) (cwV 1 hts gX8_sheet_X8_finding rfl rfl rfl hd_X8_finding ⟨Nat.le_of_ble_eq_true rfl, Nat.le_of_ble_eq_true rfl⟩) hK hP hD hS hA hE (q0 := 0) (ci := 8) rfl rfl rfl rfl hl.1 rfl (Nat.le_of_ble_eq_true rfl) dX8_sheet_32 ⟨Nat.zero_le _, Nat.zero_le _⟩ (fun H locs hP hD hS => ?_)
    obtain rfl := Option.some.inj h
    exact hRet hP hD hS dX8_sheet_35
  · have h := ifn c_2 h
    refine lv_iload_n hx hb dX8_sheet_7 rfl (lv_at hl 2 rfl) ?_
    obtain ⟨K_5, eK_5, h⟩ := jn_some h
    have J_5 : ∀ {u_5 : (Nat → Int32)} {H : Heap} {locs : List Loc} {ls : Array Slot}, K_5 u_5 = some res → va_P G vwCl (wM ca ev h0 h1 h2 h3 h4 h5 h6 h7 h8 h9 h10 h11 h12 h13 h14 h15 h16 h17 now kept isKept u_5 order doubts doubtMany weights worn pairs isTwice doer doneTo doers tape taped begins ends sort value isWrong items itemMany bowThen doubtThen deedThen sayingThen widths sizes numbers moved) H → va_D A (wM ca ev h0 h1 h2 h3 h4 h5 h6 h7 h8 h9 h10 h11 h12 h13 h14 h15 h16 h17 now kept isKept u_5 order doubts doubtMany weights worn pairs isTwice doer doneTo doers tape taped begins ends sort value isWrong items itemMany bowThen doubtThen deedThen sayingThen widths sizes numbers moved) → va_S A s.heap H locs → lv_has ls 5 [(0, .ref h0), (1, .int a1), (2, .int a2), (3, .int a3)] → W p l e rm_X8_sheet s m args below meth c H locs 0 0 Q (F0 m 36 ls []) := by
      intro u_5 H locs ls h hP hD hS hl
      rw [eK_5] at h
      refine lv_iload_n hx hb dX8_sheet_36 rfl (lv_at hl 3 rfl) ?_
      refine lv_if_ge (tgt := 48) hx hb dX8_sheet_37 (by decide) (fun c_11 => ?_) (fun c_11 => ?_)
      · have h := ifp c_11 h
        refine lv_iload_n hx hb dX8_sheet_48 rfl (lv_at hl 3 rfl) ?_
        refine lv_bipush (v := (40 : Int32)) hx hb dX8_sheet_49 (by decide) ?_
        refine lv_icmp_le (tgt := 61) hx hb dX8_sheet_51 (by decide) (fun c_12 => ?_) (fun c_12 => ?_)
        · have h := ifp c_12 h
          refine lv_aload_n hx hb dX8_sheet_61 rfl (lv_at hl 0 rfl) ?_
          refine va_get (D := G) (ci := 8) (v := .ref h14) (C := RX8) (T := TX8) (N := 32) hx hb hts hin_X8 hown hK hP 0 rfl rfl 28 (by decide) fk_65 (fun _ h9 => h9) rfl dX8_sheet_62 ?_
          refine lv_iload_n hx hb dX8_sheet_65 rfl (lv_at hl 1 rfl) ?_
          refine lv_iload_n hx hb dX8_sheet_66 rfl (lv_at hl 2 rfl) ?_
          obtain ⟨i_13, h⟩ := gd_some h
          refine va_iast hx hb hK hP hD hS 14 0 rfl rfl (ix_in i_13) dX8_sheet_67 (fun H locs hP hD hS => ?_)
          have hP : va_P G vwCl (wM ca ev h0 h1 h2 h3 h4 h5 h6 h7 h8 h9 h10 h11 h12 h13 h14 h15 h16 h17 now kept isKept u_5 order doubts doubtMany weights worn pairs isTwice doer doneTo doers tape taped begins ends sort value isWrong items itemMany bowThen doubtThen deedThen sayingThen (upd widths a1.toNatClampNeg a2) sizes numbers moved) H := hP
          have hD : va_D A (wM ca ev h0 h1 h2 h3 h4 h5 h6 h7 h8 h9 h10 h11 h12 h13 h14 h15 h16 h17 now kept isKept u_5 order doubts doubtMany weights worn pairs isTwice doer doneTo doers tape taped begins ends sort value isWrong items itemMany bowThen doubtThen deedThen sayingThen (upd widths a1.toNatClampNeg a2) sizes numbers moved) := hD
          refine lv_aload_n hx hb dX8_sheet_68 rfl (lv_at hl 0 rfl) ?_
          refine va_get (D := G) (ci := 8) (v := .ref h15) (C := RX8) (T := TX8) (N := 32) hx hb hts hin_X8 hown hK hP 0 rfl rfl 29 (by decide) fk_68 (fun _ h9 => h9) rfl dX8_sheet_69 ?_
          refine lv_iload_n hx hb dX8_sheet_72 rfl (lv_at hl 1 rfl) ?_
          refine lv_iload_n hx hb dX8_sheet_73 rfl (lv_at hl 2 rfl) ?_
          obtain ⟨u_14, e_14, h⟩ := bd_some h
          have J_14 : ∀ {H : Heap} {locs : List Loc} {ls : Array Slot}, va_P G vwCl (wM ca ev h0 h1 h2 h3 h4 h5 h6 h7 h8 h9 h10 h11 h12 h13 h14 h15 h16 h17 now kept isKept u_5 order doubts doubtMany weights worn pairs isTwice doer doneTo doers tape taped begins ends sort value isWrong items itemMany bowThen doubtThen deedThen sayingThen (upd widths a1.toNatClampNeg a2) sizes numbers moved) H → va_D A (wM ca ev h0 h1 h2 h3 h4 h5 h6 h7 h8 h9 h10 h11 h12 h13 h14 h15 h16 h17 now kept isKept u_5 order doubts doubtMany weights worn pairs isTwice doer doneTo doers tape taped begins ends sort value isWrong items itemMany bowThen doubtThen deedThen sayingThen (upd widths a1.toNatClampNeg a2) sizes numbers moved) → va_S A s.heap H locs → lv_has ls 5 [(0, .ref h0), (1, .int a1)] → W p l e rm_X8_sheet s m args below meth c H locs 0 0 Q (F0 m 82 ls [.int u_14, .int a1, .ref h15]) := by
            intro H locs ls hP hD hS hl 
            refine va_iast hx hb hK hP hD hS 15 0 rfl rfl (ix_in i_13) dX8_sheet_82 (fun H locs hP hD hS => ?_)
            have hP : va_P G vwCl (wM ca ev h0 h1 h2 h3 h4 h5 h6 h7 h8 h9 h10 h11 h12 h13 h14 h15 h16 h17 now kept isKept u_5 order doubts doubtMany weights worn pairs isTwice doer doneTo doers tape taped begins ends sort value isWrong items itemMany bowThen doubtThen deedThen sayingThen (upd widths a1.toNatClampNeg a2) (upd sizes a1.toNatClampNeg u_14) numbers moved) H := hP
            have hD : va_D A (wM ca ev h0 h1 h2 h3 h4 h5 h6 h7 h8 h9 h10 h11 h12 h13 h14 h15 h16 h17 now kept isKept u_5 order doubts doubtMany weights worn pairs isTwice doer doneTo doers tape taped begins ends sort value isWrong items itemMany bowThen doubtThen deedThen sayingThen (upd widths a1.toNatClampNeg a2) (upd sizes a1.toNatClampNeg u_14) numbers moved) := hD
            refine lv_iconst (v := (0 : Int32)) hx hb dX8_sheet_83 (by decide) ?_
            refine lv_istore (lv' := [(4, .int (0 : Int32)), (0, .ref h0), (1, .int a1)]) hx hb dX8_sheet_84 hl (by decide) rfl (fun ls hl => ?_)
            have L_86 : ∀ {x1_86 : Int32}  (n_86 : Nat) {x4_86 : Int32} {numbers_86 : (Nat → Int64)} {uL_86 : (Nat → Int64)} {H : Heap} {locs : List Loc} {ls : Array Slot}, f_X8_sheet_86 x1_86  n_86 x4_86 numbers_86 = some uL_86 → va_P G vwCl (wM ca ev h0 h1 h2 h3 h4 h5 h6 h7 h8 h9 h10 h11 h12 h13 h14 h15 h16 h17 now kept isKept u_5 order doubts doubtMany weights worn pairs isTwice doer doneTo doers tape taped begins ends sort value isWrong items itemMany bowThen doubtThen deedThen sayingThen (upd widths a1.toNatClampNeg a2) (upd sizes a1.toNatClampNeg u_14) numbers_86 moved) H → va_D A (wM ca ev h0 h1 h2 h3 h4 h5 h6 h7 h8 h9 h10 h11 h12 h13 h14 h15 h16 h17 now kept isKept u_5 order doubts doubtMany weights worn pairs isTwice doer doneTo doers tape taped begins ends sort value isWrong items itemMany bowThen doubtThen deedThen sayingThen (upd widths a1.toNatClampNeg a2) (upd sizes a1.toNatClampNeg u_14) numbers_86 moved) → va_S A s.heap H locs → lv_has ls 5 [(0, .ref h0), (1, .int x1_86), (4, .int x4_86)] → (∀ {H : Heap} {locs : List Loc} {ls : Array Slot}, va_P G vwCl (wM ca ev h0 h1 h2 h3 h4 h5 h6 h7 h8 h9 h10 h11 h12 h13 h14 h15 h16 h17 now kept isKept u_5 order doubts doubtMany weights worn pairs isTwice doer doneTo doers tape taped begins ends sort value isWrong items itemMany bowThen doubtThen deedThen sayingThen (upd widths a1.toNatClampNeg a2) (upd sizes a1.toNatClampNeg u_14) uL_86 moved) H → va_D A (wM ca ev h0 h1 h2 h3 h4 h5 h6 h7 h8 h9 h10 h11 h12 h13 h14 h15 h16 h17 now kept isKept u_5 order doubts doubtMany weights worn pairs isTwice doer doneTo doers tape taped begins ends sort value isWrong items itemMany bowThen doubtThen deedThen sayingThen (upd widths a1.toNatClampNeg a2) (upd sizes a1.toNatClampNeg u_14) uL_86 moved) → va_S A s.heap H locs → lv_has ls 5 [(0, .ref h0), (1, .int x1_86)] → W p l e rm_X8_sheet s m args below meth c H locs 0 0 Q (F0 m 112 ls [])) → W p l e rm_X8_sheet s m args below meth c H locs 0 0 Q (F0 m 86 ls []) := by
              intro x1_86 n_86
              induction n_86 with
              | zero => intro x4_86 numbers_86 uL_86 H locs ls h; exact absurd h (by rw [f_X8_sheet_86]; exact fun z => nomatch z)
              | succ n_86 ih =>
                intro x4_86 numbers_86 uL_86 H locs ls h hP hD hS hl JK_86
                rw [f_X8_sheet_86] at h
                refine lv_iload hx hb dX8_sheet_86 (lv_at hl 2 rfl) ?_
                refine lv_bipush (v := (40 : Int32)) hx hb dX8_sheet_88 (by decide) ?_
                refine lv_icmp_ge (tgt := 112) hx hb dX8_sheet_90 (by decide) (fun c_15 => ?_) (fun c_15 => ?_)
                · have h := ifp c_15 h
                  obtain rfl := Option.some.inj h
                  exact JK_86 hP hD hS (lv_sub hl [0, 1] rfl)
                · have h := ifn c_15 h
                  refine lv_aload_n hx hb dX8_sheet_93 rfl (lv_at hl 0 rfl) ?_
                  refine va_get (D := G) (ci := 8) (v := .ref h16) (C := RX8) (T := TX8) (N := 32) hx hb hts hin_X8 hown hK hP 0 rfl rfl 30 (by decide) fk_71 (fun _ h9 => h9) rfl dX8_sheet_94 ?_
                  refine lv_bipush (v := (40 : Int32)) hx hb dX8_sheet_97 (by decide) ?_
                  refine lv_iload_n hx hb dX8_sheet_99 rfl (lv_at hl 1 rfl) ?_
                  refine lv_imul hx hb dX8_sheet_100 ?_
                  refine lv_iload hx hb dX8_sheet_101 (lv_at hl 2 rfl) ?_
                  refine lv_iadd hx hb dX8_sheet_103 ?_
                  refine lv_lconst (v := (0 : Int64)) hx hb dX8_sheet_104 (by decide) ?_
                  obtain ⟨i_16, h⟩ := gd_some h
                  refine va_last hx hb hK hP hD hS 16 1 rfl rfl (ix_in i_16) dX8_sheet_105 (fun H locs hP hD hS => ?_)
                  have hP : va_P G vwCl (wM ca ev h0 h1 h2 h3 h4 h5 h6 h7 h8 h9 h10 h11 h12 h13 h14 h15 h16 h17 now kept isKept u_5 order doubts doubtMany weights worn pairs isTwice doer doneTo doers tape taped begins ends sort value isWrong items itemMany bowThen doubtThen deedThen sayingThen (upd widths a1.toNatClampNeg a2) (upd sizes a1.toNatClampNeg u_14) (vp_updL numbers_86 (((40 : Int32) * x1_86) + x4_86).toNatClampNeg (0 : Int64)) moved) H := hP
                  have hD : va_D A (wM ca ev h0 h1 h2 h3 h4 h5 h6 h7 h8 h9 h10 h11 h12 h13 h14 h15 h16 h17 now kept isKept u_5 order doubts doubtMany weights worn pairs isTwice doer doneTo doers tape taped begins ends sort value isWrong items itemMany bowThen doubtThen deedThen sayingThen (upd widths a1.toNatClampNeg a2) (upd sizes a1.toNatClampNeg u_14) (vp_updL numbers_86 (((40 : Int32) * x1_86) + x4_86).toNatClampNeg (0 : Int64)) moved) := hD
                  refine lv_iinc (v := (x4_86 + (1 : Int32))) (lv' := [(4, .int (x4_86 + (1 : Int32))), (0, .ref h0), (1, .int x1_86)]) hx hb dX8_sheet_106 hl (k := 2) rfl rfl (by decide) rfl (fun ls hl => ?_)
                  refine lv_goto (tgt := 86) hx hb dX8_sheet_109 (by decide) ?_
                  exact ih h hP hD hS (lv_sub hl [1, 2, 0] rfl) JK_86
            obtain ⟨u_17, e_17, h⟩ := bd_some h
            refine L_86 _ e_17 hP hD hS (lv_sub hl [1, 2, 0] rfl) ?_
            intro H locs ls hP hD hS hl
            refine lv_aload_n hx hb dX8_sheet_112 rfl (lv_at hl 0 rfl) ?_
            refine va_get (D := G) (ci := 8) (v := .ref h15) (C := RX8) (T := TX8) (N := 32) hx hb hts hin_X8 hown hK hP 0 rfl rfl 29 (by decide) fk_68 (fun _ h9 => h9) rfl dX8_sheet_113 ?_
            refine lv_iload_n hx hb dX8_sheet_116 rfl (lv_at hl 1 rfl) ?_
            refine va_iald hx hb hK hP 15 0 rfl rfl (ix_in i_13) dX8_sheet_117 ?_
            obtain rfl := Option.some.inj h
            exact hRet hP hD hS dX8_sheet_118
          have h := e_14
          clear e_14
          refine lv_if_ne (tgt := 81) hx hb dX8_sheet_74 (by decide) (fun c_14 => ?_) (fun c_14 => ?_)
          · have h := ifn c_14 h
            refine lv_iload_n hx hb dX8_sheet_81 rfl (lv_at hl 3 rfl) ?_
            obtain rfl := Option.some.inj h
            exact J_14 hP hD hS (lv_sub hl [0, 1] rfl)
          · have h := ifp c_14 h
            refine lv_iconst (v := (0 : Int32)) hx hb dX8_sheet_77 (by decide) ?_
            refine lv_goto (tgt := 82) hx hb dX8_sheet_78 (by decide) ?_
            obtain rfl := Option.some.inj h
            exact J_14 hP hD hS (lv_sub hl [0, 1] rfl)
        · have h := ifn c_12 h
          refine lv_aload_n hx hb dX8_sheet_54 rfl (lv_at hl 0 rfl) ?_
          refine lv_ldc (v := (-1000000001 : Int32)) hx hb hown (hts (.constant RX8 77 (-1000000001)) (by decide +kernel)) dX8_sheet_55 ?_
          obtain ⟨u_18, e_18, h⟩ := bd_some h
          refine cm_Vi (As := [.int (-1000000001 : Int32)]) (rest := []) ⟨hx, hb, hml, hown, hts⟩ (c_X8_finding (ca := ca) (ev := ev) (h0 := h0) (h1 := h1) (h2 := h2) (h3 := h3) (h4 := h4) (h5 := h5) (h6 := h6) (h7 := h7) (h8 := h8) (h9 := h9) (h10 := h10) (h11 := h11) (h12 := h12) (h13 := h13) (h14 := h14) (h15 := h15) (h16 := h16) (h17 := h17) (now := now) (kept := kept) (isKept := isKept) (found := u_5) (order := order) (doubts := doubts) (doubtMany := doubtMany) (weights := weights) (worn := worn) (pairs := pairs) (isTwice := isTwice) (doer := doer) (doneTo := doneTo) (doers := doers) (tape := tape) (taped := taped) (begins := begins) (ends := ends) (sort := sort) (value := value) (isWrong := isWrong) (items := items) (itemMany := itemMany) (bowThen := bowThen) (doubtThen := doubtThen) (deedThen := deedThen) (sayingThen := sayingThen) (widths := widths) (sizes := sizes) (numbers := numbers) (moved := moved) e_18) (cwV 1 hts gX8_sheet_X8_finding rfl rfl rfl hd_X8_finding ⟨Nat.le_of_ble_eq_true rfl, Nat.le_of_ble_eq_true rfl⟩) hK hP hD hS hA hE (q0 := 0) (ci := 8) rfl rfl rfl rfl hl.1 rfl (Nat.le_of_ble_eq_true rfl) dX8_sheet_57 ⟨Nat.zero_le _, Nat.zero_le _⟩ (fun H locs hP hD hS => ?_)
          obtain rfl := Option.some.inj h
          exact hRet hP hD hS dX8_sheet_60
      · have h := ifn c_11 h
        refine lv_aload_n hx hb dX8_sheet_40 rfl (lv_at hl 0 rfl) ?_
        refine lv_ldcw (v := (-1000000007 : Int32)) hx hb hown (hts (.constant RX8 344 (-1000000007)) (by decide +kernel)) dX8_sheet_41 ?_
        obtain ⟨u_19, e_19, h⟩ := bd_some h
        refine cm_Vi (As := [.int (-1000000007 : Int32)]) (rest := []) ⟨hx, hb, hml, hown, hts⟩ (c_X8_finding (ca := ca) (ev := ev) (h0 := h0) (h1 := h1) (h2 := h2) (h3 := h3) (h4 := h4) (h5 := h5) (h6 := h6) (h7 := h7) (h8 := h8) (h9 := h9) (h10 := h10) (h11 := h11) (h12 := h12) (h13 := h13) (h14 := h14) (h15 := h15) (h16 := h16) (h17 := h17) (now := now) (kept := kept) (isKept := isKept) (found := u_5) (order := order) (doubts := doubts) (doubtMany := doubtMany) (weights := weights) (worn := worn) (pairs := pairs) (isTwice := isTwice) (doer := doer) (doneTo := doneTo) (doers := doers) (tape := tape) (taped := taped) (begins := begins) (ends := ends) (sort := sort) (value := value) (isWrong := isWrong) (items := items) (itemMany := itemMany) (bowThen := bowThen) (doubtThen := doubtThen) (deedThen := deedThen) (sayingThen := sayingThen) (widths := widths) (sizes := sizes) (numbers := numbers) (moved := moved) e_19) (cwV 1 hts gX8_sheet_X8_finding rfl rfl rfl hd_X8_finding ⟨Nat.le_of_ble_eq_true rfl, Nat.le_of_ble_eq_true rfl⟩) hK hP hD hS hA hE (q0 := 0) (ci := 8) rfl rfl rfl rfl hl.1 rfl (Nat.le_of_ble_eq_true rfl) dX8_sheet_44 ⟨Nat.zero_le _, Nat.zero_le _⟩ (fun H locs hP hD hS => ?_)
        obtain rfl := Option.some.inj h
        exact hRet hP hD hS dX8_sheet_47
    clear eK_5
    refine lv_if_eq (tgt := 36) hx hb dX8_sheet_8 (by decide) (fun c_6 => ?_) (fun c_6 => ?_)
    · have h := ifp c_6 h
      exact J_5 h hP hD hS (lv_sub hl [0, 1, 2, 3] rfl)
    · have h := ifn c_6 h
      refine lv_iload_n hx hb dX8_sheet_11 rfl (lv_at hl 2 rfl) ?_
      refine lv_bipush (v := (8 : Int32)) hx hb dX8_sheet_12 (by decide) ?_
      refine lv_icmp_eq (tgt := 36) hx hb dX8_sheet_14 (by decide) (fun c_7 => ?_) (fun c_7 => ?_)
      · have h := ifp c_7 h
        exact J_5 h hP hD hS (lv_sub hl [0, 1, 2, 3] rfl)
      · have h := ifn c_7 h
        refine lv_iload_n hx hb dX8_sheet_17 rfl (lv_at hl 2 rfl) ?_
        refine lv_bipush (v := (16 : Int32)) hx hb dX8_sheet_18 (by decide) ?_
        refine lv_icmp_eq (tgt := 36) hx hb dX8_sheet_20 (by decide) (fun c_8 => ?_) (fun c_8 => ?_)
        · have h := ifp c_8 h
          exact J_5 h hP hD hS (lv_sub hl [0, 1, 2, 3] rfl)
        · have h := ifn c_8 h
          refine lv_iload_n hx hb dX8_sheet_23 rfl (lv_at hl 2 rfl) ?_
          refine lv_bipush (v := (64 : Int32)) hx hb dX8_sheet_24 (by decide) ?_
          refine lv_icmp_eq (tgt := 36) hx hb dX8_sheet_26 (by decide) (fun c_9 => ?_) (fun c_9 => ?_)
          · have h := ifp c_9 h
            exact J_5 h hP hD hS (lv_sub hl [0, 1, 2, 3] rfl)
          · have h := ifn c_9 h
            refine lv_aload_n hx hb dX8_sheet_29 rfl (lv_at hl 0 rfl) ?_
            refine lv_ldc (v := (-1000000001 : Int32)) hx hb hown (hts (.constant RX8 77 (-1000000001)) (by decide +kernel)) dX8_sheet_30 ?_
            obtain ⟨u_10, e_10, h⟩ := bd_some h
            refine cm_Vi (As := [.int (-1000000001 : Int32)]) (rest := []) ⟨hx, hb, hml, hown, hts⟩ (c_X8_finding (ca := ca) (ev := ev) (h0 := h0) (h1 := h1) (h2 := h2) (h3 := h3) (h4 := h4) (h5 := h5) (h6 := h6) (h7 := h7) (h8 := h8) (h9 := h9) (h10 := h10) (h11 := h11) (h12 := h12) (h13 := h13) (h14 := h14) (h15 := h15) (h16 := h16) (h17 := h17) (now := now) (kept := kept) (isKept := isKept) (found := found) (order := order) (doubts := doubts) (doubtMany := doubtMany) (weights := weights) (worn := worn) (pairs := pairs) (isTwice := isTwice) (doer := doer) (doneTo := doneTo) (doers := doers) (tape := tape) (taped := taped) (begins := begins) (ends := ends) (sort := sort) (value := value) (isWrong := isWrong) (items := items) (itemMany := itemMany) (bowThen := bowThen) (doubtThen := doubtThen) (deedThen := deedThen) (sayingThen := sayingThen) (widths := widths) (sizes := sizes) (numbers := numbers) (moved := moved) e_10) (cwV 1 hts gX8_sheet_X8_finding rfl rfl rfl hd_X8_finding ⟨Nat.le_of_ble_eq_true rfl, Nat.le_of_ble_eq_true rfl⟩) hK hP hD hS hA hE (q0 := 0) (ci := 8) rfl rfl rfl rfl hl.1 rfl (Nat.le_of_ble_eq_true rfl) dX8_sheet_32 ⟨Nat.zero_le _, Nat.zero_le _⟩ (fun H locs hP hD hS => ?_)
            obtain rfl := Option.some.inj h
            exact hRet hP hD hS dX8_sheet_35
abbrev rm_X8_write : Room := { frames := 2, cells := 0, slots := 0, locals := 42 }
theorem hd_X8_write : yX8_write.cls = RX8 ∧ yX8_write.cls ≠ "java/lang/invoke/MethodHandle" ∧ yX8_write.cls ≠ "java/lang/invoke/VarHandle" ∧ (parseMethodDescriptor yX8_write.desc).map (fun d => d.parameters.length) = some 3 := by decide +kernel
set_option maxHeartbeats 4000000 in
set_option maxRecDepth 100000 in
theorem c_X8_write {l : Launch} {G : va_G} {ca : Nat → ClassId} {ev : Nat → Nat} {h0 h1 h2 h3 h4 h5 h6 h7 h8 h9 h10 h11 h12 h13 h14 h15 h16 h17 : Nat} {now : (Nat → Int32)} {kept : (Nat → Int32)} {isKept : Int32} {found : (Nat → Int32)} {order : (Nat → Int32)} {doubts : (Nat → Int32)} {doubtMany : Int32} {weights : (Nat → Int64)} {worn : (Nat → Int32)} {pairs : Int64} {isTwice : Int32} {doer : (Nat → Int32)} {doneTo : (Nat → Int32)} {doers : (Nat → Int64)} {tape : (Nat → Int32)} {taped : Int32} {begins : Int32} {ends : Int32} {sort : Int32} {value : Int32} {isWrong : Int32} {items : (Nat → Int32)} {itemMany : Int32} {bowThen : Int32} {doubtThen : Int32} {deedThen : Int32} {sayingThen : Int32} {widths : (Nat → Int32)} {sizes : (Nat → Int32)} {numbers : (Nat → Int64)} {moved : (Nat → Int64)} {a1 : Int32} {a2 : Int32} {a3 : Int64} {res : Int64 × (Nat → Int32) × (Nat → Int64)} (h : f_X8_write found widths sizes numbers a1 a2 a3 = some res) : CtL l yX8_write wsX8_write rm_X8_write G ca ev [.ref h0, .int a1, .int a2, .long a3] (wM ca ev h0 h1 h2 h3 h4 h5 h6 h7 h8 h9 h10 h11 h12 h13 h14 h15 h16 h17 now kept isKept found order doubts doubtMany weights worn pairs isTwice doer doneTo doers tape taped begins ends sort value isWrong items itemMany bowThen doubtThen deedThen sayingThen widths sizes numbers moved) (wM ca ev h0 h1 h2 h3 h4 h5 h6 h7 h8 h9 h10 h11 h12 h13 h14 h15 h16 h17 now kept isKept res.2.1 order doubts doubtMany weights worn pairs isTwice doer doneTo doers tape taped begins ends sort value isWrong items itemMany bowThen doubtThen deedThen sayingThen widths sizes res.2.2 moved) res.1 := by
  unfold f_X8_write at h
  refine en_l (by decide) rfl (Nat.le_of_ble_eq_true rfl) ?_
  intro p e s m args below meth c A Q H locs ls hx hb hml hown hts hA hP hK hD hE hS hl hRet
  have hown : s.vm.findClass RX8 = some m.cls := hown
  have hl : lv_has ls 7 [(0, .ref h0), (1, .int a1), (2, .int a2), (3, .long a3)] := hl
  have hin_X8 : ∀ w ∈ u_ws RX8 TX8 32, w ∈ wsX8_write := fun w h9 => List.mem_cons_of_mem _ (List.mem_append_right _ h9)
  have fk_65 := hts (.fieldLink RX8 65 "MaskBowsModel" "widths" "[I") (by decide +kernel)
  have fk_68 := hts (.fieldLink RX8 68 "MaskBowsModel" "sizes" "[I") (by decide +kernel)
  have fk_71 := hts (.fieldLink RX8 71 "MaskBowsModel" "numbers" "[J") (by decide +kernel)
  refine lv_iload_n hx hb dX8_write_0 rfl (lv_at hl 1 rfl) ?_
  obtain ⟨u_1, e_1, h⟩ := bd_some h
  refine cn_Si (As := [.int a1]) (rest := []) ⟨hx, hb, hml, hown, hts⟩ (c_X8_isSheet e_1) (va_cwS 1 hts gX8_write_X8_isSheet rfl rfl rfl hd_X8_isSheet ⟨Nat.le_of_ble_eq_true rfl, Nat.le_of_ble_eq_true rfl⟩) hK hP hD hS hA hE rfl hl.1 rfl (Nat.le_of_ble_eq_true rfl) dX8_write_1 ⟨Nat.zero_le _, Nat.zero_le _⟩ (fun H locs hP hD hS => ?_)
  refine lv_if_ne (tgt := 15) hx hb dX8_write_4 (by decide) (fun c_2 => ?_) (fun c_2 => ?_)
  · have h := ifn c_2 h
    refine lv_aload_n hx hb dX8_write_15 rfl (lv_at hl 0 rfl) ?_
    refine va_get (D := G) (ci := 8) (v := .ref h14) (C := RX8) (T := TX8) (N := 32) hx hb hts hin_X8 hown hK hP 0 rfl rfl 28 (by decide) fk_65 (fun _ h9 => h9) rfl dX8_write_16 ?_
    refine lv_iload_n hx hb dX8_write_19 rfl (lv_at hl 1 rfl) ?_
    obtain ⟨i_3, h⟩ := gd_some h
    refine va_iald hx hb hK hP 14 0 rfl rfl (ix_in i_3) dX8_write_20 ?_
    refine lv_if_ne (tgt := 33) hx hb dX8_write_21 (by decide) (fun c_4 => ?_) (fun c_4 => ?_)
    · have h := ifn c_4 h
      refine lv_iload_n hx hb dX8_write_33 rfl (lv_at hl 2 rfl) ?_
      refine lv_iconst (v := (0 : Int32)) hx hb dX8_write_34 (by decide) ?_
      refine lv_aload_n hx hb dX8_write_35 rfl (lv_at hl 0 rfl) ?_
      refine va_get (D := G) (ci := 8) (v := .ref h15) (C := RX8) (T := TX8) (N := 32) hx hb hts hin_X8 hown hK hP 0 rfl rfl 29 (by decide) fk_68 (fun _ h9 => h9) rfl dX8_write_36 ?_
      refine lv_iload_n hx hb dX8_write_39 rfl (lv_at hl 1 rfl) ?_
      refine va_iald hx hb hK hP 15 0 rfl rfl (ix_in i_3) dX8_write_40 ?_
      refine lv_iconst (v := (1 : Int32)) hx hb dX8_write_41 (by decide) ?_
      refine lv_isub hx hb dX8_write_42 ?_
      obtain ⟨u_5, e_5, h⟩ := bd_some h
      refine cn_Si (As := [.int a2, .int (0 : Int32), .int ((sizes a1.toNatClampNeg) - (1 : Int32))]) (rest := []) ⟨hx, hb, hml, hown, hts⟩ (c_X8_within e_5) (va_cwS 3 hts gX8_write_X8_within rfl rfl rfl hd_X8_within ⟨Nat.le_of_ble_eq_true rfl, Nat.le_of_ble_eq_true rfl⟩) hK hP hD hS hA hE rfl hl.1 rfl (Nat.le_of_ble_eq_true rfl) dX8_write_43 ⟨Nat.zero_le _, Nat.zero_le _⟩ (fun H locs hP hD hS => ?_)
      refine lv_if_ne (tgt := 57) hx hb dX8_write_46 (by decide) (fun c_6 => ?_) (fun c_6 => ?_)
      · have h := ifn c_6 h
        refine lv_aload_n hx hb dX8_write_57 rfl (lv_at hl 0 rfl) ?_
        refine va_get (D := G) (ci := 8) (v := .ref h16) (C := RX8) (T := TX8) (N := 32) hx hb hts hin_X8 hown hK hP 0 rfl rfl 30 (by decide) fk_71 (fun _ h9 => h9) rfl dX8_write_58 ?_
        refine lv_bipush (v := (40 : Int32)) hx hb dX8_write_61 (by decide) ?_
        refine lv_iload_n hx hb dX8_write_63 rfl (lv_at hl 1 rfl) ?_
        refine lv_imul hx hb dX8_write_64 ?_
        refine lv_iload_n hx hb dX8_write_65 rfl (lv_at hl 2 rfl) ?_
        refine lv_iadd hx hb dX8_write_66 ?_
        obtain ⟨i_7, h⟩ := gd_some h
        refine va_lald hx hb hK hP 16 1 rfl rfl (ix_in i_7) dX8_write_67 ?_
        refine lv_lstore (lv' := [(5, .long (numbers (((40 : Int32) * a1) + a2).toNatClampNeg)), (0, .ref h0), (1, .int a1), (2, .int a2), (3, .long a3)]) hx hb dX8_write_68 hl (by decide) rfl (fun ls hl => ?_)
        refine lv_aload_n hx hb dX8_write_70 rfl (lv_at hl 1 rfl) ?_
        refine va_get (D := G) (ci := 8) (v := .ref h16) (C := RX8) (T := TX8) (N := 32) hx hb hts hin_X8 hown hK hP 0 rfl rfl 30 (by decide) fk_71 (fun _ h9 => h9) rfl dX8_write_71 ?_
        refine lv_bipush (v := (40 : Int32)) hx hb dX8_write_74 (by decide) ?_
        refine lv_iload_n hx hb dX8_write_76 rfl (lv_at hl 2 rfl) ?_
        refine lv_imul hx hb dX8_write_77 ?_
        refine lv_iload_n hx hb dX8_write_78 rfl (lv_at hl 3 rfl) ?_
        refine lv_iadd hx hb dX8_write_79 ?_
        refine lv_lload_n hx hb dX8_write_80 rfl (lv_at hl 4 rfl) ?_
        refine lv_aload_n hx hb dX8_write_81 rfl (lv_at hl 1 rfl) ?_
        refine va_get (D := G) (ci := 8) (v := .ref h14) (C := RX8) (T := TX8) (N := 32) hx hb hts hin_X8 hown hK hP 0 rfl rfl 28 (by decide) fk_65 (fun _ h9 => h9) rfl dX8_write_82 ?_
        refine lv_iload_n hx hb dX8_write_85 rfl (lv_at hl 2 rfl) ?_
        refine va_iald hx hb hK hP 14 0 rfl rfl (ix_in i_3) dX8_write_86 ?_
        obtain ⟨u_8, e_8, h⟩ := bd_some h
        refine cn_Sl (As := [.long a3, .int (widths a1.toNatClampNeg)]) (rest := [.int (((40 : Int32) * a1) + a2), .ref h16]) ⟨hx, hb, hml, hown, hts⟩ (c_X8_cutTo e_8) (va_cwS 2 hts gX8_write_X8_cutTo rfl rfl rfl hd_X8_cutTo ⟨Nat.le_of_ble_eq_true rfl, Nat.le_of_ble_eq_true rfl⟩) hK hP hD hS hA hE rfl hl.1 rfl (Nat.le_of_ble_eq_true rfl) dX8_write_87 ⟨Nat.zero_le _, Nat.zero_le _⟩ (fun H locs hP hD hS => ?_)
        refine va_last hx hb hK hP hD hS 16 1 rfl rfl (ix_in i_7) dX8_write_90 (fun H locs hP hD hS => ?_)
        have hP : va_P G vwCl (wM ca ev h0 h1 h2 h3 h4 h5 h6 h7 h8 h9 h10 h11 h12 h13 h14 h15 h16 h17 now kept isKept found order doubts doubtMany weights worn pairs isTwice doer doneTo doers tape taped begins ends sort value isWrong items itemMany bowThen doubtThen deedThen sayingThen widths sizes (vp_updL numbers (((40 : Int32) * a1) + a2).toNatClampNeg u_8) moved) H := hP
        have hD : va_D A (wM ca ev h0 h1 h2 h3 h4 h5 h6 h7 h8 h9 h10 h11 h12 h13 h14 h15 h16 h17 now kept isKept found order doubts doubtMany weights worn pairs isTwice doer doneTo doers tape taped begins ends sort value isWrong items itemMany bowThen doubtThen deedThen sayingThen widths sizes (vp_updL numbers (((40 : Int32) * a1) + a2).toNatClampNeg u_8) moved) := hD
        refine lv_lload hx hb dX8_write_91 (lv_at hl 0 rfl) ?_
        obtain rfl := Option.some.inj h
        exact hRet hP hD hS dX8_write_93
      · have h := ifp c_6 h
        refine lv_aload_n hx hb dX8_write_49 rfl (lv_at hl 0 rfl) ?_
        refine lv_ldc (v := (-1000000001 : Int32)) hx hb hown (hts (.constant RX8 77 (-1000000001)) (by decide +kernel)) dX8_write_50 ?_
        obtain ⟨u_9, e_9, h⟩ := bd_some h
        refine cm_Vi (As := [.int (-1000000001 : Int32)]) (rest := []) ⟨hx, hb, hml, hown, hts⟩ (c_X8_finding (ca := ca) (ev := ev) (h0 := h0) (h1 := h1) (h2 := h2) (h3 := h3) (h4 := h4) (h5 := h5) (h6 := h6) (h7 := h7) (h8 := h8) (h9 := h9) (h10 := h10) (h11 := h11) (h12 := h12) (h13 := h13) (h14 := h14) (h15 := h15) (h16 := h16) (h17 := h17) (now := now) (kept := kept) (isKept := isKept) (found := found) (order := order) (doubts := doubts) (doubtMany := doubtMany) (weights := weights) (worn := worn) (pairs := pairs) (isTwice := isTwice) (doer := doer) (doneTo := doneTo) (doers := doers) (tape := tape) (taped := taped) (begins := begins) (ends := ends) (sort := sort) (value := value) (isWrong := isWrong) (items := items) (itemMany := itemMany) (bowThen := bowThen) (doubtThen := doubtThen) (deedThen := deedThen) (sayingThen := sayingThen) (widths := widths) (sizes := sizes) (numbers := numbers) (moved := moved) e_9) (cwV 1 hts gX8_write_X8_finding rfl rfl rfl hd_X8_finding ⟨Nat.le_of_ble_eq_true rfl, Nat.le_of_ble_eq_true rfl⟩) hK hP hD hS hA hE (q0 := 0) (ci := 8) rfl rfl rfl rfl hl.1 rfl (Nat.le_of_ble_eq_true rfl) dX8_write_52 ⟨Nat.zero_le _, Nat.zero_le _⟩ (fun H locs hP hD hS => ?_)
        refine lv_i2l (v := u_9.1.toInt64) hx hb dX8_write_55 rfl ?_
        obtain rfl := Option.some.inj h
        exact hRet hP hD hS dX8_write_56
    · have h := ifp c_4 h
      refine lv_aload_n hx hb dX8_write_24 rfl (lv_at hl 0 rfl) ?_
      refine lv_ldcw (v := (-1000000006 : Int32)) hx hb hown (hts (.constant RX8 345 (-1000000006)) (by decide +kernel)) dX8_write_25 ?_
      obtain ⟨u_10, e_10, h⟩ := bd_some h
      refine cm_Vi (As := [.int (-1000000006 : Int32)]) (rest := []) ⟨hx, hb, hml, hown, hts⟩ (c_X8_finding (ca := ca) (ev := ev) (h0 := h0) (h1 := h1) (h2 := h2) (h3 := h3) (h4 := h4) (h5 := h5) (h6 := h6) (h7 := h7) (h8 := h8) (h9 := h9) (h10 := h10) (h11 := h11) (h12 := h12) (h13 := h13) (h14 := h14) (h15 := h15) (h16 := h16) (h17 := h17) (now := now) (kept := kept) (isKept := isKept) (found := found) (order := order) (doubts := doubts) (doubtMany := doubtMany) (weights := weights) (worn := worn) (pairs := pairs) (isTwice := isTwice) (doer := doer) (doneTo := doneTo) (doers := doers) (tape := tape) (taped := taped) (begins := begins) (ends := ends) (sort := sort) (value := value) (isWrong := isWrong) (items := items) (itemMany := itemMany) (bowThen := bowThen) (doubtThen := doubtThen) (deedThen := deedThen) (sayingThen := sayingThen) (widths := widths) (sizes := sizes) (numbers := numbers) (moved := moved) e_10) (cwV 1 hts gX8_write_X8_finding rfl rfl rfl hd_X8_finding ⟨Nat.le_of_ble_eq_true rfl, Nat.le_of_ble_eq_true rfl⟩) hK hP hD hS hA hE (q0 := 0) (ci := 8) rfl rfl rfl rfl hl.1 rfl (Nat.le_of_ble_eq_true rfl) dX8_write_28 ⟨Nat.zero_le _, Nat.zero_le _⟩ (fun H locs hP hD hS => ?_)
      refine lv_i2l (v := u_10.1.toInt64) hx hb dX8_write_31 rfl ?_
      obtain rfl := Option.some.inj h
      exact hRet hP hD hS dX8_write_32
  · have h := ifp c_2 h
    refine lv_aload_n hx hb dX8_write_7 rfl (lv_at hl 0 rfl) ?_
    refine lv_ldc (v := (-1000000001 : Int32)) hx hb hown (hts (.constant RX8 77 (-1000000001)) (by decide +kernel)) dX8_write_8 ?_
    obtain ⟨u_11, e_11, h⟩ := bd_some h
    refine cm_Vi (As := [.int (-1000000001 : Int32)]) (rest := []) ⟨hx, hb, hml, hown, hts⟩ (c_X8_finding (ca := ca) (ev := ev) (h0 := h0) (h1 := h1) (h2 := h2) (h3 := h3) (h4 := h4) (h5 := h5) (h6 := h6) (h7 := h7) (h8 := h8) (h9 := h9) (h10 := h10) (h11 := h11) (h12 := h12) (h13 := h13) (h14 := h14) (h15 := h15) (h16 := h16) (h17 := h17) (now := now) (kept := kept) (isKept := isKept) (found := found) (order := order) (doubts := doubts) (doubtMany := doubtMany) (weights := weights) (worn := worn) (pairs := pairs) (isTwice := isTwice) (doer := doer) (doneTo := doneTo) (doers := doers) (tape := tape) (taped := taped) (begins := begins) (ends := ends) (sort := sort) (value := value) (isWrong := isWrong) (items := items) (itemMany := itemMany) (bowThen := bowThen) (doubtThen := doubtThen) (deedThen := deedThen) (sayingThen := sayingThen) (widths := widths) (sizes := sizes) (numbers := numbers) (moved := moved) e_11) (cwV 1 hts gX8_write_X8_finding rfl rfl rfl hd_X8_finding ⟨Nat.le_of_ble_eq_true rfl, Nat.le_of_ble_eq_true rfl⟩) hK hP hD hS hA hE (q0 := 0) (ci := 8) rfl rfl rfl rfl hl.1 rfl (Nat.le_of_ble_eq_true rfl) dX8_write_10 ⟨Nat.zero_le _, Nat.zero_le _⟩ (fun H locs hP hD hS => ?_)
    refine lv_i2l (v := u_11.1.toInt64) hx hb dX8_write_13 rfl ?_
    obtain rfl := Option.some.inj h
    exact hRet hP hD hS dX8_write_14
abbrev rm_X8_copy : Room := { frames := 2, cells := 0, slots := 0, locals := 42 }
theorem hd_X8_copy : yX8_copy.cls = RX8 ∧ yX8_copy.cls ≠ "java/lang/invoke/MethodHandle" ∧ yX8_copy.cls ≠ "java/lang/invoke/VarHandle" ∧ (parseMethodDescriptor yX8_copy.desc).map (fun d => d.parameters.length) = some 5 := by decide +kernel
set_option maxHeartbeats 4000000 in
set_option maxRecDepth 100000 in
theorem c_X8_copy {l : Launch} {G : va_G} {ca : Nat → ClassId} {ev : Nat → Nat} {h0 h1 h2 h3 h4 h5 h6 h7 h8 h9 h10 h11 h12 h13 h14 h15 h16 h17 : Nat} {now : (Nat → Int32)} {kept : (Nat → Int32)} {isKept : Int32} {found : (Nat → Int32)} {order : (Nat → Int32)} {doubts : (Nat → Int32)} {doubtMany : Int32} {weights : (Nat → Int64)} {worn : (Nat → Int32)} {pairs : Int64} {isTwice : Int32} {doer : (Nat → Int32)} {doneTo : (Nat → Int32)} {doers : (Nat → Int64)} {tape : (Nat → Int32)} {taped : Int32} {begins : Int32} {ends : Int32} {sort : Int32} {value : Int32} {isWrong : Int32} {items : (Nat → Int32)} {itemMany : Int32} {bowThen : Int32} {doubtThen : Int32} {deedThen : Int32} {sayingThen : Int32} {widths : (Nat → Int32)} {sizes : (Nat → Int32)} {numbers : (Nat → Int64)} {moved : (Nat → Int64)} {a1 : Int32} {a2 : Int32} {a3 : Int32} {a4 : Int32} {a5 : Int32} {N : Nat} {res : Int32 × (Nat → Int32) × (Nat → Int64) × (Nat → Int64)} (h : f_X8_copy N found widths sizes numbers moved a1 a2 a3 a4 a5 = some res) : CtI l yX8_copy wsX8_copy rm_X8_copy G ca ev [.ref h0, .int a1, .int a2, .int a3, .int a4, .int a5] (wM ca ev h0 h1 h2 h3 h4 h5 h6 h7 h8 h9 h10 h11 h12 h13 h14 h15 h16 h17 now kept isKept found order doubts doubtMany weights worn pairs isTwice doer doneTo doers tape taped begins ends sort value isWrong items itemMany bowThen doubtThen deedThen sayingThen widths sizes numbers moved) (wM ca ev h0 h1 h2 h3 h4 h5 h6 h7 h8 h9 h10 h11 h12 h13 h14 h15 h16 h17 now kept isKept res.2.1 order doubts doubtMany weights worn pairs isTwice doer doneTo doers tape taped begins ends sort value isWrong items itemMany bowThen doubtThen deedThen sayingThen widths sizes res.2.2.1 res.2.2.2) res.1 := by
  unfold f_X8_copy at h
  refine en_i (by decide) rfl (Nat.le_of_ble_eq_true rfl) ?_
  intro p e s m args below meth c A Q H locs ls hx hb hml hown hts hA hP hK hD hE hS hl hRet
  have hown : s.vm.findClass RX8 = some m.cls := hown
  have hl : lv_has ls 7 [(0, .ref h0), (1, .int a1), (2, .int a2), (3, .int a3), (4, .int a4), (5, .int a5)] := hl
  have hin_X8 : ∀ w ∈ u_ws RX8 TX8 32, w ∈ wsX8_copy := fun w h9 => List.mem_cons_of_mem _ (List.mem_append_right _ h9)
  have fk_65 := hts (.fieldLink RX8 65 "MaskBowsModel" "widths" "[I") (by decide +kernel)
  have fk_68 := hts (.fieldLink RX8 68 "MaskBowsModel" "sizes" "[I") (by decide +kernel)
  have fk_71 := hts (.fieldLink RX8 71 "MaskBowsModel" "numbers" "[J") (by decide +kernel)
  have fk_74 := hts (.fieldLink RX8 74 "MaskBowsModel" "moved" "[J") (by decide +kernel)
  refine lv_iload_n hx hb dX8_copy_0 rfl (lv_at hl 1 rfl) ?_
  obtain ⟨u_1, e_1, h⟩ := bd_some h
  refine cn_Si (As := [.int a1]) (rest := []) ⟨hx, hb, hml, hown, hts⟩ (c_X8_isSheet e_1) (va_cwS 1 hts gX8_copy_X8_isSheet rfl rfl rfl hd_X8_isSheet ⟨Nat.le_of_ble_eq_true rfl, Nat.le_of_ble_eq_true rfl⟩) hK hP hD hS hA hE rfl hl.1 rfl (Nat.le_of_ble_eq_true rfl) dX8_copy_1 ⟨Nat.zero_le _, Nat.zero_le _⟩ (fun H locs hP hD hS => ?_)
  refine lv_if_eq (tgt := 14) hx hb dX8_copy_4 (by decide) (fun c_2 => ?_) (fun c_2 => ?_)
  · have h := ifp c_2 h
    refine lv_aload_n hx hb dX8_copy_14 rfl (lv_at hl 0 rfl) ?_
    refine lv_ldc (v := (-1000000001 : Int32)) hx hb hown (hts (.constant RX8 77 (-1000000001)) (by decide +kernel)) dX8_copy_15 ?_
    obtain ⟨u_3, e_3, h⟩ := bd_some h
    refine cm_Vi (As := [.int (-1000000001 : Int32)]) (rest := []) ⟨hx, hb, hml, hown, hts⟩ (c_X8_finding (ca := ca) (ev := ev) (h0 := h0) (h1 := h1) (h2 := h2) (h3 := h3) (h4 := h4) (h5 := h5) (h6 := h6) (h7 := h7) (h8 := h8) (h9 := h9) (h10 := h10) (h11 := h11) (h12 := h12) (h13 := h13) (h14 := h14) (h15 := h15) (h16 := h16) (h17 := h17) (now := now) (kept := kept) (isKept := isKept) (found := found) (order := order) (doubts := doubts) (doubtMany := doubtMany) (weights := weights) (worn := worn) (pairs := pairs) (isTwice := isTwice) (doer := doer) (doneTo := doneTo) (doers := doers) (tape := tape) (taped := taped) (begins := begins) (ends := ends) (sort := sort) (value := value) (isWrong := isWrong) (items := items) (itemMany := itemMany) (bowThen := bowThen) (doubtThen := doubtThen) (deedThen := deedThen) (sayingThen := sayingThen) (widths := widths) (sizes := sizes) (numbers := numbers) (moved := moved) e_3) (cwV 1 hts gX8_copy_X8_finding rfl rfl rfl hd_X8_finding ⟨Nat.le_of_ble_eq_true rfl, Nat.le_of_ble_eq_true rfl⟩) hK hP hD hS hA hE (q0 := 0) (ci := 8) rfl rfl rfl rfl hl.1 rfl (Nat.le_of_ble_eq_true rfl) dX8_copy_17 ⟨Nat.zero_le _, Nat.zero_le _⟩ (fun H locs hP hD hS => ?_)
    obtain rfl := Option.some.inj h
    exact hRet hP hD hS dX8_copy_20
  · have h := ifn c_2 h
    refine lv_iload_n hx hb dX8_copy_7 rfl (lv_at hl 3 rfl) ?_
    obtain ⟨u_4, e_4, h⟩ := bd_some h
    refine cn_Si (As := [.int a3]) (rest := []) ⟨hx, hb, hml, hown, hts⟩ (c_X8_isSheet e_4) (va_cwS 1 hts gX8_copy_X8_isSheet rfl rfl rfl hd_X8_isSheet ⟨Nat.le_of_ble_eq_true rfl, Nat.le_of_ble_eq_true rfl⟩) hK hP hD hS hA hE rfl hl.1 rfl (Nat.le_of_ble_eq_true rfl) dX8_copy_8 ⟨Nat.zero_le _, Nat.zero_le _⟩ (fun H locs hP hD hS => ?_)
    refine lv_if_ne (tgt := 21) hx hb dX8_copy_11 (by decide) (fun c_5 => ?_) (fun c_5 => ?_)
    · have h := ifn c_5 h
      refine lv_aload_n hx hb dX8_copy_21 rfl (lv_at hl 0 rfl) ?_
      refine va_get (D := G) (ci := 8) (v := .ref h14) (C := RX8) (T := TX8) (N := 32) hx hb hts hin_X8 hown hK hP 0 rfl rfl 28 (by decide) fk_65 (fun _ h9 => h9) rfl dX8_copy_22 ?_
      refine lv_iload_n hx hb dX8_copy_25 rfl (lv_at hl 1 rfl) ?_
      obtain ⟨i_6, h⟩ := gd_some h
      refine va_iald hx hb hK hP 14 0 rfl rfl (ix_in i_6) dX8_copy_26 ?_
      refine lv_if_eq (tgt := 39) hx hb dX8_copy_27 (by decide) (fun c_7 => ?_) (fun c_7 => ?_)
      · have h := ifp c_7 h
        refine lv_aload_n hx hb dX8_copy_39 rfl (lv_at hl 0 rfl) ?_
        refine lv_ldcw (v := (-1000000006 : Int32)) hx hb hown (hts (.constant RX8 345 (-1000000006)) (by decide +kernel)) dX8_copy_40 ?_
        obtain ⟨u_8, e_8, h⟩ := bd_some h
        refine cm_Vi (As := [.int (-1000000006 : Int32)]) (rest := []) ⟨hx, hb, hml, hown, hts⟩ (c_X8_finding (ca := ca) (ev := ev) (h0 := h0) (h1 := h1) (h2 := h2) (h3 := h3) (h4 := h4) (h5 := h5) (h6 := h6) (h7 := h7) (h8 := h8) (h9 := h9) (h10 := h10) (h11 := h11) (h12 := h12) (h13 := h13) (h14 := h14) (h15 := h15) (h16 := h16) (h17 := h17) (now := now) (kept := kept) (isKept := isKept) (found := found) (order := order) (doubts := doubts) (doubtMany := doubtMany) (weights := weights) (worn := worn) (pairs := pairs) (isTwice := isTwice) (doer := doer) (doneTo := doneTo) (doers := doers) (tape := tape) (taped := taped) (begins := begins) (ends := ends) (sort := sort) (value := value) (isWrong := isWrong) (items := items) (itemMany := itemMany) (bowThen := bowThen) (doubtThen := doubtThen) (deedThen := deedThen) (sayingThen := sayingThen) (widths := widths) (sizes := sizes) (numbers := numbers) (moved := moved) e_8) (cwV 1 hts gX8_copy_X8_finding rfl rfl rfl hd_X8_finding ⟨Nat.le_of_ble_eq_true rfl, Nat.le_of_ble_eq_true rfl⟩) hK hP hD hS hA hE (q0 := 0) (ci := 8) rfl rfl rfl rfl hl.1 rfl (Nat.le_of_ble_eq_true rfl) dX8_copy_43 ⟨Nat.zero_le _, Nat.zero_le _⟩ (fun H locs hP hD hS => ?_)
        obtain rfl := Option.some.inj h
        exact hRet hP hD hS dX8_copy_46
      · have h := ifn c_7 h
        refine lv_aload_n hx hb dX8_copy_30 rfl (lv_at hl 0 rfl) ?_
        refine va_get (D := G) (ci := 8) (v := .ref h14) (C := RX8) (T := TX8) (N := 32) hx hb hts hin_X8 hown hK hP 0 rfl rfl 28 (by decide) fk_65 (fun _ h9 => h9) rfl dX8_copy_31 ?_
        refine lv_iload_n hx hb dX8_copy_34 rfl (lv_at hl 3 rfl) ?_
        obtain ⟨i_9, h⟩ := gd_some h
        refine va_iald hx hb hK hP 14 0 rfl rfl (ix_in i_9) dX8_copy_35 ?_
        refine lv_if_ne (tgt := 47) hx hb dX8_copy_36 (by decide) (fun c_10 => ?_) (fun c_10 => ?_)
        · have h := ifn c_10 h
          refine lv_aload_n hx hb dX8_copy_47 rfl (lv_at hl 0 rfl) ?_
          refine va_get (D := G) (ci := 8) (v := .ref h14) (C := RX8) (T := TX8) (N := 32) hx hb hts hin_X8 hown hK hP 0 rfl rfl 28 (by decide) fk_65 (fun _ h9 => h9) rfl dX8_copy_48 ?_
          refine lv_iload_n hx hb dX8_copy_51 rfl (lv_at hl 1 rfl) ?_
          refine va_iald hx hb hK hP 14 0 rfl rfl (ix_in i_6) dX8_copy_52 ?_
          refine lv_aload_n hx hb dX8_copy_53 rfl (lv_at hl 0 rfl) ?_
          refine va_get (D := G) (ci := 8) (v := .ref h14) (C := RX8) (T := TX8) (N := 32) hx hb hts hin_X8 hown hK hP 0 rfl rfl 28 (by decide) fk_65 (fun _ h9 => h9) rfl dX8_copy_54 ?_
          refine lv_iload_n hx hb dX8_copy_57 rfl (lv_at hl 3 rfl) ?_
          refine va_iald hx hb hK hP 14 0 rfl rfl (ix_in i_9) dX8_copy_58 ?_
          refine lv_icmp_eq (tgt := 69) hx hb dX8_copy_59 (by decide) (fun c_11 => ?_) (fun c_11 => ?_)
          · have h := ifp c_11 h
            refine lv_iload_n hx hb dX8_copy_69 rfl (lv_at hl 2 rfl) ?_
            refine lv_if_lt (tgt := 118) hx hb dX8_copy_70 (by decide) (fun c_12 => ?_) (fun c_12 => ?_)
            · have h := ifp c_12 h
              refine lv_aload_n hx hb dX8_copy_118 rfl (lv_at hl 0 rfl) ?_
              refine lv_ldc (v := (-1000000001 : Int32)) hx hb hown (hts (.constant RX8 77 (-1000000001)) (by decide +kernel)) dX8_copy_119 ?_
              obtain ⟨u_13, e_13, h⟩ := bd_some h
              refine cm_Vi (As := [.int (-1000000001 : Int32)]) (rest := []) ⟨hx, hb, hml, hown, hts⟩ (c_X8_finding (ca := ca) (ev := ev) (h0 := h0) (h1 := h1) (h2 := h2) (h3 := h3) (h4 := h4) (h5 := h5) (h6 := h6) (h7 := h7) (h8 := h8) (h9 := h9) (h10 := h10) (h11 := h11) (h12 := h12) (h13 := h13) (h14 := h14) (h15 := h15) (h16 := h16) (h17 := h17) (now := now) (kept := kept) (isKept := isKept) (found := found) (order := order) (doubts := doubts) (doubtMany := doubtMany) (weights := weights) (worn := worn) (pairs := pairs) (isTwice := isTwice) (doer := doer) (doneTo := doneTo) (doers := doers) (tape := tape) (taped := taped) (begins := begins) (ends := ends) (sort := sort) (value := value) (isWrong := isWrong) (items := items) (itemMany := itemMany) (bowThen := bowThen) (doubtThen := doubtThen) (deedThen := deedThen) (sayingThen := sayingThen) (widths := widths) (sizes := sizes) (numbers := numbers) (moved := moved) e_13) (cwV 1 hts gX8_copy_X8_finding rfl rfl rfl hd_X8_finding ⟨Nat.le_of_ble_eq_true rfl, Nat.le_of_ble_eq_true rfl⟩) hK hP hD hS hA hE (q0 := 0) (ci := 8) rfl rfl rfl rfl hl.1 rfl (Nat.le_of_ble_eq_true rfl) dX8_copy_121 ⟨Nat.zero_le _, Nat.zero_le _⟩ (fun H locs hP hD hS => ?_)
              obtain rfl := Option.some.inj h
              exact hRet hP hD hS dX8_copy_124
            · have h := ifn c_12 h
              refine lv_iload hx hb dX8_copy_73 (lv_at hl 4 rfl) ?_
              refine lv_if_lt (tgt := 118) hx hb dX8_copy_75 (by decide) (fun c_14 => ?_) (fun c_14 => ?_)
              · have h := ifp c_14 h
                refine lv_aload_n hx hb dX8_copy_118 rfl (lv_at hl 0 rfl) ?_
                refine lv_ldc (v := (-1000000001 : Int32)) hx hb hown (hts (.constant RX8 77 (-1000000001)) (by decide +kernel)) dX8_copy_119 ?_
                obtain ⟨u_15, e_15, h⟩ := bd_some h
                refine cm_Vi (As := [.int (-1000000001 : Int32)]) (rest := []) ⟨hx, hb, hml, hown, hts⟩ (c_X8_finding (ca := ca) (ev := ev) (h0 := h0) (h1 := h1) (h2 := h2) (h3 := h3) (h4 := h4) (h5 := h5) (h6 := h6) (h7 := h7) (h8 := h8) (h9 := h9) (h10 := h10) (h11 := h11) (h12 := h12) (h13 := h13) (h14 := h14) (h15 := h15) (h16 := h16) (h17 := h17) (now := now) (kept := kept) (isKept := isKept) (found := found) (order := order) (doubts := doubts) (doubtMany := doubtMany) (weights := weights) (worn := worn) (pairs := pairs) (isTwice := isTwice) (doer := doer) (doneTo := doneTo) (doers := doers) (tape := tape) (taped := taped) (begins := begins) (ends := ends) (sort := sort) (value := value) (isWrong := isWrong) (items := items) (itemMany := itemMany) (bowThen := bowThen) (doubtThen := doubtThen) (deedThen := deedThen) (sayingThen := sayingThen) (widths := widths) (sizes := sizes) (numbers := numbers) (moved := moved) e_15) (cwV 1 hts gX8_copy_X8_finding rfl rfl rfl hd_X8_finding ⟨Nat.le_of_ble_eq_true rfl, Nat.le_of_ble_eq_true rfl⟩) hK hP hD hS hA hE (q0 := 0) (ci := 8) rfl rfl rfl rfl hl.1 rfl (Nat.le_of_ble_eq_true rfl) dX8_copy_121 ⟨Nat.zero_le _, Nat.zero_le _⟩ (fun H locs hP hD hS => ?_)
                obtain rfl := Option.some.inj h
                exact hRet hP hD hS dX8_copy_124
              · have h := ifn c_14 h
                refine lv_iload hx hb dX8_copy_78 (lv_at hl 5 rfl) ?_
                refine lv_if_lt (tgt := 118) hx hb dX8_copy_80 (by decide) (fun c_16 => ?_) (fun c_16 => ?_)
                · have h := ifp c_16 h
                  refine lv_aload_n hx hb dX8_copy_118 rfl (lv_at hl 0 rfl) ?_
                  refine lv_ldc (v := (-1000000001 : Int32)) hx hb hown (hts (.constant RX8 77 (-1000000001)) (by decide +kernel)) dX8_copy_119 ?_
                  obtain ⟨u_17, e_17, h⟩ := bd_some h
                  refine cm_Vi (As := [.int (-1000000001 : Int32)]) (rest := []) ⟨hx, hb, hml, hown, hts⟩ (c_X8_finding (ca := ca) (ev := ev) (h0 := h0) (h1 := h1) (h2 := h2) (h3 := h3) (h4 := h4) (h5 := h5) (h6 := h6) (h7 := h7) (h8 := h8) (h9 := h9) (h10 := h10) (h11 := h11) (h12 := h12) (h13 := h13) (h14 := h14) (h15 := h15) (h16 := h16) (h17 := h17) (now := now) (kept := kept) (isKept := isKept) (found := found) (order := order) (doubts := doubts) (doubtMany := doubtMany) (weights := weights) (worn := worn) (pairs := pairs) (isTwice := isTwice) (doer := doer) (doneTo := doneTo) (doers := doers) (tape := tape) (taped := taped) (begins := begins) (ends := ends) (sort := sort) (value := value) (isWrong := isWrong) (items := items) (itemMany := itemMany) (bowThen := bowThen) (doubtThen := doubtThen) (deedThen := deedThen) (sayingThen := sayingThen) (widths := widths) (sizes := sizes) (numbers := numbers) (moved := moved) e_17) (cwV 1 hts gX8_copy_X8_finding rfl rfl rfl hd_X8_finding ⟨Nat.le_of_ble_eq_true rfl, Nat.le_of_ble_eq_true rfl⟩) hK hP hD hS hA hE (q0 := 0) (ci := 8) rfl rfl rfl rfl hl.1 rfl (Nat.le_of_ble_eq_true rfl) dX8_copy_121 ⟨Nat.zero_le _, Nat.zero_le _⟩ (fun H locs hP hD hS => ?_)
                  obtain rfl := Option.some.inj h
                  exact hRet hP hD hS dX8_copy_124
                · have h := ifn c_16 h
                  refine lv_iload_n hx hb dX8_copy_83 rfl (lv_at hl 2 rfl) ?_
                  refine lv_i2l (v := a2.toInt64) hx hb dX8_copy_84 rfl ?_
                  refine lv_iload hx hb dX8_copy_85 (lv_at hl 5 rfl) ?_
                  refine lv_i2l (v := a5.toInt64) hx hb dX8_copy_87 rfl ?_
                  refine lv_ladd hx hb dX8_copy_88 ?_
                  refine lv_aload_n hx hb dX8_copy_89 rfl (lv_at hl 0 rfl) ?_
                  refine va_get (D := G) (ci := 8) (v := .ref h15) (C := RX8) (T := TX8) (N := 32) hx hb hts hin_X8 hown hK hP 0 rfl rfl 29 (by decide) fk_68 (fun _ h9 => h9) rfl dX8_copy_90 ?_
                  refine lv_iload_n hx hb dX8_copy_93 rfl (lv_at hl 1 rfl) ?_
                  refine va_iald hx hb hK hP 15 0 rfl rfl (ix_in i_6) dX8_copy_94 ?_
                  refine lv_i2l (v := (sizes a1.toNatClampNeg).toInt64) hx hb dX8_copy_95 rfl ?_
                  refine W.lcmp hx hb dX8_copy_96 ?_
                  refine lv_if_gt (tgt := 118) hx hb dX8_copy_97 (by decide) (fun c_18 => ?_) (fun c_18 => ?_)
                  · have h := ifp c_18 h
                    refine lv_aload_n hx hb dX8_copy_118 rfl (lv_at hl 0 rfl) ?_
                    refine lv_ldc (v := (-1000000001 : Int32)) hx hb hown (hts (.constant RX8 77 (-1000000001)) (by decide +kernel)) dX8_copy_119 ?_
                    obtain ⟨u_19, e_19, h⟩ := bd_some h
                    refine cm_Vi (As := [.int (-1000000001 : Int32)]) (rest := []) ⟨hx, hb, hml, hown, hts⟩ (c_X8_finding (ca := ca) (ev := ev) (h0 := h0) (h1 := h1) (h2 := h2) (h3 := h3) (h4 := h4) (h5 := h5) (h6 := h6) (h7 := h7) (h8 := h8) (h9 := h9) (h10 := h10) (h11 := h11) (h12 := h12) (h13 := h13) (h14 := h14) (h15 := h15) (h16 := h16) (h17 := h17) (now := now) (kept := kept) (isKept := isKept) (found := found) (order := order) (doubts := doubts) (doubtMany := doubtMany) (weights := weights) (worn := worn) (pairs := pairs) (isTwice := isTwice) (doer := doer) (doneTo := doneTo) (doers := doers) (tape := tape) (taped := taped) (begins := begins) (ends := ends) (sort := sort) (value := value) (isWrong := isWrong) (items := items) (itemMany := itemMany) (bowThen := bowThen) (doubtThen := doubtThen) (deedThen := deedThen) (sayingThen := sayingThen) (widths := widths) (sizes := sizes) (numbers := numbers) (moved := moved) e_19) (cwV 1 hts gX8_copy_X8_finding rfl rfl rfl hd_X8_finding ⟨Nat.le_of_ble_eq_true rfl, Nat.le_of_ble_eq_true rfl⟩) hK hP hD hS hA hE (q0 := 0) (ci := 8) rfl rfl rfl rfl hl.1 rfl (Nat.le_of_ble_eq_true rfl) dX8_copy_121 ⟨Nat.zero_le _, Nat.zero_le _⟩ (fun H locs hP hD hS => ?_)
                    obtain rfl := Option.some.inj h
                    exact hRet hP hD hS dX8_copy_124
                  · have h := ifn c_18 h
                    refine lv_iload hx hb dX8_copy_100 (lv_at hl 4 rfl) ?_
                    refine lv_i2l (v := a4.toInt64) hx hb dX8_copy_102 rfl ?_
                    refine lv_iload hx hb dX8_copy_103 (lv_at hl 5 rfl) ?_
                    refine lv_i2l (v := a5.toInt64) hx hb dX8_copy_105 rfl ?_
                    refine lv_ladd hx hb dX8_copy_106 ?_
                    refine lv_aload_n hx hb dX8_copy_107 rfl (lv_at hl 0 rfl) ?_
                    refine va_get (D := G) (ci := 8) (v := .ref h15) (C := RX8) (T := TX8) (N := 32) hx hb hts hin_X8 hown hK hP 0 rfl rfl 29 (by decide) fk_68 (fun _ h9 => h9) rfl dX8_copy_108 ?_
                    refine lv_iload_n hx hb dX8_copy_111 rfl (lv_at hl 3 rfl) ?_
                    refine va_iald hx hb hK hP 15 0 rfl rfl (ix_in i_9) dX8_copy_112 ?_
                    refine lv_i2l (v := (sizes a3.toNatClampNeg).toInt64) hx hb dX8_copy_113 rfl ?_
                    refine W.lcmp hx hb dX8_copy_114 ?_
                    refine lv_if_le (tgt := 125) hx hb dX8_copy_115 (by decide) (fun c_20 => ?_) (fun c_20 => ?_)
                    · have h := ifp c_20 h
                      refine lv_iconst (v := (0 : Int32)) hx hb dX8_copy_125 (by decide) ?_
                      refine lv_istore (lv' := [(6, .int (0 : Int32)), (0, .ref h0), (1, .int a1), (2, .int a2), (3, .int a3), (4, .int a4), (5, .int a5)]) hx hb dX8_copy_126 hl (by decide) rfl (fun ls hl => ?_)
                      have L_128 : ∀ {x1_128 : Int32} {x2_128 : Int32} {x5_128 : Int32} {numbers_128 : (Nat → Int64)} (n_128 : Nat) {x6_128 : Int32} {moved_128 : (Nat → Int64)} {uL_128 : (Nat → Int64)} {H : Heap} {locs : List Loc} {ls : Array Slot}, f_X8_copy_128 x1_128 x2_128 x5_128 numbers_128  n_128 x6_128 moved_128 = some uL_128 → va_P G vwCl (wM ca ev h0 h1 h2 h3 h4 h5 h6 h7 h8 h9 h10 h11 h12 h13 h14 h15 h16 h17 now kept isKept found order doubts doubtMany weights worn pairs isTwice doer doneTo doers tape taped begins ends sort value isWrong items itemMany bowThen doubtThen deedThen sayingThen widths sizes numbers_128 moved_128) H → va_D A (wM ca ev h0 h1 h2 h3 h4 h5 h6 h7 h8 h9 h10 h11 h12 h13 h14 h15 h16 h17 now kept isKept found order doubts doubtMany weights worn pairs isTwice doer doneTo doers tape taped begins ends sort value isWrong items itemMany bowThen doubtThen deedThen sayingThen widths sizes numbers_128 moved_128) → va_S A s.heap H locs → lv_has ls 7 [(0, .ref h0), (1, .int x1_128), (2, .int x2_128), (3, .int a3), (4, .int a4), (5, .int x5_128), (6, .int x6_128)] → (∀ {H : Heap} {locs : List Loc} {ls : Array Slot}, va_P G vwCl (wM ca ev h0 h1 h2 h3 h4 h5 h6 h7 h8 h9 h10 h11 h12 h13 h14 h15 h16 h17 now kept isKept found order doubts doubtMany weights worn pairs isTwice doer doneTo doers tape taped begins ends sort value isWrong items itemMany bowThen doubtThen deedThen sayingThen widths sizes numbers_128 uL_128) H → va_D A (wM ca ev h0 h1 h2 h3 h4 h5 h6 h7 h8 h9 h10 h11 h12 h13 h14 h15 h16 h17 now kept isKept found order doubts doubtMany weights worn pairs isTwice doer doneTo doers tape taped begins ends sort value isWrong items itemMany bowThen doubtThen deedThen sayingThen widths sizes numbers_128 uL_128) → va_S A s.heap H locs → lv_has ls 7 [(0, .ref h0), (3, .int a3), (4, .int a4), (5, .int x5_128)] → W p l e rm_X8_copy s m args below meth c H locs 0 0 Q (F0 m 162 ls [])) → W p l e rm_X8_copy s m args below meth c H locs 0 0 Q (F0 m 128 ls []) := by
                        intro x1_128 x2_128 x5_128 numbers_128 n_128
                        induction n_128 with
                        | zero => intro x6_128 moved_128 uL_128 H locs ls h; exact absurd h (by rw [f_X8_copy_128]; exact fun z => nomatch z)
                        | succ n_128 ih =>
                          intro x6_128 moved_128 uL_128 H locs ls h hP hD hS hl JK_128
                          rw [f_X8_copy_128] at h
                          refine lv_iload hx hb dX8_copy_128 (lv_at hl 6 rfl) ?_
                          refine lv_iload hx hb dX8_copy_130 (lv_at hl 5 rfl) ?_
                          refine lv_icmp_ge (tgt := 162) hx hb dX8_copy_132 (by decide) (fun c_21 => ?_) (fun c_21 => ?_)
                          · have h := ifp c_21 h
                            obtain rfl := Option.some.inj h
                            exact JK_128 hP hD hS (lv_sub hl [0, 3, 4, 5] rfl)
                          · have h := ifn c_21 h
                            refine lv_aload_n hx hb dX8_copy_135 rfl (lv_at hl 0 rfl) ?_
                            refine va_get (D := G) (ci := 8) (v := .ref h17) (C := RX8) (T := TX8) (N := 32) hx hb hts hin_X8 hown hK hP 0 rfl rfl 31 (by decide) fk_74 (fun _ h9 => h9) rfl dX8_copy_136 ?_
                            refine lv_iload hx hb dX8_copy_139 (lv_at hl 6 rfl) ?_
                            refine lv_aload_n hx hb dX8_copy_141 rfl (lv_at hl 0 rfl) ?_
                            refine va_get (D := G) (ci := 8) (v := .ref h16) (C := RX8) (T := TX8) (N := 32) hx hb hts hin_X8 hown hK hP 0 rfl rfl 30 (by decide) fk_71 (fun _ h9 => h9) rfl dX8_copy_142 ?_
                            refine lv_bipush (v := (40 : Int32)) hx hb dX8_copy_145 (by decide) ?_
                            refine lv_iload_n hx hb dX8_copy_147 rfl (lv_at hl 1 rfl) ?_
                            refine lv_imul hx hb dX8_copy_148 ?_
                            refine lv_iload_n hx hb dX8_copy_149 rfl (lv_at hl 2 rfl) ?_
                            refine lv_iadd hx hb dX8_copy_150 ?_
                            refine lv_iload hx hb dX8_copy_151 (lv_at hl 6 rfl) ?_
                            refine lv_iadd hx hb dX8_copy_153 ?_
                            obtain ⟨i_22, h⟩ := gd_some h
                            refine va_lald hx hb hK hP 16 1 rfl rfl (ix_in i_22) dX8_copy_154 ?_
                            obtain ⟨i_23, h⟩ := gd_some h
                            refine va_last hx hb hK hP hD hS 17 1 rfl rfl (ix_in i_23) dX8_copy_155 (fun H locs hP hD hS => ?_)
                            have hP : va_P G vwCl (wM ca ev h0 h1 h2 h3 h4 h5 h6 h7 h8 h9 h10 h11 h12 h13 h14 h15 h16 h17 now kept isKept found order doubts doubtMany weights worn pairs isTwice doer doneTo doers tape taped begins ends sort value isWrong items itemMany bowThen doubtThen deedThen sayingThen widths sizes numbers_128 (vp_updL moved_128 x6_128.toNatClampNeg (numbers_128 ((((40 : Int32) * x1_128) + x2_128) + x6_128).toNatClampNeg))) H := hP
                            have hD : va_D A (wM ca ev h0 h1 h2 h3 h4 h5 h6 h7 h8 h9 h10 h11 h12 h13 h14 h15 h16 h17 now kept isKept found order doubts doubtMany weights worn pairs isTwice doer doneTo doers tape taped begins ends sort value isWrong items itemMany bowThen doubtThen deedThen sayingThen widths sizes numbers_128 (vp_updL moved_128 x6_128.toNatClampNeg (numbers_128 ((((40 : Int32) * x1_128) + x2_128) + x6_128).toNatClampNeg))) := hD
                            refine lv_iinc (v := (x6_128 + (1 : Int32))) (lv' := [(6, .int (x6_128 + (1 : Int32))), (0, .ref h0), (1, .int x1_128), (2, .int x2_128), (3, .int a3), (4, .int a4), (5, .int x5_128)]) hx hb dX8_copy_156 hl (k := 6) rfl rfl (by decide) rfl (fun ls hl => ?_)
                            refine lv_goto (tgt := 128) hx hb dX8_copy_159 (by decide) ?_
                            exact ih h hP hD hS (lv_sub hl [1, 2, 3, 4, 5, 6, 0] rfl) JK_128
                      obtain ⟨u_24, e_24, h⟩ := bd_some h
                      refine L_128 _ e_24 hP hD hS (lv_sub hl [1, 2, 3, 4, 5, 6, 0] rfl) ?_
                      intro H locs ls hP hD hS hl
                      refine lv_iconst (v := (0 : Int32)) hx hb dX8_copy_162 (by decide) ?_
                      refine lv_istore (lv' := [(6, .int (0 : Int32)), (0, .ref h0), (3, .int a3), (4, .int a4), (5, .int a5)]) hx hb dX8_copy_163 hl (by decide) rfl (fun ls hl => ?_)
                      have L_165 : ∀ {x3_165 : Int32} {x4_165 : Int32} {x5_165 : Int32} {moved_165 : (Nat → Int64)} (n_165 : Nat) {x6_165 : Int32} {numbers_165 : (Nat → Int64)} {uL_165 : (Nat → Int64)} {H : Heap} {locs : List Loc} {ls : Array Slot}, f_X8_copy_165 x3_165 x4_165 x5_165 moved_165  n_165 x6_165 numbers_165 = some uL_165 → va_P G vwCl (wM ca ev h0 h1 h2 h3 h4 h5 h6 h7 h8 h9 h10 h11 h12 h13 h14 h15 h16 h17 now kept isKept found order doubts doubtMany weights worn pairs isTwice doer doneTo doers tape taped begins ends sort value isWrong items itemMany bowThen doubtThen deedThen sayingThen widths sizes numbers_165 moved_165) H → va_D A (wM ca ev h0 h1 h2 h3 h4 h5 h6 h7 h8 h9 h10 h11 h12 h13 h14 h15 h16 h17 now kept isKept found order doubts doubtMany weights worn pairs isTwice doer doneTo doers tape taped begins ends sort value isWrong items itemMany bowThen doubtThen deedThen sayingThen widths sizes numbers_165 moved_165) → va_S A s.heap H locs → lv_has ls 7 [(0, .ref h0), (3, .int x3_165), (4, .int x4_165), (5, .int x5_165), (6, .int x6_165)] → (∀ {H : Heap} {locs : List Loc} {ls : Array Slot}, va_P G vwCl (wM ca ev h0 h1 h2 h3 h4 h5 h6 h7 h8 h9 h10 h11 h12 h13 h14 h15 h16 h17 now kept isKept found order doubts doubtMany weights worn pairs isTwice doer doneTo doers tape taped begins ends sort value isWrong items itemMany bowThen doubtThen deedThen sayingThen widths sizes uL_165 moved_165) H → va_D A (wM ca ev h0 h1 h2 h3 h4 h5 h6 h7 h8 h9 h10 h11 h12 h13 h14 h15 h16 h17 now kept isKept found order doubts doubtMany weights worn pairs isTwice doer doneTo doers tape taped begins ends sort value isWrong items itemMany bowThen doubtThen deedThen sayingThen widths sizes uL_165 moved_165) → va_S A s.heap H locs → lv_has ls 7 [(5, .int x5_165)] → W p l e rm_X8_copy s m args below meth c H locs 0 0 Q (F0 m 200 ls [])) → W p l e rm_X8_copy s m args below meth c H locs 0 0 Q (F0 m 165 ls []) := by
                        intro x3_165 x4_165 x5_165 moved_165 n_165
                        induction n_165 with
                        | zero => intro x6_165 numbers_165 uL_165 H locs ls h; exact absurd h (by rw [f_X8_copy_165]; exact fun z => nomatch z)
                        | succ n_165 ih =>
                          intro x6_165 numbers_165 uL_165 H locs ls h hP hD hS hl JK_165
                          rw [f_X8_copy_165] at h
                          refine lv_iload hx hb dX8_copy_165 (lv_at hl 4 rfl) ?_
                          refine lv_iload hx hb dX8_copy_167 (lv_at hl 3 rfl) ?_
                          refine lv_icmp_ge (tgt := 200) hx hb dX8_copy_169 (by decide) (fun c_25 => ?_) (fun c_25 => ?_)
                          · have h := ifp c_25 h
                            obtain rfl := Option.some.inj h
                            exact JK_165 hP hD hS (lv_sub hl [3] rfl)
                          · have h := ifn c_25 h
                            refine lv_aload_n hx hb dX8_copy_172 rfl (lv_at hl 0 rfl) ?_
                            refine va_get (D := G) (ci := 8) (v := .ref h16) (C := RX8) (T := TX8) (N := 32) hx hb hts hin_X8 hown hK hP 0 rfl rfl 30 (by decide) fk_71 (fun _ h9 => h9) rfl dX8_copy_173 ?_
                            refine lv_bipush (v := (40 : Int32)) hx hb dX8_copy_176 (by decide) ?_
                            refine lv_iload_n hx hb dX8_copy_178 rfl (lv_at hl 1 rfl) ?_
                            refine lv_imul hx hb dX8_copy_179 ?_
                            refine lv_iload hx hb dX8_copy_180 (lv_at hl 2 rfl) ?_
                            refine lv_iadd hx hb dX8_copy_182 ?_
                            refine lv_iload hx hb dX8_copy_183 (lv_at hl 4 rfl) ?_
                            refine lv_iadd hx hb dX8_copy_185 ?_
                            refine lv_aload_n hx hb dX8_copy_186 rfl (lv_at hl 0 rfl) ?_
                            refine va_get (D := G) (ci := 8) (v := .ref h17) (C := RX8) (T := TX8) (N := 32) hx hb hts hin_X8 hown hK hP 0 rfl rfl 31 (by decide) fk_74 (fun _ h9 => h9) rfl dX8_copy_187 ?_
                            refine lv_iload hx hb dX8_copy_190 (lv_at hl 4 rfl) ?_
                            obtain ⟨i_26, h⟩ := gd_some h
                            refine va_lald hx hb hK hP 17 1 rfl rfl (ix_in i_26) dX8_copy_192 ?_
                            obtain ⟨i_27, h⟩ := gd_some h
                            refine va_last hx hb hK hP hD hS 16 1 rfl rfl (ix_in i_27) dX8_copy_193 (fun H locs hP hD hS => ?_)
                            have hP : va_P G vwCl (wM ca ev h0 h1 h2 h3 h4 h5 h6 h7 h8 h9 h10 h11 h12 h13 h14 h15 h16 h17 now kept isKept found order doubts doubtMany weights worn pairs isTwice doer doneTo doers tape taped begins ends sort value isWrong items itemMany bowThen doubtThen deedThen sayingThen widths sizes (vp_updL numbers_165 ((((40 : Int32) * x3_165) + x4_165) + x6_165).toNatClampNeg (moved_165 x6_165.toNatClampNeg)) moved_165) H := hP
                            have hD : va_D A (wM ca ev h0 h1 h2 h3 h4 h5 h6 h7 h8 h9 h10 h11 h12 h13 h14 h15 h16 h17 now kept isKept found order doubts doubtMany weights worn pairs isTwice doer doneTo doers tape taped begins ends sort value isWrong items itemMany bowThen doubtThen deedThen sayingThen widths sizes (vp_updL numbers_165 ((((40 : Int32) * x3_165) + x4_165) + x6_165).toNatClampNeg (moved_165 x6_165.toNatClampNeg)) moved_165) := hD
                            refine lv_iinc (v := (x6_165 + (1 : Int32))) (lv' := [(6, .int (x6_165 + (1 : Int32))), (0, .ref h0), (3, .int x3_165), (4, .int x4_165), (5, .int x5_165)]) hx hb dX8_copy_194 hl (k := 4) rfl rfl (by decide) rfl (fun ls hl => ?_)
                            refine lv_goto (tgt := 165) hx hb dX8_copy_197 (by decide) ?_
                            exact ih h hP hD hS (lv_sub hl [1, 2, 3, 4, 0] rfl) JK_165
                      obtain ⟨u_28, e_28, h⟩ := bd_some h
                      refine L_165 _ e_28 hP hD hS (lv_sub hl [1, 2, 3, 4, 0] rfl) ?_
                      intro H locs ls hP hD hS hl
                      refine lv_iload hx hb dX8_copy_200 (lv_at hl 0 rfl) ?_
                      obtain rfl := Option.some.inj h
                      exact hRet hP hD hS dX8_copy_202
                    · have h := ifn c_20 h
                      refine lv_aload_n hx hb dX8_copy_118 rfl (lv_at hl 0 rfl) ?_
                      refine lv_ldc (v := (-1000000001 : Int32)) hx hb hown (hts (.constant RX8 77 (-1000000001)) (by decide +kernel)) dX8_copy_119 ?_
                      obtain ⟨u_29, e_29, h⟩ := bd_some h
                      refine cm_Vi (As := [.int (-1000000001 : Int32)]) (rest := []) ⟨hx, hb, hml, hown, hts⟩ (c_X8_finding (ca := ca) (ev := ev) (h0 := h0) (h1 := h1) (h2 := h2) (h3 := h3) (h4 := h4) (h5 := h5) (h6 := h6) (h7 := h7) (h8 := h8) (h9 := h9) (h10 := h10) (h11 := h11) (h12 := h12) (h13 := h13) (h14 := h14) (h15 := h15) (h16 := h16) (h17 := h17) (now := now) (kept := kept) (isKept := isKept) (found := found) (order := order) (doubts := doubts) (doubtMany := doubtMany) (weights := weights) (worn := worn) (pairs := pairs) (isTwice := isTwice) (doer := doer) (doneTo := doneTo) (doers := doers) (tape := tape) (taped := taped) (begins := begins) (ends := ends) (sort := sort) (value := value) (isWrong := isWrong) (items := items) (itemMany := itemMany) (bowThen := bowThen) (doubtThen := doubtThen) (deedThen := deedThen) (sayingThen := sayingThen) (widths := widths) (sizes := sizes) (numbers := numbers) (moved := moved) e_29) (cwV 1 hts gX8_copy_X8_finding rfl rfl rfl hd_X8_finding ⟨Nat.le_of_ble_eq_true rfl, Nat.le_of_ble_eq_true rfl⟩) hK hP hD hS hA hE (q0 := 0) (ci := 8) rfl rfl rfl rfl hl.1 rfl (Nat.le_of_ble_eq_true rfl) dX8_copy_121 ⟨Nat.zero_le _, Nat.zero_le _⟩ (fun H locs hP hD hS => ?_)
                      obtain rfl := Option.some.inj h
                      exact hRet hP hD hS dX8_copy_124
          · have h := ifn c_11 h
            refine lv_aload_n hx hb dX8_copy_62 rfl (lv_at hl 0 rfl) ?_
            refine lv_ldc (v := (-1000000003 : Int32)) hx hb hown (hts (.constant RX8 208 (-1000000003)) (by decide +kernel)) dX8_copy_63 ?_
            obtain ⟨u_30, e_30, h⟩ := bd_some h
            refine cm_Vi (As := [.int (-1000000003 : Int32)]) (rest := []) ⟨hx, hb, hml, hown, hts⟩ (c_X8_finding (ca := ca) (ev := ev) (h0 := h0) (h1 := h1) (h2 := h2) (h3 := h3) (h4 := h4) (h5 := h5) (h6 := h6) (h7 := h7) (h8 := h8) (h9 := h9) (h10 := h10) (h11 := h11) (h12 := h12) (h13 := h13) (h14 := h14) (h15 := h15) (h16 := h16) (h17 := h17) (now := now) (kept := kept) (isKept := isKept) (found := found) (order := order) (doubts := doubts) (doubtMany := doubtMany) (weights := weights) (worn := worn) (pairs := pairs) (isTwice := isTwice) (doer := doer) (doneTo := doneTo) (doers := doers) (tape := tape) (taped := taped) (begins := begins) (ends := ends) (sort := sort) (value := value) (isWrong := isWrong) (items := items) (itemMany := itemMany) (bowThen := bowThen) (doubtThen := doubtThen) (deedThen := deedThen) (sayingThen := sayingThen) (widths := widths) (sizes := sizes) (numbers := numbers) (moved := moved) e_30) (cwV 1 hts gX8_copy_X8_finding rfl rfl rfl hd_X8_finding ⟨Nat.le_of_ble_eq_true rfl, Nat.le_of_ble_eq_true rfl⟩) hK hP hD hS hA hE (q0 := 0) (ci := 8) rfl rfl rfl rfl hl.1 rfl (Nat.le_of_ble_eq_true rfl) dX8_copy_65 ⟨Nat.zero_le _, Nat.zero_le _⟩ (fun H locs hP hD hS => ?_)
            obtain rfl := Option.some.inj h
            exact hRet hP hD hS dX8_copy_68
        · have h := ifp c_10 h
          refine lv_aload_n hx hb dX8_copy_39 rfl (lv_at hl 0 rfl) ?_
          refine lv_ldcw (v := (-1000000006 : Int32)) hx hb hown (hts (.constant RX8 345 (-1000000006)) (by decide +kernel)) dX8_copy_40 ?_
          obtain ⟨u_31, e_31, h⟩ := bd_some h
          refine cm_Vi (As := [.int (-1000000006 : Int32)]) (rest := []) ⟨hx, hb, hml, hown, hts⟩ (c_X8_finding (ca := ca) (ev := ev) (h0 := h0) (h1 := h1) (h2 := h2) (h3 := h3) (h4 := h4) (h5 := h5) (h6 := h6) (h7 := h7) (h8 := h8) (h9 := h9) (h10 := h10) (h11 := h11) (h12 := h12) (h13 := h13) (h14 := h14) (h15 := h15) (h16 := h16) (h17 := h17) (now := now) (kept := kept) (isKept := isKept) (found := found) (order := order) (doubts := doubts) (doubtMany := doubtMany) (weights := weights) (worn := worn) (pairs := pairs) (isTwice := isTwice) (doer := doer) (doneTo := doneTo) (doers := doers) (tape := tape) (taped := taped) (begins := begins) (ends := ends) (sort := sort) (value := value) (isWrong := isWrong) (items := items) (itemMany := itemMany) (bowThen := bowThen) (doubtThen := doubtThen) (deedThen := deedThen) (sayingThen := sayingThen) (widths := widths) (sizes := sizes) (numbers := numbers) (moved := moved) e_31) (cwV 1 hts gX8_copy_X8_finding rfl rfl rfl hd_X8_finding ⟨Nat.le_of_ble_eq_true rfl, Nat.le_of_ble_eq_true rfl⟩) hK hP hD hS hA hE (q0 := 0) (ci := 8) rfl rfl rfl rfl hl.1 rfl (Nat.le_of_ble_eq_true rfl) dX8_copy_43 ⟨Nat.zero_le _, Nat.zero_le _⟩ (fun H locs hP hD hS => ?_)
          obtain rfl := Option.some.inj h
          exact hRet hP hD hS dX8_copy_46
    · have h := ifp c_5 h
      refine lv_aload_n hx hb dX8_copy_14 rfl (lv_at hl 0 rfl) ?_
      refine lv_ldc (v := (-1000000001 : Int32)) hx hb hown (hts (.constant RX8 77 (-1000000001)) (by decide +kernel)) dX8_copy_15 ?_
      obtain ⟨u_32, e_32, h⟩ := bd_some h
      refine cm_Vi (As := [.int (-1000000001 : Int32)]) (rest := []) ⟨hx, hb, hml, hown, hts⟩ (c_X8_finding (ca := ca) (ev := ev) (h0 := h0) (h1 := h1) (h2 := h2) (h3 := h3) (h4 := h4) (h5 := h5) (h6 := h6) (h7 := h7) (h8 := h8) (h9 := h9) (h10 := h10) (h11 := h11) (h12 := h12) (h13 := h13) (h14 := h14) (h15 := h15) (h16 := h16) (h17 := h17) (now := now) (kept := kept) (isKept := isKept) (found := found) (order := order) (doubts := doubts) (doubtMany := doubtMany) (weights := weights) (worn := worn) (pairs := pairs) (isTwice := isTwice) (doer := doer) (doneTo := doneTo) (doers := doers) (tape := tape) (taped := taped) (begins := begins) (ends := ends) (sort := sort) (value := value) (isWrong := isWrong) (items := items) (itemMany := itemMany) (bowThen := bowThen) (doubtThen := doubtThen) (deedThen := deedThen) (sayingThen := sayingThen) (widths := widths) (sizes := sizes) (numbers := numbers) (moved := moved) e_32) (cwV 1 hts gX8_copy_X8_finding rfl rfl rfl hd_X8_finding ⟨Nat.le_of_ble_eq_true rfl, Nat.le_of_ble_eq_true rfl⟩) hK hP hD hS hA hE (q0 := 0) (ci := 8) rfl rfl rfl rfl hl.1 rfl (Nat.le_of_ble_eq_true rfl) dX8_copy_17 ⟨Nat.zero_le _, Nat.zero_le _⟩ (fun H locs hP hD hS => ?_)
      obtain rfl := Option.some.inj h
      exact hRet hP hD hS dX8_copy_20
abbrev rm_X8_lays : Room := { frames := 3, cells := 0, slots := 0, locals := 66 }
theorem hd_X8_lays : yX8_lays.cls = RX8 ∧ yX8_lays.cls ≠ "java/lang/invoke/MethodHandle" ∧ yX8_lays.cls ≠ "java/lang/invoke/VarHandle" ∧ (parseMethodDescriptor yX8_lays.desc).map (fun d => d.parameters.length) = some 1 := by decide +kernel
set_option maxHeartbeats 4000000 in
set_option maxRecDepth 100000 in
theorem c_X8_lays {l : Launch} {G : va_G} {ca : Nat → ClassId} {ev : Nat → Nat} {h0 h1 h2 h3 h4 h5 h6 h7 h8 h9 h10 h11 h12 h13 h14 h15 h16 h17 : Nat} {now : (Nat → Int32)} {kept : (Nat → Int32)} {isKept : Int32} {found : (Nat → Int32)} {order : (Nat → Int32)} {doubts : (Nat → Int32)} {doubtMany : Int32} {weights : (Nat → Int64)} {worn : (Nat → Int32)} {pairs : Int64} {isTwice : Int32} {doer : (Nat → Int32)} {doneTo : (Nat → Int32)} {doers : (Nat → Int64)} {tape : (Nat → Int32)} {taped : Int32} {begins : Int32} {ends : Int32} {sort : Int32} {value : Int32} {isWrong : Int32} {items : (Nat → Int32)} {itemMany : Int32} {bowThen : Int32} {doubtThen : Int32} {deedThen : Int32} {sayingThen : Int32} {widths : (Nat → Int32)} {sizes : (Nat → Int32)} {numbers : (Nat → Int64)} {moved : (Nat → Int64)} {a1 : Int32} {N : Nat} {res : Int32 × (Nat → Int32) × (Nat → Int32)} (h : f_X8_lays N now found widths sizes numbers a1 = some res) : CtI l yX8_lays wsX8_lays rm_X8_lays G ca ev [.ref h0, .int a1] (wM ca ev h0 h1 h2 h3 h4 h5 h6 h7 h8 h9 h10 h11 h12 h13 h14 h15 h16 h17 now kept isKept found order doubts doubtMany weights worn pairs isTwice doer doneTo doers tape taped begins ends sort value isWrong items itemMany bowThen doubtThen deedThen sayingThen widths sizes numbers moved) (wM ca ev h0 h1 h2 h3 h4 h5 h6 h7 h8 h9 h10 h11 h12 h13 h14 h15 h16 h17 res.2.1 kept isKept res.2.2 order doubts doubtMany weights worn pairs isTwice doer doneTo doers tape taped begins ends sort value isWrong items itemMany bowThen doubtThen deedThen sayingThen widths sizes numbers moved) res.1 := by
  unfold f_X8_lays at h
  refine en_i (by decide) rfl (Nat.le_of_ble_eq_true rfl) ?_
  intro p e s m args below meth c A Q H locs ls hx hb hml hown hts hA hP hK hD hE hS hl hRet
  have hown : s.vm.findClass RX8 = some m.cls := hown
  have hl : lv_has ls 6 [(0, .ref h0), (1, .int a1)] := hl
  have hin_X8 : ∀ w ∈ u_ws RX8 TX8 32, w ∈ wsX8_lays := fun w h9 => List.mem_cons_of_mem _ (List.mem_append_right _ h9)
  have fk_65 := hts (.fieldLink RX8 65 "MaskBowsModel" "widths" "[I") (by decide +kernel)
  have fk_68 := hts (.fieldLink RX8 68 "MaskBowsModel" "sizes" "[I") (by decide +kernel)
  have fk_71 := hts (.fieldLink RX8 71 "MaskBowsModel" "numbers" "[J") (by decide +kernel)
  have fk_9 := hts (.fieldLink RX8 9 "MaskBowsModel" "now" "[I") (by decide +kernel)
  refine lv_iload_n hx hb dX8_lays_0 rfl (lv_at hl 1 rfl) ?_
  obtain ⟨u_1, e_1, h⟩ := bd_some h
  refine cn_Si (As := [.int a1]) (rest := []) ⟨hx, hb, hml, hown, hts⟩ (c_X8_isSheet e_1) (va_cwS 1 hts gX8_lays_X8_isSheet rfl rfl rfl hd_X8_isSheet ⟨Nat.le_of_ble_eq_true rfl, Nat.le_of_ble_eq_true rfl⟩) hK hP hD hS hA hE rfl hl.1 rfl (Nat.le_of_ble_eq_true rfl) dX8_lays_1 ⟨Nat.zero_le _, Nat.zero_le _⟩ (fun H locs hP hD hS => ?_)
  refine lv_if_ne (tgt := 14) hx hb dX8_lays_4 (by decide) (fun c_2 => ?_) (fun c_2 => ?_)
  · have h := ifn c_2 h
    refine lv_aload_n hx hb dX8_lays_14 rfl (lv_at hl 0 rfl) ?_
    refine va_get (D := G) (ci := 8) (v := .ref h14) (C := RX8) (T := TX8) (N := 32) hx hb hts hin_X8 hown hK hP 0 rfl rfl 28 (by decide) fk_65 (fun _ h9 => h9) rfl dX8_lays_15 ?_
    refine lv_iload_n hx hb dX8_lays_18 rfl (lv_at hl 1 rfl) ?_
    obtain ⟨i_3, h⟩ := gd_some h
    refine va_iald hx hb hK hP 14 0 rfl rfl (ix_in i_3) dX8_lays_19 ?_
    refine lv_if_ne (tgt := 31) hx hb dX8_lays_20 (by decide) (fun c_4 => ?_) (fun c_4 => ?_)
    · have h := ifn c_4 h
      refine lv_iconst (v := (0 : Int32)) hx hb dX8_lays_31 (by decide) ?_
      refine lv_istore_n (lv' := [(2, .int (0 : Int32)), (0, .ref h0), (1, .int a1)]) hx hb dX8_lays_32 rfl hl (by decide) rfl (fun ls hl => ?_)
      refine lv_iconst (v := (0 : Int32)) hx hb dX8_lays_33 (by decide) ?_
      refine lv_istore_n (lv' := [(3, .int (0 : Int32)), (2, .int (0 : Int32)), (0, .ref h0), (1, .int a1)]) hx hb dX8_lays_34 rfl hl (by decide) rfl (fun ls hl => ?_)
      have L_35 : ∀ {x1_35 : Int32} {sizes_35 : (Nat → Int32)} {numbers_35 : (Nat → Int64)} (n_35 : Nat) {x2_35 : Int32} {x3_35 : Int32} {now_35 : (Nat → Int32)} {uL_35 : Int32 × (Nat → Int32)} {H : Heap} {locs : List Loc} {ls : Array Slot}, f_X8_lays_35 N x1_35 sizes_35 numbers_35  n_35 x2_35 x3_35 now_35 = some uL_35 → va_P G vwCl (wM ca ev h0 h1 h2 h3 h4 h5 h6 h7 h8 h9 h10 h11 h12 h13 h14 h15 h16 h17 now_35 kept isKept found order doubts doubtMany weights worn pairs isTwice doer doneTo doers tape taped begins ends sort value isWrong items itemMany bowThen doubtThen deedThen sayingThen widths sizes_35 numbers_35 moved) H → va_D A (wM ca ev h0 h1 h2 h3 h4 h5 h6 h7 h8 h9 h10 h11 h12 h13 h14 h15 h16 h17 now_35 kept isKept found order doubts doubtMany weights worn pairs isTwice doer doneTo doers tape taped begins ends sort value isWrong items itemMany bowThen doubtThen deedThen sayingThen widths sizes_35 numbers_35 moved) → va_S A s.heap H locs → lv_has ls 6 [(0, .ref h0), (1, .int x1_35), (2, .int x2_35), (3, .int x3_35)] → (∀ {H : Heap} {locs : List Loc} {ls : Array Slot}, va_P G vwCl (wM ca ev h0 h1 h2 h3 h4 h5 h6 h7 h8 h9 h10 h11 h12 h13 h14 h15 h16 h17 uL_35.2 kept isKept found order doubts doubtMany weights worn pairs isTwice doer doneTo doers tape taped begins ends sort value isWrong items itemMany bowThen doubtThen deedThen sayingThen widths sizes_35 numbers_35 moved) H → va_D A (wM ca ev h0 h1 h2 h3 h4 h5 h6 h7 h8 h9 h10 h11 h12 h13 h14 h15 h16 h17 uL_35.2 kept isKept found order doubts doubtMany weights worn pairs isTwice doer doneTo doers tape taped begins ends sort value isWrong items itemMany bowThen doubtThen deedThen sayingThen widths sizes_35 numbers_35 moved) → va_S A s.heap H locs → lv_has ls 6 [(2, .int uL_35.1)] → W p l e rm_X8_lays s m args below meth c H locs 0 0 Q (F0 m 120 ls [])) → W p l e rm_X8_lays s m args below meth c H locs 0 0 Q (F0 m 35 ls []) := by
        intro x1_35 sizes_35 numbers_35 n_35
        induction n_35 with
        | zero => intro x2_35 x3_35 now_35 uL_35 H locs ls h; exact absurd h (by rw [f_X8_lays_35]; exact fun z => nomatch z)
        | succ n_35 ih =>
          intro x2_35 x3_35 now_35 uL_35 H locs ls h hP hD hS hl JK_35
          rw [f_X8_lays_35] at h
          refine lv_iload_n hx hb dX8_lays_35 rfl (lv_at hl 3 rfl) ?_
          refine lv_aload_n hx hb dX8_lays_36 rfl (lv_at hl 0 rfl) ?_
          refine va_get (D := G) (ci := 8) (v := .ref h15) (C := RX8) (T := TX8) (N := 32) hx hb hts hin_X8 hown hK hP 0 rfl rfl 29 (by decide) fk_68 (fun _ h9 => h9) rfl dX8_lays_37 ?_
          refine lv_iload_n hx hb dX8_lays_40 rfl (lv_at hl 1 rfl) ?_
          obtain ⟨i_5, h⟩ := gd_some h
          refine va_iald hx hb hK hP 15 0 rfl rfl (ix_in i_5) dX8_lays_41 ?_
          refine lv_icmp_ge (tgt := 120) hx hb dX8_lays_42 (by decide) (fun c_6 => ?_) (fun c_6 => ?_)
          · have h := ifp c_6 h
            obtain rfl := Option.some.inj h
            exact JK_35 hP hD hS (lv_sub hl [2] rfl)
          · have h := ifn c_6 h
            refine lv_iload_n hx hb dX8_lays_45 rfl (lv_at hl 3 rfl) ?_
            refine lv_aload_n hx hb dX8_lays_46 rfl (lv_at hl 0 rfl) ?_
            refine va_get (D := G) (ci := 8) (v := .ref h1) (C := RX8) (T := TX8) (N := 32) hx hb hts hin_X8 hown hK hP 0 rfl rfl 0 (by decide) fk_9 (fun _ h9 => h9) rfl dX8_lays_47 ?_
            refine lv_iconst (v := (3 : Int32)) hx hb dX8_lays_50 (by decide) ?_
            refine va_iald hx hb hK hP 1 0 rfl rfl (ix_in (by decide)) dX8_lays_51 ?_
            refine lv_icmp_ge (tgt := 120) hx hb dX8_lays_52 (by decide) (fun c_7 => ?_) (fun c_7 => ?_)
            · have h := ifp c_7 h
              obtain rfl := Option.some.inj h
              exact JK_35 hP hD hS (lv_sub hl [2] rfl)
            · have h := ifn c_7 h
              refine lv_aload_n hx hb dX8_lays_55 rfl (lv_at hl 0 rfl) ?_
              refine va_get (D := G) (ci := 8) (v := .ref h16) (C := RX8) (T := TX8) (N := 32) hx hb hts hin_X8 hown hK hP 0 rfl rfl 30 (by decide) fk_71 (fun _ h9 => h9) rfl dX8_lays_56 ?_
              refine lv_bipush (v := (40 : Int32)) hx hb dX8_lays_59 (by decide) ?_
              refine lv_iload_n hx hb dX8_lays_61 rfl (lv_at hl 1 rfl) ?_
              refine lv_imul hx hb dX8_lays_62 ?_
              refine lv_iload_n hx hb dX8_lays_63 rfl (lv_at hl 3 rfl) ?_
              refine lv_iadd hx hb dX8_lays_64 ?_
              obtain ⟨i_8, h⟩ := gd_some h
              refine va_lald hx hb hK hP 16 1 rfl rfl (ix_in i_8) dX8_lays_65 ?_
              refine lv_lstore (lv' := [(4, .long (numbers_35 (((40 : Int32) * x1_35) + x3_35).toNatClampNeg)), (0, .ref h0), (1, .int x1_35), (2, .int x2_35), (3, .int x3_35)]) hx hb dX8_lays_66 hl (by decide) rfl (fun ls hl => ?_)
              refine lv_lload hx hb dX8_lays_68 (lv_at hl 0 rfl) ?_
              refine lv_lconst (v := (0 : Int64)) hx hb dX8_lays_70 (by decide) ?_
              refine W.lcmp hx hb dX8_lays_71 ?_
              obtain ⟨u_9, e_9, h⟩ := bd_some h
              have J_9 : ∀ {H : Heap} {locs : List Loc} {ls : Array Slot}, va_P G vwCl (wM ca ev h0 h1 h2 h3 h4 h5 h6 h7 h8 h9 h10 h11 h12 h13 h14 h15 h16 h17 u_9.2 kept isKept found order doubts doubtMany weights worn pairs isTwice doer doneTo doers tape taped begins ends sort value isWrong items itemMany bowThen doubtThen deedThen sayingThen widths sizes_35 numbers_35 moved) H → va_D A (wM ca ev h0 h1 h2 h3 h4 h5 h6 h7 h8 h9 h10 h11 h12 h13 h14 h15 h16 h17 u_9.2 kept isKept found order doubts doubtMany weights worn pairs isTwice doer doneTo doers tape taped begins ends sort value isWrong items itemMany bowThen doubtThen deedThen sayingThen widths sizes_35 numbers_35 moved) → va_S A s.heap H locs → lv_has ls 6 [(0, .ref h0), (1, .int x1_35), (2, .int u_9.1), (3, .int x3_35)] → W p l e rm_X8_lays s m args below meth c H locs 0 0 Q (F0 m 114 ls []) := by
                intro H locs ls hP hD hS hl 
                refine lv_iinc (v := (x3_35 + (1 : Int32))) (lv' := [(3, .int (x3_35 + (1 : Int32))), (0, .ref h0), (1, .int x1_35), (2, .int u_9.1)]) hx hb dX8_lays_114 hl (k := 3) rfl rfl (by decide) rfl (fun ls hl => ?_)
                refine lv_goto (tgt := 35) hx hb dX8_lays_117 (by decide) ?_
                exact ih h hP hD hS (lv_sub hl [1, 2, 3, 0] rfl) JK_35
              have h := e_9
              clear e_9
              refine lv_if_lt (tgt := 114) hx hb dX8_lays_72 (by decide) (fun c_9 => ?_) (fun c_9 => ?_)
              · have h := ifp c_9 h
                obtain rfl := Option.some.inj h
                exact J_9 hP hD hS (lv_sub hl [1, 2, 3, 4] rfl)
              · have h := ifn c_9 h
                refine lv_lload hx hb dX8_lays_75 (lv_at hl 0 rfl) ?_
                refine lv_ldc2 (v := (10 : Int64)) hx hb hown (hts (.constantLong RX8 350 (10)) (by decide +kernel)) dX8_lays_77 ?_
                refine W.lcmp hx hb dX8_lays_80 ?_
                refine lv_if_gt (tgt := 114) hx hb dX8_lays_81 (by decide) (fun c_10 => ?_) (fun c_10 => ?_)
                · have h := ifp c_10 h
                  obtain rfl := Option.some.inj h
                  exact J_9 hP hD hS (lv_sub hl [1, 2, 3, 4] rfl)
                · have h := ifn c_10 h
                  refine lv_aload_n hx hb dX8_lays_84 rfl (lv_at hl 1 rfl) ?_
                  refine lv_iload_n hx hb dX8_lays_85 rfl (lv_at hl 4 rfl) ?_
                  refine lv_lload hx hb dX8_lays_86 (lv_at hl 0 rfl) ?_
                  refine lv_l2i (v := (numbers_35 (((40 : Int32) * x1_35) + x3_35).toNatClampNeg).toInt32) hx hb dX8_lays_88 rfl ?_
                  obtain ⟨u_11, e_11, h⟩ := bd_some h
                  refine cm_Vi (As := [.int x3_35, .int ((numbers_35 (((40 : Int32) * x1_35) + x3_35).toNatClampNeg).toInt32)]) (rest := []) ⟨hx, hb, hml, hown, hts⟩ (c_X8_wouldBeOneTooMany (ca := ca) (ev := ev) (h0 := h0) (h1 := h1) (h2 := h2) (h3 := h3) (h4 := h4) (h5 := h5) (h6 := h6) (h7 := h7) (h8 := h8) (h9 := h9) (h10 := h10) (h11 := h11) (h12 := h12) (h13 := h13) (h14 := h14) (h15 := h15) (h16 := h16) (h17 := h17) (now := now_35) (kept := kept) (isKept := isKept) (found := found) (order := order) (doubts := doubts) (doubtMany := doubtMany) (weights := weights) (worn := worn) (pairs := pairs) (isTwice := isTwice) (doer := doer) (doneTo := doneTo) (doers := doers) (tape := tape) (taped := taped) (begins := begins) (ends := ends) (sort := sort) (value := value) (isWrong := isWrong) (items := items) (itemMany := itemMany) (bowThen := bowThen) (doubtThen := doubtThen) (deedThen := deedThen) (sayingThen := sayingThen) (widths := widths) (sizes := sizes_35) (numbers := numbers_35) (moved := moved) e_11) (cwV 2 hts gX8_lays_X8_wouldBeOneTooMany rfl rfl rfl hd_X8_wouldBeOneTooMany ⟨Nat.le_of_ble_eq_true rfl, Nat.le_of_ble_eq_true rfl⟩) hK hP hD hS hA hE (q0 := 0) (ci := 8) rfl rfl rfl rfl hl.1 rfl (Nat.le_of_ble_eq_true rfl) dX8_lays_89 ⟨Nat.zero_le _, Nat.zero_le _⟩ (fun H locs hP hD hS => ?_)
                  refine lv_if_ne (tgt := 114) hx hb dX8_lays_92 (by decide) (fun c_12 => ?_) (fun c_12 => ?_)
                  · have h := ifn c_12 h
                    obtain rfl := Option.some.inj h
                    exact J_9 hP hD hS (lv_sub hl [1, 2, 3, 4] rfl)
                  · have h := ifp c_12 h
                    refine lv_aload_n hx hb dX8_lays_95 rfl (lv_at hl 1 rfl) ?_
                    refine va_get (D := G) (ci := 8) (v := .ref h1) (C := RX8) (T := TX8) (N := 32) hx hb hts hin_X8 hown hK hP 0 rfl rfl 0 (by decide) fk_9 (fun _ h9 => h9) rfl dX8_lays_96 ?_
                    refine lv_bipush (v := (6 : Int32)) hx hb dX8_lays_99 (by decide) ?_
                    refine lv_iconst (v := (4 : Int32)) hx hb dX8_lays_101 (by decide) ?_
                    refine lv_iload_n hx hb dX8_lays_102 rfl (lv_at hl 4 rfl) ?_
                    refine lv_imul hx hb dX8_lays_103 ?_
                    refine lv_iadd hx hb dX8_lays_104 ?_
                    refine lv_iconst (v := (3 : Int32)) hx hb dX8_lays_105 (by decide) ?_
                    refine lv_iadd hx hb dX8_lays_106 ?_
                    refine lv_lload hx hb dX8_lays_107 (lv_at hl 0 rfl) ?_
                    refine lv_l2i (v := (numbers_35 (((40 : Int32) * x1_35) + x3_35).toNatClampNeg).toInt32) hx hb dX8_lays_109 rfl ?_
                    obtain ⟨i_13, h⟩ := gd_some h
                    refine va_iast hx hb hK hP hD hS 1 0 rfl rfl (ix_in i_13) dX8_lays_110 (fun H locs hP hD hS => ?_)
                    have hP : va_P G vwCl (wM ca ev h0 h1 h2 h3 h4 h5 h6 h7 h8 h9 h10 h11 h12 h13 h14 h15 h16 h17 (upd now_35 (((6 : Int32) + ((4 : Int32) * x3_35)) + (3 : Int32)).toNatClampNeg ((numbers_35 (((40 : Int32) * x1_35) + x3_35).toNatClampNeg).toInt32)) kept isKept found order doubts doubtMany weights worn pairs isTwice doer doneTo doers tape taped begins ends sort value isWrong items itemMany bowThen doubtThen deedThen sayingThen widths sizes_35 numbers_35 moved) H := hP
                    have hD : va_D A (wM ca ev h0 h1 h2 h3 h4 h5 h6 h7 h8 h9 h10 h11 h12 h13 h14 h15 h16 h17 (upd now_35 (((6 : Int32) + ((4 : Int32) * x3_35)) + (3 : Int32)).toNatClampNeg ((numbers_35 (((40 : Int32) * x1_35) + x3_35).toNatClampNeg).toInt32)) kept isKept found order doubts doubtMany weights worn pairs isTwice doer doneTo doers tape taped begins ends sort value isWrong items itemMany bowThen doubtThen deedThen sayingThen widths sizes_35 numbers_35 moved) := hD
                    refine lv_iinc (v := (x2_35 + (1 : Int32))) (lv' := [(2, .int (x2_35 + (1 : Int32))), (4, .long (numbers_35 (((40 : Int32) * x1_35) + x3_35).toNatClampNeg)), (0, .ref h0), (1, .int x1_35), (3, .int x3_35)]) hx hb dX8_lays_111 hl (k := 3) rfl rfl (by decide) rfl (fun ls hl => ?_)
                    obtain rfl := Option.some.inj h
                    exact J_9 hP hD hS (lv_sub hl [2, 3, 0, 4] rfl)
      obtain ⟨u_14, e_14, h⟩ := bd_some h
      refine L_35 _ e_14 hP hD hS (lv_sub hl [2, 3, 1, 0] rfl) ?_
      intro H locs ls hP hD hS hl
      refine lv_iload_n hx hb dX8_lays_120 rfl (lv_at hl 0 rfl) ?_
      obtain rfl := Option.some.inj h
      exact hRet hP hD hS dX8_lays_121
    · have h := ifp c_4 h
      refine lv_aload_n hx hb dX8_lays_23 rfl (lv_at hl 0 rfl) ?_
      refine lv_ldcw (v := (-1000000006 : Int32)) hx hb hown (hts (.constant RX8 345 (-1000000006)) (by decide +kernel)) dX8_lays_24 ?_
      obtain ⟨u_15, e_15, h⟩ := bd_some h
      refine cm_Vi (As := [.int (-1000000006 : Int32)]) (rest := []) ⟨hx, hb, hml, hown, hts⟩ (c_X8_finding (ca := ca) (ev := ev) (h0 := h0) (h1 := h1) (h2 := h2) (h3 := h3) (h4 := h4) (h5 := h5) (h6 := h6) (h7 := h7) (h8 := h8) (h9 := h9) (h10 := h10) (h11 := h11) (h12 := h12) (h13 := h13) (h14 := h14) (h15 := h15) (h16 := h16) (h17 := h17) (now := now) (kept := kept) (isKept := isKept) (found := found) (order := order) (doubts := doubts) (doubtMany := doubtMany) (weights := weights) (worn := worn) (pairs := pairs) (isTwice := isTwice) (doer := doer) (doneTo := doneTo) (doers := doers) (tape := tape) (taped := taped) (begins := begins) (ends := ends) (sort := sort) (value := value) (isWrong := isWrong) (items := items) (itemMany := itemMany) (bowThen := bowThen) (doubtThen := doubtThen) (deedThen := deedThen) (sayingThen := sayingThen) (widths := widths) (sizes := sizes) (numbers := numbers) (moved := moved) e_15) (cwV 1 hts gX8_lays_X8_finding rfl rfl rfl hd_X8_finding ⟨Nat.le_of_ble_eq_true rfl, Nat.le_of_ble_eq_true rfl⟩) hK hP hD hS hA hE (q0 := 0) (ci := 8) rfl rfl rfl rfl hl.1 rfl (Nat.le_of_ble_eq_true rfl) dX8_lays_27 ⟨Nat.zero_le _, Nat.zero_le _⟩ (fun H locs hP hD hS => ?_)
      obtain rfl := Option.some.inj h
      exact hRet hP hD hS dX8_lays_30
  · have h := ifp c_2 h
    refine lv_aload_n hx hb dX8_lays_7 rfl (lv_at hl 0 rfl) ?_
    refine lv_ldc (v := (-1000000001 : Int32)) hx hb hown (hts (.constant RX8 77 (-1000000001)) (by decide +kernel)) dX8_lays_8 ?_
    obtain ⟨u_16, e_16, h⟩ := bd_some h
    refine cm_Vi (As := [.int (-1000000001 : Int32)]) (rest := []) ⟨hx, hb, hml, hown, hts⟩ (c_X8_finding (ca := ca) (ev := ev) (h0 := h0) (h1 := h1) (h2 := h2) (h3 := h3) (h4 := h4) (h5 := h5) (h6 := h6) (h7 := h7) (h8 := h8) (h9 := h9) (h10 := h10) (h11 := h11) (h12 := h12) (h13 := h13) (h14 := h14) (h15 := h15) (h16 := h16) (h17 := h17) (now := now) (kept := kept) (isKept := isKept) (found := found) (order := order) (doubts := doubts) (doubtMany := doubtMany) (weights := weights) (worn := worn) (pairs := pairs) (isTwice := isTwice) (doer := doer) (doneTo := doneTo) (doers := doers) (tape := tape) (taped := taped) (begins := begins) (ends := ends) (sort := sort) (value := value) (isWrong := isWrong) (items := items) (itemMany := itemMany) (bowThen := bowThen) (doubtThen := doubtThen) (deedThen := deedThen) (sayingThen := sayingThen) (widths := widths) (sizes := sizes) (numbers := numbers) (moved := moved) e_16) (cwV 1 hts gX8_lays_X8_finding rfl rfl rfl hd_X8_finding ⟨Nat.le_of_ble_eq_true rfl, Nat.le_of_ble_eq_true rfl⟩) hK hP hD hS hA hE (q0 := 0) (ci := 8) rfl rfl rfl rfl hl.1 rfl (Nat.le_of_ble_eq_true rfl) dX8_lays_10 ⟨Nat.zero_le _, Nat.zero_le _⟩ (fun H locs hP hD hS => ?_)
    obtain rfl := Option.some.inj h
    exact hRet hP hD hS dX8_lays_13
abbrev rm_X8_refuses : Room := { frames := 2, cells := 0, slots := 0, locals := 42 }
theorem hd_X8_refuses : yX8_refuses.cls = RX8 ∧ yX8_refuses.cls ≠ "java/lang/invoke/MethodHandle" ∧ yX8_refuses.cls ≠ "java/lang/invoke/VarHandle" ∧ (parseMethodDescriptor yX8_refuses.desc).map (fun d => d.parameters.length) = some 2 := by decide +kernel
set_option maxHeartbeats 4000000 in
set_option maxRecDepth 100000 in
theorem c_X8_refuses {l : Launch} {G : va_G} {ca : Nat → ClassId} {ev : Nat → Nat} {h0 h1 h2 h3 h4 h5 h6 h7 h8 h9 h10 h11 h12 h13 h14 h15 h16 h17 : Nat} {now : (Nat → Int32)} {kept : (Nat → Int32)} {isKept : Int32} {found : (Nat → Int32)} {order : (Nat → Int32)} {doubts : (Nat → Int32)} {doubtMany : Int32} {weights : (Nat → Int64)} {worn : (Nat → Int32)} {pairs : Int64} {isTwice : Int32} {doer : (Nat → Int32)} {doneTo : (Nat → Int32)} {doers : (Nat → Int64)} {tape : (Nat → Int32)} {taped : Int32} {begins : Int32} {ends : Int32} {sort : Int32} {value : Int32} {isWrong : Int32} {items : (Nat → Int32)} {itemMany : Int32} {bowThen : Int32} {doubtThen : Int32} {deedThen : Int32} {sayingThen : Int32} {widths : (Nat → Int32)} {sizes : (Nat → Int32)} {numbers : (Nat → Int64)} {moved : (Nat → Int64)} {a1 : Int32} {a2 : Int32} {res : Int32} (h : f_X8_refuses widths a1 a2 = some res) : CtI l yX8_refuses wsX8_refuses rm_X8_refuses G ca ev [.ref h0, .int a1, .int a2] (wM ca ev h0 h1 h2 h3 h4 h5 h6 h7 h8 h9 h10 h11 h12 h13 h14 h15 h16 h17 now kept isKept found order doubts doubtMany weights worn pairs isTwice doer doneTo doers tape taped begins ends sort value isWrong items itemMany bowThen doubtThen deedThen sayingThen widths sizes numbers moved) (wM ca ev h0 h1 h2 h3 h4 h5 h6 h7 h8 h9 h10 h11 h12 h13 h14 h15 h16 h17 now kept isKept found order doubts doubtMany weights worn pairs isTwice doer doneTo doers tape taped begins ends sort value isWrong items itemMany bowThen doubtThen deedThen sayingThen widths sizes numbers moved) res := by
  unfold f_X8_refuses at h
  refine en_i (by decide) rfl (Nat.le_of_ble_eq_true rfl) ?_
  intro p e s m args below meth c A Q H locs ls hx hb hml hown hts hA hP hK hD hE hS hl hRet
  have hown : s.vm.findClass RX8 = some m.cls := hown
  have hl : lv_has ls 3 [(0, .ref h0), (1, .int a1), (2, .int a2)] := hl
  have hin_X8 : ∀ w ∈ u_ws RX8 TX8 32, w ∈ wsX8_refuses := fun w h9 => List.mem_cons_of_mem _ (List.mem_append_right _ h9)
  have fk_65 := hts (.fieldLink RX8 65 "MaskBowsModel" "widths" "[I") (by decide +kernel)
  refine lv_iload_n hx hb dX8_refuses_0 rfl (lv_at hl 1 rfl) ?_
  obtain ⟨u_1, e_1, h⟩ := bd_some h
  refine cn_Si (As := [.int a1]) (rest := []) ⟨hx, hb, hml, hown, hts⟩ (c_X8_isSheet e_1) (va_cwS 1 hts gX8_refuses_X8_isSheet rfl rfl rfl hd_X8_isSheet ⟨Nat.le_of_ble_eq_true rfl, Nat.le_of_ble_eq_true rfl⟩) hK hP hD hS hA hE rfl hl.1 rfl (Nat.le_of_ble_eq_true rfl) dX8_refuses_1 ⟨Nat.zero_le _, Nat.zero_le _⟩ (fun H locs hP hD hS => ?_)
  refine lv_if_ne (tgt := 10) hx hb dX8_refuses_4 (by decide) (fun c_2 => ?_) (fun c_2 => ?_)
  · have h := ifn c_2 h
    refine lv_aload_n hx hb dX8_refuses_10 rfl (lv_at hl 0 rfl) ?_
    refine va_get (D := G) (ci := 8) (v := .ref h14) (C := RX8) (T := TX8) (N := 32) hx hb hts hin_X8 hown hK hP 0 rfl rfl 28 (by decide) fk_65 (fun _ h9 => h9) rfl dX8_refuses_11 ?_
    refine lv_iload_n hx hb dX8_refuses_14 rfl (lv_at hl 1 rfl) ?_
    obtain ⟨i_3, h⟩ := gd_some h
    refine va_iald hx hb hK hP 14 0 rfl rfl (ix_in i_3) dX8_refuses_15 ?_
    refine lv_if_ne (tgt := 25) hx hb dX8_refuses_16 (by decide) (fun c_4 => ?_) (fun c_4 => ?_)
    · have h := ifn c_4 h
      refine lv_iload_n hx hb dX8_refuses_25 rfl (lv_at hl 2 rfl) ?_
      obtain ⟨u_5, e_5, h⟩ := bd_some h
      refine cn_Si (As := [.int a2]) (rest := []) ⟨hx, hb, hml, hown, hts⟩ (c_X8_isHour e_5) (va_cwS 1 hts gX8_refuses_X8_isHour rfl rfl rfl hd_X8_isHour ⟨Nat.le_of_ble_eq_true rfl, Nat.le_of_ble_eq_true rfl⟩) hK hP hD hS hA hE rfl hl.1 rfl (Nat.le_of_ble_eq_true rfl) dX8_refuses_26 ⟨Nat.zero_le _, Nat.zero_le _⟩ (fun H locs hP hD hS => ?_)
      refine lv_if_eq (tgt := 36) hx hb dX8_refuses_29 (by decide) (fun c_6 => ?_) (fun c_6 => ?_)
      · have h := ifp c_6 h
        refine lv_ldc (v := (-1000000001 : Int32)) hx hb hown (hts (.constant RX8 77 (-1000000001)) (by decide +kernel)) dX8_refuses_36 ?_
        obtain rfl := Option.some.inj h
        exact hRet hP hD hS dX8_refuses_38
      · have h := ifn c_6 h
        refine lv_iconst (v := (0 : Int32)) hx hb dX8_refuses_32 (by decide) ?_
        refine lv_goto (tgt := 38) hx hb dX8_refuses_33 (by decide) ?_
        obtain rfl := Option.some.inj h
        exact hRet hP hD hS dX8_refuses_38
    · have h := ifp c_4 h
      refine lv_ldcw (v := (-1000000006 : Int32)) hx hb hown (hts (.constant RX8 345 (-1000000006)) (by decide +kernel)) dX8_refuses_19 ?_
      refine lv_goto (tgt := 38) hx hb dX8_refuses_22 (by decide) ?_
      obtain rfl := Option.some.inj h
      exact hRet hP hD hS dX8_refuses_38
  · have h := ifp c_2 h
    refine lv_ldc (v := (-1000000001 : Int32)) hx hb hown (hts (.constant RX8 77 (-1000000001)) (by decide +kernel)) dX8_refuses_7 ?_
    obtain rfl := Option.some.inj h
    exact hRet hP hD hS dX8_refuses_9
abbrev rm_X8_ledger : Room := { frames := 7, cells := 0, slots := 0, locals := 164 }
theorem hd_X8_ledger : yX8_ledger.cls = RX8 ∧ yX8_ledger.cls ≠ "java/lang/invoke/MethodHandle" ∧ yX8_ledger.cls ≠ "java/lang/invoke/VarHandle" ∧ (parseMethodDescriptor yX8_ledger.desc).map (fun d => d.parameters.length) = some 2 := by decide +kernel
set_option maxHeartbeats 4000000 in
set_option maxRecDepth 100000 in
theorem c_X8_ledger {l : Launch} {G : va_G} {ca : Nat → ClassId} {ev : Nat → Nat} {h0 h1 h2 h3 h4 h5 h6 h7 h8 h9 h10 h11 h12 h13 h14 h15 h16 h17 : Nat} {now : (Nat → Int32)} {kept : (Nat → Int32)} {isKept : Int32} {found : (Nat → Int32)} {order : (Nat → Int32)} {doubts : (Nat → Int32)} {doubtMany : Int32} {weights : (Nat → Int64)} {worn : (Nat → Int32)} {pairs : Int64} {isTwice : Int32} {doer : (Nat → Int32)} {doneTo : (Nat → Int32)} {doers : (Nat → Int64)} {tape : (Nat → Int32)} {taped : Int32} {begins : Int32} {ends : Int32} {sort : Int32} {value : Int32} {isWrong : Int32} {items : (Nat → Int32)} {itemMany : Int32} {bowThen : Int32} {doubtThen : Int32} {deedThen : Int32} {sayingThen : Int32} {widths : (Nat → Int32)} {sizes : (Nat → Int32)} {numbers : (Nat → Int64)} {moved : (Nat → Int64)} {a1 : Int32} {a2 : Int32} {N : Nat} {res : Int32 × (Nat → Int32) × (Nat → Int32) × (Nat → Int32) × Int32 × (Nat → Int64) × (Nat → Int32) × Int64 × Int32 × (Nat → Int64)} (h : f_X8_ledger N now found order doubts doubtMany weights worn pairs isTwice widths sizes numbers a1 a2 = some res) : CtI l yX8_ledger wsX8_ledger rm_X8_ledger G ca ev [.ref h0, .int a1, .int a2] (wM ca ev h0 h1 h2 h3 h4 h5 h6 h7 h8 h9 h10 h11 h12 h13 h14 h15 h16 h17 now kept isKept found order doubts doubtMany weights worn pairs isTwice doer doneTo doers tape taped begins ends sort value isWrong items itemMany bowThen doubtThen deedThen sayingThen widths sizes numbers moved) (wM ca ev h0 h1 h2 h3 h4 h5 h6 h7 h8 h9 h10 h11 h12 h13 h14 h15 h16 h17 now kept isKept res.2.1 res.2.2.1 res.2.2.2.1 res.2.2.2.2.1 res.2.2.2.2.2.1 res.2.2.2.2.2.2.1 res.2.2.2.2.2.2.2.1 res.2.2.2.2.2.2.2.2.1 doer doneTo doers tape taped begins ends sort value isWrong items itemMany bowThen doubtThen deedThen sayingThen widths sizes res.2.2.2.2.2.2.2.2.2 moved) res.1 := by
  unfold f_X8_ledger at h
  refine en_i (by decide) rfl (Nat.le_of_ble_eq_true rfl) ?_
  intro p e s m args below meth c A Q H locs ls hx hb hml hown hts hA hP hK hD hE hS hl hRet
  have hown : s.vm.findClass RX8 = some m.cls := hown
  have hl : lv_has ls 6 [(0, .ref h0), (1, .int a1), (2, .int a2)] := hl
  have hin_X8 : ∀ w ∈ u_ws RX8 TX8 32, w ∈ wsX8_ledger := fun w h9 => List.mem_cons_of_mem _ (List.mem_append_right _ h9)
  have fk_29 := hts (.fieldLink RX8 29 "MaskBowsModel" "worn" "[I") (by decide +kernel)
  have fk_68 := hts (.fieldLink RX8 68 "MaskBowsModel" "sizes" "[I") (by decide +kernel)
  have fk_71 := hts (.fieldLink RX8 71 "MaskBowsModel" "numbers" "[J") (by decide +kernel)
  have fk_9 := hts (.fieldLink RX8 9 "MaskBowsModel" "now" "[I") (by decide +kernel)
  refine lv_aload_n hx hb dX8_ledger_0 rfl (lv_at hl 0 rfl) ?_
  refine lv_iload_n hx hb dX8_ledger_1 rfl (lv_at hl 1 rfl) ?_
  refine lv_iload_n hx hb dX8_ledger_2 rfl (lv_at hl 2 rfl) ?_
  obtain ⟨u_1, e_1, h⟩ := bd_some h
  refine cm_Vi (As := [.int a1, .int a2]) (rest := []) ⟨hx, hb, hml, hown, hts⟩ (c_X8_refuses (ca := ca) (ev := ev) (h0 := h0) (h1 := h1) (h2 := h2) (h3 := h3) (h4 := h4) (h5 := h5) (h6 := h6) (h7 := h7) (h8 := h8) (h9 := h9) (h10 := h10) (h11 := h11) (h12 := h12) (h13 := h13) (h14 := h14) (h15 := h15) (h16 := h16) (h17 := h17) (now := now) (kept := kept) (isKept := isKept) (found := found) (order := order) (doubts := doubts) (doubtMany := doubtMany) (weights := weights) (worn := worn) (pairs := pairs) (isTwice := isTwice) (doer := doer) (doneTo := doneTo) (doers := doers) (tape := tape) (taped := taped) (begins := begins) (ends := ends) (sort := sort) (value := value) (isWrong := isWrong) (items := items) (itemMany := itemMany) (bowThen := bowThen) (doubtThen := doubtThen) (deedThen := deedThen) (sayingThen := sayingThen) (widths := widths) (sizes := sizes) (numbers := numbers) (moved := moved) e_1) (cwV 2 hts gX8_ledger_X8_refuses rfl rfl rfl hd_X8_refuses ⟨Nat.le_of_ble_eq_true rfl, Nat.le_of_ble_eq_true rfl⟩) hK hP hD hS hA hE (q0 := 0) (ci := 8) rfl rfl rfl rfl hl.1 rfl (Nat.le_of_ble_eq_true rfl) dX8_ledger_3 ⟨Nat.zero_le _, Nat.zero_le _⟩ (fun H locs hP hD hS => ?_)
  refine lv_istore_n (lv' := [(3, .int u_1), (0, .ref h0), (1, .int a1), (2, .int a2)]) hx hb dX8_ledger_6 rfl hl (by decide) rfl (fun ls hl => ?_)
  refine lv_iload_n hx hb dX8_ledger_7 rfl (lv_at hl 0 rfl) ?_
  refine lv_if_eq (tgt := 17) hx hb dX8_ledger_8 (by decide) (fun c_2 => ?_) (fun c_2 => ?_)
  · have h := ifp c_2 h
    refine lv_aload_n hx hb dX8_ledger_17 rfl (lv_at hl 1 rfl) ?_
    refine lv_iload_n hx hb dX8_ledger_18 rfl (lv_at hl 3 rfl) ?_
    obtain ⟨u_3, e_3, h⟩ := bd_some h
    refine cm_Vi (As := [.int a2]) (rest := []) ⟨hx, hb, hml, hown, hts⟩ (c_X8_goesLikeliest (ca := ca) (ev := ev) (h0 := h0) (h1 := h1) (h2 := h2) (h3 := h3) (h4 := h4) (h5 := h5) (h6 := h6) (h7 := h7) (h8 := h8) (h9 := h9) (h10 := h10) (h11 := h11) (h12 := h12) (h13 := h13) (h14 := h14) (h15 := h15) (h16 := h16) (h17 := h17) (now := now) (kept := kept) (isKept := isKept) (found := found) (order := order) (doubts := doubts) (doubtMany := doubtMany) (weights := weights) (worn := worn) (pairs := pairs) (isTwice := isTwice) (doer := doer) (doneTo := doneTo) (doers := doers) (tape := tape) (taped := taped) (begins := begins) (ends := ends) (sort := sort) (value := value) (isWrong := isWrong) (items := items) (itemMany := itemMany) (bowThen := bowThen) (doubtThen := doubtThen) (deedThen := deedThen) (sayingThen := sayingThen) (widths := widths) (sizes := sizes) (numbers := numbers) (moved := moved) e_3) (cwV 1 hts gX8_ledger_X8_goesLikeliest rfl rfl rfl hd_X8_goesLikeliest ⟨Nat.le_of_ble_eq_true rfl, Nat.le_of_ble_eq_true rfl⟩) hK hP hD hS hA hE (q0 := 0) (ci := 8) rfl rfl rfl rfl hl.1 rfl (Nat.le_of_ble_eq_true rfl) dX8_ledger_19 ⟨Nat.zero_le _, Nat.zero_le _⟩ (fun H locs hP hD hS => ?_)
    refine lv_if_ne (tgt := 32) hx hb dX8_ledger_22 (by decide) (fun c_4 => ?_) (fun c_4 => ?_)
    · have h := ifn c_4 h
      refine lv_aload_n hx hb dX8_ledger_32 rfl (lv_at hl 1 rfl) ?_
      refine va_get (D := G) (ci := 8) (v := .ref h15) (C := RX8) (T := TX8) (N := 32) hx hb hts hin_X8 hown hK hP 0 rfl rfl 29 (by decide) fk_68 (fun _ h9 => h9) rfl dX8_ledger_33 ?_
      refine lv_iload_n hx hb dX8_ledger_36 rfl (lv_at hl 2 rfl) ?_
      obtain ⟨i_5, h⟩ := gd_some h
      refine va_iald hx hb hK hP 15 0 rfl rfl (ix_in i_5) dX8_ledger_37 ?_
      refine lv_aload_n hx hb dX8_ledger_38 rfl (lv_at hl 1 rfl) ?_
      refine va_get (D := G) (ci := 8) (v := .ref h1) (C := RX8) (T := TX8) (N := 32) hx hb hts hin_X8 hown hK hP 0 rfl rfl 0 (by decide) fk_9 (fun _ h9 => h9) rfl dX8_ledger_39 ?_
      refine lv_iconst (v := (0 : Int32)) hx hb dX8_ledger_42 (by decide) ?_
      refine va_iald hx hb hK hP 1 0 rfl rfl (ix_in (by decide)) dX8_ledger_43 ?_
      refine va_mmin hx hb (hml.trans hl.1.symm) hown (hts (.methodLink RX8 145 Lib.Math.min.name) (by decide +kernel)) (hts (.static Lib.Math.min.name) (by decide +kernel)) (hts (.initialized "java/lang/Math") (by decide +kernel)) (hts (.code Lib.Math.min.name Lib.Math.min.code 2 (some .int)) (by decide +kernel)) (Nat.le_of_ble_eq_true rfl) (Nat.le_of_ble_eq_true rfl) (Nat.zero_le _) (Nat.zero_le _) dX8_ledger_44 ?_
      refine lv_istore (lv' := [(4, .int (if (now (0 : Int32).toNatClampNeg) < (sizes a1.toNatClampNeg) then (now (0 : Int32).toNatClampNeg) else (sizes a1.toNatClampNeg))), (3, .int u_1), (0, .ref h0), (1, .int a1), (2, .int a2)]) hx hb dX8_ledger_47 hl (by decide) rfl (fun ls hl => ?_)
      refine lv_iconst (v := (0 : Int32)) hx hb dX8_ledger_49 (by decide) ?_
      refine lv_istore (lv' := [(5, .int (0 : Int32)), (4, .int (if (now (0 : Int32).toNatClampNeg) < (sizes a1.toNatClampNeg) then (now (0 : Int32).toNatClampNeg) else (sizes a1.toNatClampNeg))), (3, .int u_1), (0, .ref h0), (1, .int a1), (2, .int a2)]) hx hb dX8_ledger_50 hl (by decide) rfl (fun ls hl => ?_)
      have L_52 : ∀ {x1_52 : Int32} {x4_52 : Int32} {worn_52 : (Nat → Int32)} (n_52 : Nat) {x5_52 : Int32} {numbers_52 : (Nat → Int64)} {uL_52 : (Nat → Int64)} {H : Heap} {locs : List Loc} {ls : Array Slot}, f_X8_ledger_52 x1_52 x4_52 worn_52  n_52 x5_52 numbers_52 = some uL_52 → va_P G vwCl (wM ca ev h0 h1 h2 h3 h4 h5 h6 h7 h8 h9 h10 h11 h12 h13 h14 h15 h16 h17 now kept isKept found u_3.2.1 u_3.2.2.1 u_3.2.2.2.1 u_3.2.2.2.2.1 worn_52 u_3.2.2.2.2.2.2.1 u_3.2.2.2.2.2.2.2 doer doneTo doers tape taped begins ends sort value isWrong items itemMany bowThen doubtThen deedThen sayingThen widths sizes numbers_52 moved) H → va_D A (wM ca ev h0 h1 h2 h3 h4 h5 h6 h7 h8 h9 h10 h11 h12 h13 h14 h15 h16 h17 now kept isKept found u_3.2.1 u_3.2.2.1 u_3.2.2.2.1 u_3.2.2.2.2.1 worn_52 u_3.2.2.2.2.2.2.1 u_3.2.2.2.2.2.2.2 doer doneTo doers tape taped begins ends sort value isWrong items itemMany bowThen doubtThen deedThen sayingThen widths sizes numbers_52 moved) → va_S A s.heap H locs → lv_has ls 6 [(0, .ref h0), (1, .int x1_52), (4, .int x4_52), (5, .int x5_52)] → (∀ {H : Heap} {locs : List Loc} {ls : Array Slot}, va_P G vwCl (wM ca ev h0 h1 h2 h3 h4 h5 h6 h7 h8 h9 h10 h11 h12 h13 h14 h15 h16 h17 now kept isKept found u_3.2.1 u_3.2.2.1 u_3.2.2.2.1 u_3.2.2.2.2.1 worn_52 u_3.2.2.2.2.2.2.1 u_3.2.2.2.2.2.2.2 doer doneTo doers tape taped begins ends sort value isWrong items itemMany bowThen doubtThen deedThen sayingThen widths sizes uL_52 moved) H → va_D A (wM ca ev h0 h1 h2 h3 h4 h5 h6 h7 h8 h9 h10 h11 h12 h13 h14 h15 h16 h17 now kept isKept found u_3.2.1 u_3.2.2.1 u_3.2.2.2.1 u_3.2.2.2.2.1 worn_52 u_3.2.2.2.2.2.2.1 u_3.2.2.2.2.2.2.2 doer doneTo doers tape taped begins ends sort value isWrong items itemMany bowThen doubtThen deedThen sayingThen widths sizes uL_52 moved) → va_S A s.heap H locs → lv_has ls 6 [(4, .int x4_52)] → W p l e rm_X8_ledger s m args below meth c H locs 0 0 Q (F0 m 85 ls [])) → W p l e rm_X8_ledger s m args below meth c H locs 0 0 Q (F0 m 52 ls []) := by
        intro x1_52 x4_52 worn_52 n_52
        induction n_52 with
        | zero => intro x5_52 numbers_52 uL_52 H locs ls h; exact absurd h (by rw [f_X8_ledger_52]; exact fun z => nomatch z)
        | succ n_52 ih =>
          intro x5_52 numbers_52 uL_52 H locs ls h hP hD hS hl JK_52
          rw [f_X8_ledger_52] at h
          refine lv_iload hx hb dX8_ledger_52 (lv_at hl 3 rfl) ?_
          refine lv_iload hx hb dX8_ledger_54 (lv_at hl 2 rfl) ?_
          refine lv_icmp_ge (tgt := 85) hx hb dX8_ledger_56 (by decide) (fun c_6 => ?_) (fun c_6 => ?_)
          · have h := ifp c_6 h
            obtain rfl := Option.some.inj h
            exact JK_52 hP hD hS (lv_sub hl [2] rfl)
          · have h := ifn c_6 h
            refine lv_aload_n hx hb dX8_ledger_59 rfl (lv_at hl 0 rfl) ?_
            refine va_get (D := G) (ci := 8) (v := .ref h16) (C := RX8) (T := TX8) (N := 32) hx hb hts hin_X8 hown hK hP 0 rfl rfl 30 (by decide) fk_71 (fun _ h9 => h9) rfl dX8_ledger_60 ?_
            refine lv_bipush (v := (40 : Int32)) hx hb dX8_ledger_63 (by decide) ?_
            refine lv_iload_n hx hb dX8_ledger_65 rfl (lv_at hl 1 rfl) ?_
            refine lv_imul hx hb dX8_ledger_66 ?_
            refine lv_iload hx hb dX8_ledger_67 (lv_at hl 3 rfl) ?_
            refine lv_iadd hx hb dX8_ledger_69 ?_
            refine lv_aload_n hx hb dX8_ledger_70 rfl (lv_at hl 0 rfl) ?_
            refine va_get (D := G) (ci := 8) (v := .ref h7) (C := RX8) (T := TX8) (N := 32) hx hb hts hin_X8 hown hK hP 0 rfl rfl 8 (by decide) fk_29 (fun _ h9 => h9) rfl dX8_ledger_71 ?_
            refine lv_iload hx hb dX8_ledger_74 (lv_at hl 3 rfl) ?_
            obtain ⟨i_7, h⟩ := gd_some h
            refine va_iald hx hb hK hP 7 0 rfl rfl (ix_in i_7) dX8_ledger_76 ?_
            refine lv_i2l (v := (worn_52 x5_52.toNatClampNeg).toInt64) hx hb dX8_ledger_77 rfl ?_
            obtain ⟨i_8, h⟩ := gd_some h
            refine va_last hx hb hK hP hD hS 16 1 rfl rfl (ix_in i_8) dX8_ledger_78 (fun H locs hP hD hS => ?_)
            have hP : va_P G vwCl (wM ca ev h0 h1 h2 h3 h4 h5 h6 h7 h8 h9 h10 h11 h12 h13 h14 h15 h16 h17 now kept isKept found u_3.2.1 u_3.2.2.1 u_3.2.2.2.1 u_3.2.2.2.2.1 worn_52 u_3.2.2.2.2.2.2.1 u_3.2.2.2.2.2.2.2 doer doneTo doers tape taped begins ends sort value isWrong items itemMany bowThen doubtThen deedThen sayingThen widths sizes (vp_updL numbers_52 (((40 : Int32) * x1_52) + x5_52).toNatClampNeg ((worn_52 x5_52.toNatClampNeg).toInt64)) moved) H := hP
            have hD : va_D A (wM ca ev h0 h1 h2 h3 h4 h5 h6 h7 h8 h9 h10 h11 h12 h13 h14 h15 h16 h17 now kept isKept found u_3.2.1 u_3.2.2.1 u_3.2.2.2.1 u_3.2.2.2.2.1 worn_52 u_3.2.2.2.2.2.2.1 u_3.2.2.2.2.2.2.2 doer doneTo doers tape taped begins ends sort value isWrong items itemMany bowThen doubtThen deedThen sayingThen widths sizes (vp_updL numbers_52 (((40 : Int32) * x1_52) + x5_52).toNatClampNeg ((worn_52 x5_52.toNatClampNeg).toInt64)) moved) := hD
            refine lv_iinc (v := (x5_52 + (1 : Int32))) (lv' := [(5, .int (x5_52 + (1 : Int32))), (0, .ref h0), (1, .int x1_52), (4, .int x4_52)]) hx hb dX8_ledger_79 hl (k := 3) rfl rfl (by decide) rfl (fun ls hl => ?_)
            refine lv_goto (tgt := 52) hx hb dX8_ledger_82 (by decide) ?_
            exact ih h hP hD hS (lv_sub hl [1, 2, 3, 0] rfl) JK_52
      obtain ⟨u_9, e_9, h⟩ := bd_some h
      refine L_52 _ e_9 hP hD hS (lv_sub hl [3, 4, 1, 0] rfl) ?_
      intro H locs ls hP hD hS hl
      refine lv_iload hx hb dX8_ledger_85 (lv_at hl 0 rfl) ?_
      obtain rfl := Option.some.inj h
      exact hRet hP hD hS dX8_ledger_87
    · have h := ifp c_4 h
      refine lv_aload_n hx hb dX8_ledger_25 rfl (lv_at hl 1 rfl) ?_
      refine lv_ldc (v := (-1000000004 : Int32)) hx hb hown (hts (.constant RX8 179 (-1000000004)) (by decide +kernel)) dX8_ledger_26 ?_
      obtain ⟨u_10, e_10, h⟩ := bd_some h
      refine cm_Vi (As := [.int (-1000000004 : Int32)]) (rest := []) ⟨hx, hb, hml, hown, hts⟩ (c_X8_finding (ca := ca) (ev := ev) (h0 := h0) (h1 := h1) (h2 := h2) (h3 := h3) (h4 := h4) (h5 := h5) (h6 := h6) (h7 := h7) (h8 := h8) (h9 := h9) (h10 := h10) (h11 := h11) (h12 := h12) (h13 := h13) (h14 := h14) (h15 := h15) (h16 := h16) (h17 := h17) (now := now) (kept := kept) (isKept := isKept) (found := found) (order := u_3.2.1) (doubts := u_3.2.2.1) (doubtMany := u_3.2.2.2.1) (weights := u_3.2.2.2.2.1) (worn := u_3.2.2.2.2.2.1) (pairs := u_3.2.2.2.2.2.2.1) (isTwice := u_3.2.2.2.2.2.2.2) (doer := doer) (doneTo := doneTo) (doers := doers) (tape := tape) (taped := taped) (begins := begins) (ends := ends) (sort := sort) (value := value) (isWrong := isWrong) (items := items) (itemMany := itemMany) (bowThen := bowThen) (doubtThen := doubtThen) (deedThen := deedThen) (sayingThen := sayingThen) (widths := widths) (sizes := sizes) (numbers := numbers) (moved := moved) e_10) (cwV 1 hts gX8_ledger_X8_finding rfl rfl rfl hd_X8_finding ⟨Nat.le_of_ble_eq_true rfl, Nat.le_of_ble_eq_true rfl⟩) hK hP hD hS hA hE (q0 := 0) (ci := 8) rfl rfl rfl rfl hl.1 rfl (Nat.le_of_ble_eq_true rfl) dX8_ledger_28 ⟨Nat.zero_le _, Nat.zero_le _⟩ (fun H locs hP hD hS => ?_)
      obtain rfl := Option.some.inj h
      exact hRet hP hD hS dX8_ledger_31
  · have h := ifn c_2 h
    refine lv_aload_n hx hb dX8_ledger_11 rfl (lv_at hl 1 rfl) ?_
    refine lv_iload_n hx hb dX8_ledger_12 rfl (lv_at hl 0 rfl) ?_
    obtain ⟨u_11, e_11, h⟩ := bd_some h
    refine cm_Vi (As := [.int u_1]) (rest := []) ⟨hx, hb, hml, hown, hts⟩ (c_X8_finding (ca := ca) (ev := ev) (h0 := h0) (h1 := h1) (h2 := h2) (h3 := h3) (h4 := h4) (h5 := h5) (h6 := h6) (h7 := h7) (h8 := h8) (h9 := h9) (h10 := h10) (h11 := h11) (h12 := h12) (h13 := h13) (h14 := h14) (h15 := h15) (h16 := h16) (h17 := h17) (now := now) (kept := kept) (isKept := isKept) (found := found) (order := order) (doubts := doubts) (doubtMany := doubtMany) (weights := weights) (worn := worn) (pairs := pairs) (isTwice := isTwice) (doer := doer) (doneTo := doneTo) (doers := doers) (tape := tape) (taped := taped) (begins := begins) (ends := ends) (sort := sort) (value := value) (isWrong := isWrong) (items := items) (itemMany := itemMany) (bowThen := bowThen) (doubtThen := doubtThen) (deedThen := deedThen) (sayingThen := sayingThen) (widths := widths) (sizes := sizes) (numbers := numbers) (moved := moved) e_11) (cwV 1 hts gX8_ledger_X8_finding rfl rfl rfl hd_X8_finding ⟨Nat.le_of_ble_eq_true rfl, Nat.le_of_ble_eq_true rfl⟩) hK hP hD hS hA hE (q0 := 0) (ci := 8) rfl rfl rfl rfl hl.1 rfl (Nat.le_of_ble_eq_true rfl) dX8_ledger_13 ⟨Nat.zero_le _, Nat.zero_le _⟩ (fun H locs hP hD hS => ?_)
    obtain rfl := Option.some.inj h
    exact hRet hP hD hS dX8_ledger_16
abbrev rm_X8_read : Room := { frames := 5, cells := 0, slots := 0, locals := 120 }
theorem hd_X8_read : yX8_read.cls = RX8 ∧ yX8_read.cls ≠ "java/lang/invoke/MethodHandle" ∧ yX8_read.cls ≠ "java/lang/invoke/VarHandle" ∧ (parseMethodDescriptor yX8_read.desc).map (fun d => d.parameters.length) = some 2 := by decide +kernel
set_option maxHeartbeats 4000000 in
set_option maxRecDepth 100000 in
theorem c_X8_read {l : Launch} {G : va_G} {ca : Nat → ClassId} {ev : Nat → Nat} {h0 h1 h2 h3 h4 h5 h6 h7 h8 h9 h10 h11 h12 h13 h14 h15 h16 h17 : Nat} {now : (Nat → Int32)} {kept : (Nat → Int32)} {isKept : Int32} {found : (Nat → Int32)} {order : (Nat → Int32)} {doubts : (Nat → Int32)} {doubtMany : Int32} {weights : (Nat → Int64)} {worn : (Nat → Int32)} {pairs : Int64} {isTwice : Int32} {doer : (Nat → Int32)} {doneTo : (Nat → Int32)} {doers : (Nat → Int64)} {tape : (Nat → Int32)} {taped : Int32} {begins : Int32} {ends : Int32} {sort : Int32} {value : Int32} {isWrong : Int32} {items : (Nat → Int32)} {itemMany : Int32} {bowThen : Int32} {doubtThen : Int32} {deedThen : Int32} {sayingThen : Int32} {widths : (Nat → Int32)} {sizes : (Nat → Int32)} {numbers : (Nat → Int64)} {moved : (Nat → Int64)} {a1 : Int32} {a2 : Int32} {N : Nat} {res : Int64 × (Nat → Int32) × (Nat → Int32) × (Nat → Int32) × Int32 × (Nat → Int64) × (Nat → Int32) × Int64 × Int32} (h : f_X8_read N now found order doubts doubtMany weights worn pairs isTwice widths sizes numbers a1 a2 = some res) : CtL l yX8_read wsX8_read rm_X8_read G ca ev [.ref h0, .int a1, .int a2] (wM ca ev h0 h1 h2 h3 h4 h5 h6 h7 h8 h9 h10 h11 h12 h13 h14 h15 h16 h17 now kept isKept found order doubts doubtMany weights worn pairs isTwice doer doneTo doers tape taped begins ends sort value isWrong items itemMany bowThen doubtThen deedThen sayingThen widths sizes numbers moved) (wM ca ev h0 h1 h2 h3 h4 h5 h6 h7 h8 h9 h10 h11 h12 h13 h14 h15 h16 h17 now kept isKept res.2.1 res.2.2.1 res.2.2.2.1 res.2.2.2.2.1 res.2.2.2.2.2.1 res.2.2.2.2.2.2.1 res.2.2.2.2.2.2.2.1 res.2.2.2.2.2.2.2.2 doer doneTo doers tape taped begins ends sort value isWrong items itemMany bowThen doubtThen deedThen sayingThen widths sizes numbers moved) res.1 := by
  unfold f_X8_read at h
  refine en_l (by decide) rfl (Nat.le_of_ble_eq_true rfl) ?_
  intro p e s m args below meth c A Q H locs ls hx hb hml hown hts hA hP hK hD hE hS hl hRet
  have hown : s.vm.findClass RX8 = some m.cls := hown
  have hl : lv_has ls 9 [(0, .ref h0), (1, .int a1), (2, .int a2)] := hl
  have hin_X8 : ∀ w ∈ u_ws RX8 TX8 32, w ∈ wsX8_read := fun w h9 => List.mem_cons_of_mem _ (List.mem_append_right _ h9)
  have fk_25 := hts (.fieldLink RX8 25 "MaskBowsModel" "weights" "[J") (by decide +kernel)
  have fk_29 := hts (.fieldLink RX8 29 "MaskBowsModel" "worn" "[I") (by decide +kernel)
  have fk_68 := hts (.fieldLink RX8 68 "MaskBowsModel" "sizes" "[I") (by decide +kernel)
  have fk_71 := hts (.fieldLink RX8 71 "MaskBowsModel" "numbers" "[J") (by decide +kernel)
  have fk_9 := hts (.fieldLink RX8 9 "MaskBowsModel" "now" "[I") (by decide +kernel)
  refine lv_aload_n hx hb dX8_read_0 rfl (lv_at hl 0 rfl) ?_
  refine lv_iload_n hx hb dX8_read_1 rfl (lv_at hl 1 rfl) ?_
  refine lv_iload_n hx hb dX8_read_2 rfl (lv_at hl 2 rfl) ?_
  obtain ⟨u_1, e_1, h⟩ := bd_some h
  refine cm_Vi (As := [.int a1, .int a2]) (rest := []) ⟨hx, hb, hml, hown, hts⟩ (c_X8_refuses (ca := ca) (ev := ev) (h0 := h0) (h1 := h1) (h2 := h2) (h3 := h3) (h4 := h4) (h5 := h5) (h6 := h6) (h7 := h7) (h8 := h8) (h9 := h9) (h10 := h10) (h11 := h11) (h12 := h12) (h13 := h13) (h14 := h14) (h15 := h15) (h16 := h16) (h17 := h17) (now := now) (kept := kept) (isKept := isKept) (found := found) (order := order) (doubts := doubts) (doubtMany := doubtMany) (weights := weights) (worn := worn) (pairs := pairs) (isTwice := isTwice) (doer := doer) (doneTo := doneTo) (doers := doers) (tape := tape) (taped := taped) (begins := begins) (ends := ends) (sort := sort) (value := value) (isWrong := isWrong) (items := items) (itemMany := itemMany) (bowThen := bowThen) (doubtThen := doubtThen) (deedThen := deedThen) (sayingThen := sayingThen) (widths := widths) (sizes := sizes) (numbers := numbers) (moved := moved) e_1) (cwV 2 hts gX8_read_X8_refuses rfl rfl rfl hd_X8_refuses ⟨Nat.le_of_ble_eq_true rfl, Nat.le_of_ble_eq_true rfl⟩) hK hP hD hS hA hE (q0 := 0) (ci := 8) rfl rfl rfl rfl hl.1 rfl (Nat.le_of_ble_eq_true rfl) dX8_read_3 ⟨Nat.zero_le _, Nat.zero_le _⟩ (fun H locs hP hD hS => ?_)
  refine lv_istore_n (lv' := [(3, .int u_1), (0, .ref h0), (1, .int a1), (2, .int a2)]) hx hb dX8_read_6 rfl hl (by decide) rfl (fun ls hl => ?_)
  refine lv_iload_n hx hb dX8_read_7 rfl (lv_at hl 0 rfl) ?_
  refine lv_if_eq (tgt := 18) hx hb dX8_read_8 (by decide) (fun c_2 => ?_) (fun c_2 => ?_)
  · have h := ifp c_2 h
    refine lv_aload_n hx hb dX8_read_18 rfl (lv_at hl 1 rfl) ?_
    obtain ⟨u_3, e_3, h⟩ := bd_some h
    refine cm_Vl (As := []) (rest := []) ⟨hx, hb, hml, hown, hts⟩ (c_X8_weigh (ca := ca) (ev := ev) (h0 := h0) (h1 := h1) (h2 := h2) (h3 := h3) (h4 := h4) (h5 := h5) (h6 := h6) (h7 := h7) (h8 := h8) (h9 := h9) (h10 := h10) (h11 := h11) (h12 := h12) (h13 := h13) (h14 := h14) (h15 := h15) (h16 := h16) (h17 := h17) (now := now) (kept := kept) (isKept := isKept) (found := found) (order := order) (doubts := doubts) (doubtMany := doubtMany) (weights := weights) (worn := worn) (pairs := pairs) (isTwice := isTwice) (doer := doer) (doneTo := doneTo) (doers := doers) (tape := tape) (taped := taped) (begins := begins) (ends := ends) (sort := sort) (value := value) (isWrong := isWrong) (items := items) (itemMany := itemMany) (bowThen := bowThen) (doubtThen := doubtThen) (deedThen := deedThen) (sayingThen := sayingThen) (widths := widths) (sizes := sizes) (numbers := numbers) (moved := moved) e_3) (cwV 0 hts gX8_read_X8_weigh rfl rfl rfl hd_X8_weigh ⟨Nat.le_of_ble_eq_true rfl, Nat.le_of_ble_eq_true rfl⟩) hK hP hD hS hA hE (q0 := 0) (ci := 8) rfl rfl rfl rfl hl.1 rfl (Nat.le_of_ble_eq_true rfl) dX8_read_19 ⟨Nat.zero_le _, Nat.zero_le _⟩ (fun H locs hP hD hS => ?_)
    refine lv_pop2_2 hx hb dX8_read_22 rfl ?_
    refine lv_lconst (v := (0 : Int64)) hx hb dX8_read_23 (by decide) ?_
    refine lv_lstore (lv' := [(4, .long (0 : Int64)), (3, .int u_1), (0, .ref h0), (1, .int a1), (2, .int a2)]) hx hb dX8_read_24 hl (by decide) rfl (fun ls hl => ?_)
    refine lv_iconst (v := (0 : Int32)) hx hb dX8_read_26 (by decide) ?_
    refine lv_istore (lv' := [(6, .int (0 : Int32)), (4, .long (0 : Int64)), (3, .int u_1), (0, .ref h0), (1, .int a1), (2, .int a2)]) hx hb dX8_read_27 hl (by decide) rfl (fun ls hl => ?_)
    have L_29 : ∀ {x1_29 : Int32} {x2_29 : Int32} {now_29 : (Nat → Int32)} {order_29 : (Nat → Int32)} {doubts_29 : (Nat → Int32)} {doubtMany_29 : Int32} {weights_29 : (Nat → Int64)} {sizes_29 : (Nat → Int32)} {numbers_29 : (Nat → Int64)} (n_29 : Nat) {x4_29 : Int64} {x6_29 : Int32} {worn_29 : (Nat → Int32)} {pairs_29 : Int64} {isTwice_29 : Int32} {uL_29 : Int64 × (Nat → Int32) × Int64 × Int32} {H : Heap} {locs : List Loc} {ls : Array Slot}, f_X8_read_29 N x1_29 x2_29 now_29 order_29 doubts_29 doubtMany_29 weights_29 sizes_29 numbers_29  n_29 x4_29 x6_29 worn_29 pairs_29 isTwice_29 = some uL_29 → va_P G vwCl (wM ca ev h0 h1 h2 h3 h4 h5 h6 h7 h8 h9 h10 h11 h12 h13 h14 h15 h16 h17 now_29 kept isKept found order_29 doubts_29 doubtMany_29 weights_29 worn_29 pairs_29 isTwice_29 doer doneTo doers tape taped begins ends sort value isWrong items itemMany bowThen doubtThen deedThen sayingThen widths sizes_29 numbers_29 moved) H → va_D A (wM ca ev h0 h1 h2 h3 h4 h5 h6 h7 h8 h9 h10 h11 h12 h13 h14 h15 h16 h17 now_29 kept isKept found order_29 doubts_29 doubtMany_29 weights_29 worn_29 pairs_29 isTwice_29 doer doneTo doers tape taped begins ends sort value isWrong items itemMany bowThen doubtThen deedThen sayingThen widths sizes_29 numbers_29 moved) → va_S A s.heap H locs → lv_has ls 9 [(0, .ref h0), (1, .int x1_29), (2, .int x2_29), (4, .long x4_29), (6, .int x6_29)] → (∀ {H : Heap} {locs : List Loc} {ls : Array Slot}, va_P G vwCl (wM ca ev h0 h1 h2 h3 h4 h5 h6 h7 h8 h9 h10 h11 h12 h13 h14 h15 h16 h17 now_29 kept isKept found order_29 doubts_29 doubtMany_29 weights_29 uL_29.2.1 uL_29.2.2.1 uL_29.2.2.2 doer doneTo doers tape taped begins ends sort value isWrong items itemMany bowThen doubtThen deedThen sayingThen widths sizes_29 numbers_29 moved) H → va_D A (wM ca ev h0 h1 h2 h3 h4 h5 h6 h7 h8 h9 h10 h11 h12 h13 h14 h15 h16 h17 now_29 kept isKept found order_29 doubts_29 doubtMany_29 weights_29 uL_29.2.1 uL_29.2.2.1 uL_29.2.2.2 doer doneTo doers tape taped begins ends sort value isWrong items itemMany bowThen doubtThen deedThen sayingThen widths sizes_29 numbers_29 moved) → va_S A s.heap H locs → lv_has ls 9 [(4, .long uL_29.1)] → W p l e rm_X8_read s m args below meth c H locs 0 0 Q (F0 m 142 ls [])) → W p l e rm_X8_read s m args below meth c H locs 0 0 Q (F0 m 29 ls []) := by
      intro x1_29 x2_29 now_29 order_29 doubts_29 doubtMany_29 weights_29 sizes_29 numbers_29 n_29
      induction n_29 with
      | zero => intro x4_29 x6_29 worn_29 pairs_29 isTwice_29 uL_29 H locs ls h; exact absurd h (by rw [f_X8_read_29]; exact fun z => nomatch z)
      | succ n_29 ih =>
        intro x4_29 x6_29 worn_29 pairs_29 isTwice_29 uL_29 H locs ls h hP hD hS hl JK_29
        rw [f_X8_read_29] at h
        refine lv_iload hx hb dX8_read_29 (lv_at hl 4 rfl) ?_
        refine lv_aload_n hx hb dX8_read_31 rfl (lv_at hl 0 rfl) ?_
        obtain ⟨u_4, e_4, h⟩ := bd_some h
        refine cm_Vi (As := []) (rest := [.int x6_29]) ⟨hx, hb, hml, hown, hts⟩ (c_X8_nightsThere (ca := ca) (ev := ev) (h0 := h0) (h1 := h1) (h2 := h2) (h3 := h3) (h4 := h4) (h5 := h5) (h6 := h6) (h7 := h7) (h8 := h8) (h9 := h9) (h10 := h10) (h11 := h11) (h12 := h12) (h13 := h13) (h14 := h14) (h15 := h15) (h16 := h16) (h17 := h17) (now := now_29) (kept := kept) (isKept := isKept) (found := found) (order := order_29) (doubts := doubts_29) (doubtMany := doubtMany_29) (weights := weights_29) (worn := worn_29) (pairs := pairs_29) (isTwice := isTwice_29) (doer := doer) (doneTo := doneTo) (doers := doers) (tape := tape) (taped := taped) (begins := begins) (ends := ends) (sort := sort) (value := value) (isWrong := isWrong) (items := items) (itemMany := itemMany) (bowThen := bowThen) (doubtThen := doubtThen) (deedThen := deedThen) (sayingThen := sayingThen) (widths := widths) (sizes := sizes_29) (numbers := numbers_29) (moved := moved) e_4) (cwV 0 hts gX8_read_X8_nightsThere rfl rfl rfl hd_X8_nightsThere ⟨Nat.le_of_ble_eq_true rfl, Nat.le_of_ble_eq_true rfl⟩) hK hP hD hS hA hE (q0 := 0) (ci := 8) rfl rfl rfl rfl hl.1 rfl (Nat.le_of_ble_eq_true rfl) dX8_read_32 ⟨Nat.zero_le _, Nat.zero_le _⟩ (fun H locs hP hD hS => ?_)
        refine lv_icmp_ge (tgt := 142) hx hb dX8_read_35 (by decide) (fun c_5 => ?_) (fun c_5 => ?_)
        · have h := ifp c_5 h
          obtain rfl := Option.some.inj h
          exact JK_29 hP hD hS (lv_sub hl [3] rfl)
        · have h := ifn c_5 h
          refine lv_aload_n hx hb dX8_read_38 rfl (lv_at hl 0 rfl) ?_
          refine lv_iload hx hb dX8_read_39 (lv_at hl 4 rfl) ?_
          refine lv_iload_n hx hb dX8_read_41 rfl (lv_at hl 2 rfl) ?_
          obtain ⟨u_6, e_6, h⟩ := bd_some h
          refine cm_Vv (As := [.int x6_29, .int x2_29]) (rest := []) ⟨hx, hb, hml, hown, hts⟩ (c_X8_goes (ca := ca) (ev := ev) (h0 := h0) (h1 := h1) (h2 := h2) (h3 := h3) (h4 := h4) (h5 := h5) (h6 := h6) (h7 := h7) (h8 := h8) (h9 := h9) (h10 := h10) (h11 := h11) (h12 := h12) (h13 := h13) (h14 := h14) (h15 := h15) (h16 := h16) (h17 := h17) (now := now_29) (kept := kept) (isKept := isKept) (found := found) (order := order_29) (doubts := doubts_29) (doubtMany := doubtMany_29) (weights := weights_29) (worn := worn_29) (pairs := pairs_29) (isTwice := isTwice_29) (doer := doer) (doneTo := doneTo) (doers := doers) (tape := tape) (taped := taped) (begins := begins) (ends := ends) (sort := sort) (value := value) (isWrong := isWrong) (items := items) (itemMany := itemMany) (bowThen := bowThen) (doubtThen := doubtThen) (deedThen := deedThen) (sayingThen := sayingThen) (widths := widths) (sizes := sizes_29) (numbers := numbers_29) (moved := moved) e_6) (cwV 2 hts gX8_read_X8_goes rfl rfl rfl hd_X8_goes ⟨Nat.le_of_ble_eq_true rfl, Nat.le_of_ble_eq_true rfl⟩) hK hP hD hS hA hE (q0 := 0) (ci := 8) rfl rfl rfl rfl hl.1 rfl (Nat.le_of_ble_eq_true rfl) dX8_read_42 ⟨Nat.zero_le _, Nat.zero_le _⟩ (fun H locs hP hD hS => ?_)
          refine lv_iconst (v := (1 : Int32)) hx hb dX8_read_45 (by decide) ?_
          refine lv_istore (lv' := [(7, .int (1 : Int32)), (0, .ref h0), (1, .int x1_29), (2, .int x2_29), (4, .long x4_29), (6, .int x6_29)]) hx hb dX8_read_46 hl (by decide) rfl (fun ls hl => ?_)
          refine lv_iconst (v := (0 : Int32)) hx hb dX8_read_48 (by decide) ?_
          refine lv_istore (lv' := [(8, .int (0 : Int32)), (7, .int (1 : Int32)), (0, .ref h0), (1, .int x1_29), (2, .int x2_29), (4, .long x4_29), (6, .int x6_29)]) hx hb dX8_read_49 hl (by decide) rfl (fun ls hl => ?_)
          have L_51 : ∀ {x1_51 : Int32} {now_51 : (Nat → Int32)} {worn_51 : (Nat → Int32)} {sizes_51 : (Nat → Int32)} {numbers_51 : (Nat → Int64)} (n_51 : Nat) {x7_51 : Int32} {x8_51 : Int32} {uL_51 : Int32} {H : Heap} {locs : List Loc} {ls : Array Slot}, f_X8_read_51 x1_51 now_51 worn_51 sizes_51 numbers_51  n_51 x7_51 x8_51 = some uL_51 → va_P G vwCl (wM ca ev h0 h1 h2 h3 h4 h5 h6 h7 h8 h9 h10 h11 h12 h13 h14 h15 h16 h17 now_51 kept isKept found order_29 doubts_29 doubtMany_29 weights_29 worn_51 u_6.2.1 u_6.2.2 doer doneTo doers tape taped begins ends sort value isWrong items itemMany bowThen doubtThen deedThen sayingThen widths sizes_51 numbers_51 moved) H → va_D A (wM ca ev h0 h1 h2 h3 h4 h5 h6 h7 h8 h9 h10 h11 h12 h13 h14 h15 h16 h17 now_51 kept isKept found order_29 doubts_29 doubtMany_29 weights_29 worn_51 u_6.2.1 u_6.2.2 doer doneTo doers tape taped begins ends sort value isWrong items itemMany bowThen doubtThen deedThen sayingThen widths sizes_51 numbers_51 moved) → va_S A s.heap H locs → lv_has ls 9 [(0, .ref h0), (1, .int x1_51), (2, .int x2_29), (4, .long x4_29), (6, .int x6_29), (7, .int x7_51), (8, .int x8_51)] → (∀ {H : Heap} {locs : List Loc} {ls : Array Slot}, va_P G vwCl (wM ca ev h0 h1 h2 h3 h4 h5 h6 h7 h8 h9 h10 h11 h12 h13 h14 h15 h16 h17 now_51 kept isKept found order_29 doubts_29 doubtMany_29 weights_29 worn_51 u_6.2.1 u_6.2.2 doer doneTo doers tape taped begins ends sort value isWrong items itemMany bowThen doubtThen deedThen sayingThen widths sizes_51 numbers_51 moved) H → va_D A (wM ca ev h0 h1 h2 h3 h4 h5 h6 h7 h8 h9 h10 h11 h12 h13 h14 h15 h16 h17 now_51 kept isKept found order_29 doubts_29 doubtMany_29 weights_29 worn_51 u_6.2.1 u_6.2.2 doer doneTo doers tape taped begins ends sort value isWrong items itemMany bowThen doubtThen deedThen sayingThen widths sizes_51 numbers_51 moved) → va_S A s.heap H locs → lv_has ls 9 [(0, .ref h0), (1, .int x1_51), (2, .int x2_29), (4, .long x4_29), (6, .int x6_29), (7, .int uL_51)] → W p l e rm_X8_read s m args below meth c H locs 0 0 Q (F0 m 115 ls [])) → W p l e rm_X8_read s m args below meth c H locs 0 0 Q (F0 m 51 ls []) := by
            intro x1_51 now_51 worn_51 sizes_51 numbers_51 n_51
            induction n_51 with
            | zero => intro x7_51 x8_51 uL_51 H locs ls h; exact absurd h (by rw [f_X8_read_51]; exact fun z => nomatch z)
            | succ n_51 ih =>
              intro x7_51 x8_51 uL_51 H locs ls h hP hD hS hl JK_51
              rw [f_X8_read_51] at h
              refine lv_iload hx hb dX8_read_51 (lv_at hl 6 rfl) ?_
              refine lv_aload_n hx hb dX8_read_53 rfl (lv_at hl 0 rfl) ?_
              refine va_get (D := G) (ci := 8) (v := .ref h15) (C := RX8) (T := TX8) (N := 32) hx hb hts hin_X8 hown hK hP 0 rfl rfl 29 (by decide) fk_68 (fun _ h9 => h9) rfl dX8_read_54 ?_
              refine lv_iload_n hx hb dX8_read_57 rfl (lv_at hl 1 rfl) ?_
              obtain ⟨i_7, h⟩ := gd_some h
              refine va_iald hx hb hK hP 15 0 rfl rfl (ix_in i_7) dX8_read_58 ?_
              refine lv_icmp_ge (tgt := 115) hx hb dX8_read_59 (by decide) (fun c_8 => ?_) (fun c_8 => ?_)
              · have h := ifp c_8 h
                obtain rfl := Option.some.inj h
                exact JK_51 hP hD hS (lv_sub hl [0, 1, 2, 3, 4, 5] rfl)
              · have h := ifn c_8 h
                refine lv_iload hx hb dX8_read_62 (lv_at hl 6 rfl) ?_
                refine lv_aload_n hx hb dX8_read_64 rfl (lv_at hl 0 rfl) ?_
                refine va_get (D := G) (ci := 8) (v := .ref h1) (C := RX8) (T := TX8) (N := 32) hx hb hts hin_X8 hown hK hP 0 rfl rfl 0 (by decide) fk_9 (fun _ h9 => h9) rfl dX8_read_65 ?_
                refine lv_iconst (v := (0 : Int32)) hx hb dX8_read_68 (by decide) ?_
                refine va_iald hx hb hK hP 1 0 rfl rfl (ix_in (by decide)) dX8_read_69 ?_
                refine lv_icmp_ge (tgt := 115) hx hb dX8_read_70 (by decide) (fun c_9 => ?_) (fun c_9 => ?_)
                · have h := ifp c_9 h
                  obtain rfl := Option.some.inj h
                  exact JK_51 hP hD hS (lv_sub hl [0, 1, 2, 3, 4, 5] rfl)
                · have h := ifn c_9 h
                  refine lv_iload hx hb dX8_read_73 (lv_at hl 5 rfl) ?_
                  obtain ⟨u_10, e_10, h⟩ := bd_some h
                  have J_10 : ∀ {H : Heap} {locs : List Loc} {ls : Array Slot}, va_P G vwCl (wM ca ev h0 h1 h2 h3 h4 h5 h6 h7 h8 h9 h10 h11 h12 h13 h14 h15 h16 h17 now_51 kept isKept found order_29 doubts_29 doubtMany_29 weights_29 worn_51 u_6.2.1 u_6.2.2 doer doneTo doers tape taped begins ends sort value isWrong items itemMany bowThen doubtThen deedThen sayingThen widths sizes_51 numbers_51 moved) H → va_D A (wM ca ev h0 h1 h2 h3 h4 h5 h6 h7 h8 h9 h10 h11 h12 h13 h14 h15 h16 h17 now_51 kept isKept found order_29 doubts_29 doubtMany_29 weights_29 worn_51 u_6.2.1 u_6.2.2 doer doneTo doers tape taped begins ends sort value isWrong items itemMany bowThen doubtThen deedThen sayingThen widths sizes_51 numbers_51 moved) → va_S A s.heap H locs → lv_has ls 9 [(0, .ref h0), (1, .int x1_51), (2, .int x2_29), (4, .long x4_29), (6, .int x6_29), (8, .int x8_51)] → (u_10 = 0 ∨ u_10 = 1) → W p l e rm_X8_read s m args below meth c H locs 0 0 Q (F0 m 107 ls [.int u_10]) := by
                    intro H locs ls hP hD hS hl zj_10_0
                    refine lv_istore (lv' := [(7, .int u_10), (0, .ref h0), (1, .int x1_51), (2, .int x2_29), (4, .long x4_29), (6, .int x6_29), (8, .int x8_51)]) hx hb dX8_read_107 hl (by decide) rfl (fun ls hl => ?_)
                    refine lv_iinc (v := (x8_51 + (1 : Int32))) (lv' := [(8, .int (x8_51 + (1 : Int32))), (7, .int u_10), (0, .ref h0), (1, .int x1_51), (2, .int x2_29), (4, .long x4_29), (6, .int x6_29)]) hx hb dX8_read_109 hl (k := 6) rfl rfl (by decide) rfl (fun ls hl => ?_)
                    refine lv_goto (tgt := 51) hx hb dX8_read_112 (by decide) ?_
                    exact ih h hP hD hS (lv_sub hl [2, 3, 4, 5, 6, 1, 0] rfl) JK_51
                  have h := e_10
                  clear e_10
                  refine lv_if_eq (tgt := 106) hx hb dX8_read_75 (by decide) (fun c_10 => ?_) (fun c_10 => ?_)
                  · have h := ifp c_10 h
                    refine lv_iconst (v := (0 : Int32)) hx hb dX8_read_106 (by decide) ?_
                    obtain rfl := Option.some.inj h
                    exact J_10 hP hD hS (lv_sub hl [0, 1, 2, 3, 4, 6] rfl) zb_0
                  · have h := ifn c_10 h
                    refine lv_aload_n hx hb dX8_read_78 rfl (lv_at hl 0 rfl) ?_
                    refine va_get (D := G) (ci := 8) (v := .ref h16) (C := RX8) (T := TX8) (N := 32) hx hb hts hin_X8 hown hK hP 0 rfl rfl 30 (by decide) fk_71 (fun _ h9 => h9) rfl dX8_read_79 ?_
                    refine lv_bipush (v := (40 : Int32)) hx hb dX8_read_82 (by decide) ?_
                    refine lv_iload_n hx hb dX8_read_84 rfl (lv_at hl 1 rfl) ?_
                    refine lv_imul hx hb dX8_read_85 ?_
                    refine lv_iload hx hb dX8_read_86 (lv_at hl 6 rfl) ?_
                    refine lv_iadd hx hb dX8_read_88 ?_
                    obtain ⟨i_11, h⟩ := gd_some h
                    refine va_lald hx hb hK hP 16 1 rfl rfl (ix_in i_11) dX8_read_89 ?_
                    refine lv_aload_n hx hb dX8_read_90 rfl (lv_at hl 0 rfl) ?_
                    refine va_get (D := G) (ci := 8) (v := .ref h7) (C := RX8) (T := TX8) (N := 32) hx hb hts hin_X8 hown hK hP 0 rfl rfl 8 (by decide) fk_29 (fun _ h9 => h9) rfl dX8_read_91 ?_
                    refine lv_iload hx hb dX8_read_94 (lv_at hl 6 rfl) ?_
                    obtain ⟨i_12, h⟩ := gd_some h
                    refine va_iald hx hb hK hP 7 0 rfl rfl (ix_in i_12) dX8_read_96 ?_
                    refine lv_i2l (v := (worn_51 x8_51.toNatClampNeg).toInt64) hx hb dX8_read_97 rfl ?_
                    refine W.lcmp hx hb dX8_read_98 ?_
                    refine lv_if_ne (tgt := 106) hx hb dX8_read_99 (by decide) (fun c_13 => ?_) (fun c_13 => ?_)
                    · have h := ifn c_13 h
                      refine lv_iconst (v := (0 : Int32)) hx hb dX8_read_106 (by decide) ?_
                      obtain rfl := Option.some.inj h
                      exact J_10 hP hD hS (lv_sub hl [0, 1, 2, 3, 4, 6] rfl) zb_0
                    · have h := ifp c_13 h
                      refine lv_iconst (v := (1 : Int32)) hx hb dX8_read_102 (by decide) ?_
                      refine lv_goto (tgt := 107) hx hb dX8_read_103 (by decide) ?_
                      obtain rfl := Option.some.inj h
                      exact J_10 hP hD hS (lv_sub hl [0, 1, 2, 3, 4, 6] rfl) zb_1
          obtain ⟨u_14, e_14, h⟩ := bd_some h
          refine L_51 _ e_14 hP hD hS (lv_sub hl [2, 3, 4, 5, 6, 1, 0] rfl) ?_
          intro H locs ls hP hD hS hl
          refine lv_lload hx hb dX8_read_115 (lv_at hl 3 rfl) ?_
          refine lv_iload hx hb dX8_read_117 (lv_at hl 5 rfl) ?_
          obtain ⟨u_15, e_15, h⟩ := bd_some h
          have J_15 : ∀ {H : Heap} {locs : List Loc} {ls : Array Slot}, va_P G vwCl (wM ca ev h0 h1 h2 h3 h4 h5 h6 h7 h8 h9 h10 h11 h12 h13 h14 h15 h16 h17 now_29 kept isKept found order_29 doubts_29 doubtMany_29 weights_29 u_6.1 u_6.2.1 u_6.2.2 doer doneTo doers tape taped begins ends sort value isWrong items itemMany bowThen doubtThen deedThen sayingThen widths sizes_29 numbers_29 moved) H → va_D A (wM ca ev h0 h1 h2 h3 h4 h5 h6 h7 h8 h9 h10 h11 h12 h13 h14 h15 h16 h17 now_29 kept isKept found order_29 doubts_29 doubtMany_29 weights_29 u_6.1 u_6.2.1 u_6.2.2 doer doneTo doers tape taped begins ends sort value isWrong items itemMany bowThen doubtThen deedThen sayingThen widths sizes_29 numbers_29 moved) → va_S A s.heap H locs → lv_has ls 9 [(0, .ref h0), (1, .int x1_29), (2, .int x2_29), (6, .int x6_29)] → W p l e rm_X8_read s m args below meth c H locs 0 0 Q (F0 m 133 ls [.long u_15, .long x4_29]) := by
            intro H locs ls hP hD hS hl 
            refine lv_ladd hx hb dX8_read_133 ?_
            refine lv_lstore (lv' := [(4, .long (x4_29 + u_15)), (0, .ref h0), (1, .int x1_29), (2, .int x2_29), (6, .int x6_29)]) hx hb dX8_read_134 hl (by decide) rfl (fun ls hl => ?_)
            refine lv_iinc (v := (x6_29 + (1 : Int32))) (lv' := [(6, .int (x6_29 + (1 : Int32))), (4, .long (x4_29 + u_15)), (0, .ref h0), (1, .int x1_29), (2, .int x2_29)]) hx hb dX8_read_136 hl (k := 4) rfl rfl (by decide) rfl (fun ls hl => ?_)
            refine lv_goto (tgt := 29) hx hb dX8_read_139 (by decide) ?_
            exact ih h hP hD hS (lv_sub hl [2, 3, 4, 1, 0] rfl) JK_29
          have h := e_15
          clear e_15
          refine lv_if_eq (tgt := 132) hx hb dX8_read_119 (by decide) (fun c_15 => ?_) (fun c_15 => ?_)
          · have h := ifp c_15 h
            refine lv_lconst (v := (0 : Int64)) hx hb dX8_read_132 (by decide) ?_
            obtain rfl := Option.some.inj h
            exact J_15 hP hD hS (lv_sub hl [0, 1, 2, 4] rfl)
          · have h := ifn c_15 h
            refine lv_aload_n hx hb dX8_read_122 rfl (lv_at hl 0 rfl) ?_
            refine va_get (D := G) (ci := 8) (v := .ref h6) (C := RX8) (T := TX8) (N := 32) hx hb hts hin_X8 hown hK hP 0 rfl rfl 7 (by decide) fk_25 (fun _ h9 => h9) rfl dX8_read_123 ?_
            refine lv_iload hx hb dX8_read_126 (lv_at hl 4 rfl) ?_
            obtain ⟨i_16, h⟩ := gd_some h
            refine va_lald hx hb hK hP 6 1 rfl rfl (ix_in i_16) dX8_read_128 ?_
            refine lv_goto (tgt := 133) hx hb dX8_read_129 (by decide) ?_
            obtain rfl := Option.some.inj h
            exact J_15 hP hD hS (lv_sub hl [0, 1, 2, 4] rfl)
    obtain ⟨u_17, e_17, h⟩ := bd_some h
    refine L_29 _ e_17 hP hD hS (lv_sub hl [3, 4, 5, 1, 0] rfl) ?_
    intro H locs ls hP hD hS hl
    refine lv_lload hx hb dX8_read_142 (lv_at hl 0 rfl) ?_
    obtain rfl := Option.some.inj h
    exact hRet hP hD hS dX8_read_144
  · have h := ifn c_2 h
    refine lv_aload_n hx hb dX8_read_11 rfl (lv_at hl 1 rfl) ?_
    refine lv_iload_n hx hb dX8_read_12 rfl (lv_at hl 0 rfl) ?_
    obtain ⟨u_18, e_18, h⟩ := bd_some h
    refine cm_Vi (As := [.int u_1]) (rest := []) ⟨hx, hb, hml, hown, hts⟩ (c_X8_finding (ca := ca) (ev := ev) (h0 := h0) (h1 := h1) (h2 := h2) (h3 := h3) (h4 := h4) (h5 := h5) (h6 := h6) (h7 := h7) (h8 := h8) (h9 := h9) (h10 := h10) (h11 := h11) (h12 := h12) (h13 := h13) (h14 := h14) (h15 := h15) (h16 := h16) (h17 := h17) (now := now) (kept := kept) (isKept := isKept) (found := found) (order := order) (doubts := doubts) (doubtMany := doubtMany) (weights := weights) (worn := worn) (pairs := pairs) (isTwice := isTwice) (doer := doer) (doneTo := doneTo) (doers := doers) (tape := tape) (taped := taped) (begins := begins) (ends := ends) (sort := sort) (value := value) (isWrong := isWrong) (items := items) (itemMany := itemMany) (bowThen := bowThen) (doubtThen := doubtThen) (deedThen := deedThen) (sayingThen := sayingThen) (widths := widths) (sizes := sizes) (numbers := numbers) (moved := moved) e_18) (cwV 1 hts gX8_read_X8_finding rfl rfl rfl hd_X8_finding ⟨Nat.le_of_ble_eq_true rfl, Nat.le_of_ble_eq_true rfl⟩) hK hP hD hS hA hE (q0 := 0) (ci := 8) rfl rfl rfl rfl hl.1 rfl (Nat.le_of_ble_eq_true rfl) dX8_read_13 ⟨Nat.zero_le _, Nat.zero_le _⟩ (fun H locs hP hD hS => ?_)
    refine lv_i2l (v := u_18.1.toInt64) hx hb dX8_read_16 rfl ?_
    obtain rfl := Option.some.inj h
    exact hRet hP hD hS dX8_read_17
abbrev rm_X8_tear : Room := { frames := 0, cells := 0, slots := 0, locals := 0 }
theorem hd_X8_tear : yX8_tear.cls = RX8 ∧ yX8_tear.cls ≠ "java/lang/invoke/MethodHandle" ∧ yX8_tear.cls ≠ "java/lang/invoke/VarHandle" ∧ (parseMethodDescriptor yX8_tear.desc).map (fun d => d.parameters.length) = some 0 := by decide +kernel
set_option maxHeartbeats 4000000 in
set_option maxRecDepth 100000 in
theorem c_X8_tear {l : Launch} {G : va_G} {ca : Nat → ClassId} {ev : Nat → Nat} {h0 h1 h2 h3 h4 h5 h6 h7 h8 h9 h10 h11 h12 h13 h14 h15 h16 h17 : Nat} {now : (Nat → Int32)} {kept : (Nat → Int32)} {isKept : Int32} {found : (Nat → Int32)} {order : (Nat → Int32)} {doubts : (Nat → Int32)} {doubtMany : Int32} {weights : (Nat → Int64)} {worn : (Nat → Int32)} {pairs : Int64} {isTwice : Int32} {doer : (Nat → Int32)} {doneTo : (Nat → Int32)} {doers : (Nat → Int64)} {tape : (Nat → Int32)} {taped : Int32} {begins : Int32} {ends : Int32} {sort : Int32} {value : Int32} {isWrong : Int32} {items : (Nat → Int32)} {itemMany : Int32} {bowThen : Int32} {doubtThen : Int32} {deedThen : Int32} {sayingThen : Int32} {widths : (Nat → Int32)} {sizes : (Nat → Int32)} {numbers : (Nat → Int64)} {moved : (Nat → Int64)}  {res : Int32 × Int32} (h : f_X8_tear isKept = some res) : CtI l yX8_tear wsX8_tear rm_X8_tear G ca ev [.ref h0] (wM ca ev h0 h1 h2 h3 h4 h5 h6 h7 h8 h9 h10 h11 h12 h13 h14 h15 h16 h17 now kept isKept found order doubts doubtMany weights worn pairs isTwice doer doneTo doers tape taped begins ends sort value isWrong items itemMany bowThen doubtThen deedThen sayingThen widths sizes numbers moved) (wM ca ev h0 h1 h2 h3 h4 h5 h6 h7 h8 h9 h10 h11 h12 h13 h14 h15 h16 h17 now kept res.2 found order doubts doubtMany weights worn pairs isTwice doer doneTo doers tape taped begins ends sort value isWrong items itemMany bowThen doubtThen deedThen sayingThen widths sizes numbers moved) res.1 := by
  unfold f_X8_tear at h
  refine en_i (by decide) rfl (Nat.le_of_ble_eq_true rfl) ?_
  intro p e s m args below meth c A Q H locs ls hx hb hml hown hts hA hP hK hD hE hS hl hRet
  have hown : s.vm.findClass RX8 = some m.cls := hown
  have hl : lv_has ls 2 [(0, .ref h0)] := hl
  have hin_X8 : ∀ w ∈ u_ws RX8 TX8 32, w ∈ wsX8_tear := fun w h9 => List.mem_cons_of_mem _ (List.mem_append_right _ h9)
  have fk_359 := hts (.fieldLink RX8 359 "MaskBowsModel" "isKept" "Z") (by decide +kernel)
  refine lv_aload_n hx hb dX8_tear_0 rfl (lv_at hl 0 rfl) ?_
  refine va_get (D := G) (ci := 8) (v := .int isKept) (C := RX8) (T := TX8) (N := 32) hx hb hts hin_X8 hown hK hP 0 rfl rfl 2 (by decide) fk_359 (fun _ h9 => h9) rfl dX8_tear_1 ?_
  obtain ⟨u_1, e_1, h⟩ := bd_some h
  have J_1 : ∀ {H : Heap} {locs : List Loc} {ls : Array Slot}, va_P G vwCl (wM ca ev h0 h1 h2 h3 h4 h5 h6 h7 h8 h9 h10 h11 h12 h13 h14 h15 h16 h17 now kept isKept found order doubts doubtMany weights worn pairs isTwice doer doneTo doers tape taped begins ends sort value isWrong items itemMany bowThen doubtThen deedThen sayingThen widths sizes numbers moved) H → va_D A (wM ca ev h0 h1 h2 h3 h4 h5 h6 h7 h8 h9 h10 h11 h12 h13 h14 h15 h16 h17 now kept isKept found order doubts doubtMany weights worn pairs isTwice doer doneTo doers tape taped begins ends sort value isWrong items itemMany bowThen doubtThen deedThen sayingThen widths sizes numbers moved) → va_S A s.heap H locs → lv_has ls 2 [(0, .ref h0)] → (u_1 = 0 ∨ u_1 = 1) → W p l e rm_X8_tear s m args below meth c H locs 0 0 Q (F0 m 12 ls [.int u_1]) := by
    intro H locs ls hP hD hS hl zj_1_0
    refine lv_istore_n (lv' := [(1, .int u_1), (0, .ref h0)]) hx hb dX8_tear_12 rfl hl (by decide) rfl (fun ls hl => ?_)
    refine lv_aload_n hx hb dX8_tear_13 rfl (lv_at hl 1 rfl) ?_
    refine lv_iconst (v := (0 : Int32)) hx hb dX8_tear_14 (by decide) ?_
    refine va_put (D := G) (ci := 8) (v := .int (0 : Int32)) (ty := .boolean) (C := RX8) (T := TX8) (N := 32) hx hb hts hin_X8 tyX8 tyX8_ok nmX8 hown hK hP hD hS 0 rfl rfl 2 (by decide) fk_359 (fun _ h9 => h9) rfl (tyX8_ok 2 (by decide)) (zb_nar zb_0) (zb_fit zb_0) (Nat.le_of_ble_eq_true rfl) dX8_tear_15 (fun H locs hP hD hS => ?_)
    have hP : va_P G vwCl (wM ca ev h0 h1 h2 h3 h4 h5 h6 h7 h8 h9 h10 h11 h12 h13 h14 h15 h16 h17 now kept (0 : Int32) found order doubts doubtMany weights worn pairs isTwice doer doneTo doers tape taped begins ends sort value isWrong items itemMany bowThen doubtThen deedThen sayingThen widths sizes numbers moved) H := hP
    have hD : va_D A (wM ca ev h0 h1 h2 h3 h4 h5 h6 h7 h8 h9 h10 h11 h12 h13 h14 h15 h16 h17 now kept (0 : Int32) found order doubts doubtMany weights worn pairs isTwice doer doneTo doers tape taped begins ends sort value isWrong items itemMany bowThen doubtThen deedThen sayingThen widths sizes numbers moved) := hD
    refine lv_iload_n hx hb dX8_tear_18 rfl (lv_at hl 0 rfl) ?_
    obtain rfl := Option.some.inj h
    exact hRet hP hD hS dX8_tear_19
  have h := e_1
  clear e_1
  refine lv_if_eq (tgt := 11) hx hb dX8_tear_4 (by decide) (fun c_1 => ?_) (fun c_1 => ?_)
  · have h := ifp c_1 h
    refine lv_iconst (v := (0 : Int32)) hx hb dX8_tear_11 (by decide) ?_
    obtain rfl := Option.some.inj h
    exact J_1 hP hD hS (lv_sub hl [0] rfl) zb_0
  · have h := ifn c_1 h
    refine lv_iconst (v := (1 : Int32)) hx hb dX8_tear_7 (by decide) ?_
    refine lv_goto (tgt := 12) hx hb dX8_tear_8 (by decide) ?_
    obtain rfl := Option.some.inj h
    exact J_1 hP hD hS (lv_sub hl [0] rfl) zb_1
abbrev rm_X8_count : Room := { frames := 2, cells := 0, slots := 0, locals := 44 }
theorem hd_X8_count : yX8_count.cls = RX8 ∧ yX8_count.cls ≠ "java/lang/invoke/MethodHandle" ∧ yX8_count.cls ≠ "java/lang/invoke/VarHandle" ∧ (parseMethodDescriptor yX8_count.desc).map (fun d => d.parameters.length) = some 1 := by decide +kernel
set_option maxHeartbeats 4000000 in
set_option maxRecDepth 100000 in
theorem c_X8_count {l : Launch} {G : va_G} {ca : Nat → ClassId} {ev : Nat → Nat} {h0 h1 h2 h3 h4 h5 h6 h7 h8 h9 h10 h11 h12 h13 h14 h15 h16 h17 : Nat} {now : (Nat → Int32)} {kept : (Nat → Int32)} {isKept : Int32} {found : (Nat → Int32)} {order : (Nat → Int32)} {doubts : (Nat → Int32)} {doubtMany : Int32} {weights : (Nat → Int64)} {worn : (Nat → Int32)} {pairs : Int64} {isTwice : Int32} {doer : (Nat → Int32)} {doneTo : (Nat → Int32)} {doers : (Nat → Int64)} {tape : (Nat → Int32)} {taped : Int32} {begins : Int32} {ends : Int32} {sort : Int32} {value : Int32} {isWrong : Int32} {items : (Nat → Int32)} {itemMany : Int32} {bowThen : Int32} {doubtThen : Int32} {deedThen : Int32} {sayingThen : Int32} {widths : (Nat → Int32)} {sizes : (Nat → Int32)} {numbers : (Nat → Int64)} {moved : (Nat → Int64)} {a1 : Int32} {N : Nat} {res : Int32 × (Nat → Int32)} (h : f_X8_count N now found taped a1 = some res) : CtI l yX8_count wsX8_count rm_X8_count G ca ev [.ref h0, .int a1] (wM ca ev h0 h1 h2 h3 h4 h5 h6 h7 h8 h9 h10 h11 h12 h13 h14 h15 h16 h17 now kept isKept found order doubts doubtMany weights worn pairs isTwice doer doneTo doers tape taped begins ends sort value isWrong items itemMany bowThen doubtThen deedThen sayingThen widths sizes numbers moved) (wM ca ev h0 h1 h2 h3 h4 h5 h6 h7 h8 h9 h10 h11 h12 h13 h14 h15 h16 h17 now kept isKept res.2 order doubts doubtMany weights worn pairs isTwice doer doneTo doers tape taped begins ends sort value isWrong items itemMany bowThen doubtThen deedThen sayingThen widths sizes numbers moved) res.1 := by
  unfold f_X8_count at h
  refine en_i (by decide) rfl (Nat.le_of_ble_eq_true rfl) ?_
  intro p e s m args below meth c A Q H locs ls hx hb hml hown hts hA hP hK hD hE hS hl hRet
  have hown : s.vm.findClass RX8 = some m.cls := hown
  have hl : lv_has ls 2 [(0, .ref h0), (1, .int a1)] := hl
  have hin_X8 : ∀ w ∈ u_ws RX8 TX8 32, w ∈ wsX8_count := fun w h9 => List.mem_cons_of_mem _ (List.mem_append_right _ h9)
  have fk_234 := hts (.fieldLink RX8 234 "MaskBowsModel" "taped" "I") (by decide +kernel)
  have fk_9 := hts (.fieldLink RX8 9 "MaskBowsModel" "now" "[I") (by decide +kernel)
  refine lv_iload_n hx hb dX8_count_0 rfl (lv_at hl 1 rfl) ?_
  by_cases c_1 : a1 = (0 : Int32)
  · have h := ifp c_1 h
    rw [c_1]
    refine lv_tableIn (tgt := 40) hx hb dX8_count_1 (by decide) (by decide) rfl (by decide) ?_
    refine lv_aload_n hx hb dX8_count_40 rfl (lv_at hl 0 rfl) ?_
    refine va_get (D := G) (ci := 8) (v := .ref h1) (C := RX8) (T := TX8) (N := 32) hx hb hts hin_X8 hown hK hP 0 rfl rfl 0 (by decide) fk_9 (fun _ h9 => h9) rfl dX8_count_41 ?_
    refine lv_iconst (v := (0 : Int32)) hx hb dX8_count_44 (by decide) ?_
    refine va_iald hx hb hK hP 1 0 rfl rfl (ix_in (by decide)) dX8_count_45 ?_
    obtain rfl := Option.some.inj h
    exact hRet hP hD hS dX8_count_46
  · have h := ifn c_1 h
    by_cases c_2 : a1 = (1 : Int32)
    · have h := ifp c_2 h
      rw [c_2]
      refine lv_tableIn (tgt := 47) hx hb dX8_count_1 (by decide) (by decide) rfl (by decide) ?_
      refine lv_aload_n hx hb dX8_count_47 rfl (lv_at hl 0 rfl) ?_
      refine va_get (D := G) (ci := 8) (v := .ref h1) (C := RX8) (T := TX8) (N := 32) hx hb hts hin_X8 hown hK hP 0 rfl rfl 0 (by decide) fk_9 (fun _ h9 => h9) rfl dX8_count_48 ?_
      refine lv_iconst (v := (3 : Int32)) hx hb dX8_count_51 (by decide) ?_
      refine va_iald hx hb hK hP 1 0 rfl rfl (ix_in (by decide)) dX8_count_52 ?_
      obtain rfl := Option.some.inj h
      exact hRet hP hD hS dX8_count_53
    · have h := ifn c_2 h
      by_cases c_3 : a1 = (2 : Int32)
      · have h := ifp c_3 h
        rw [c_3]
        refine lv_tableIn (tgt := 54) hx hb dX8_count_1 (by decide) (by decide) rfl (by decide) ?_
        refine lv_aload_n hx hb dX8_count_54 rfl (lv_at hl 0 rfl) ?_
        obtain ⟨u_8, e_8, h⟩ := bd_some h
        refine cm_Vi (As := []) (rest := []) ⟨hx, hb, hml, hown, hts⟩ (c_X8_doubtedOnes (ca := ca) (ev := ev) (h0 := h0) (h1 := h1) (h2 := h2) (h3 := h3) (h4 := h4) (h5 := h5) (h6 := h6) (h7 := h7) (h8 := h8) (h9 := h9) (h10 := h10) (h11 := h11) (h12 := h12) (h13 := h13) (h14 := h14) (h15 := h15) (h16 := h16) (h17 := h17) (now := now) (kept := kept) (isKept := isKept) (found := found) (order := order) (doubts := doubts) (doubtMany := doubtMany) (weights := weights) (worn := worn) (pairs := pairs) (isTwice := isTwice) (doer := doer) (doneTo := doneTo) (doers := doers) (tape := tape) (taped := taped) (begins := begins) (ends := ends) (sort := sort) (value := value) (isWrong := isWrong) (items := items) (itemMany := itemMany) (bowThen := bowThen) (doubtThen := doubtThen) (deedThen := deedThen) (sayingThen := sayingThen) (widths := widths) (sizes := sizes) (numbers := numbers) (moved := moved) e_8) (cwV 0 hts gX8_count_X8_doubtedOnes rfl rfl rfl hd_X8_doubtedOnes ⟨Nat.le_of_ble_eq_true rfl, Nat.le_of_ble_eq_true rfl⟩) hK hP hD hS hA hE (q0 := 0) (ci := 8) rfl rfl rfl rfl hl.1 rfl (Nat.le_of_ble_eq_true rfl) dX8_count_55 ⟨Nat.zero_le _, Nat.zero_le _⟩ (fun H locs hP hD hS => ?_)
        obtain rfl := Option.some.inj h
        exact hRet hP hD hS dX8_count_58
      · have h := ifn c_3 h
        by_cases c_4 : a1 = (3 : Int32)
        · have h := ifp c_4 h
          rw [c_4]
          refine lv_tableIn (tgt := 59) hx hb dX8_count_1 (by decide) (by decide) rfl (by decide) ?_
          refine lv_aload_n hx hb dX8_count_59 rfl (lv_at hl 0 rfl) ?_
          refine va_get (D := G) (ci := 8) (v := .ref h1) (C := RX8) (T := TX8) (N := 32) hx hb hts hin_X8 hown hK hP 0 rfl rfl 0 (by decide) fk_9 (fun _ h9 => h9) rfl dX8_count_60 ?_
          refine lv_iconst (v := (4 : Int32)) hx hb dX8_count_63 (by decide) ?_
          refine va_iald hx hb hK hP 1 0 rfl rfl (ix_in (by decide)) dX8_count_64 ?_
          obtain rfl := Option.some.inj h
          exact hRet hP hD hS dX8_count_65
        · have h := ifn c_4 h
          by_cases c_5 : a1 = (4 : Int32)
          · have h := ifp c_5 h
            rw [c_5]
            refine lv_tableIn (tgt := 66) hx hb dX8_count_1 (by decide) (by decide) rfl (by decide) ?_
            refine lv_aload_n hx hb dX8_count_66 rfl (lv_at hl 0 rfl) ?_
            refine va_get (D := G) (ci := 8) (v := .ref h1) (C := RX8) (T := TX8) (N := 32) hx hb hts hin_X8 hown hK hP 0 rfl rfl 0 (by decide) fk_9 (fun _ h9 => h9) rfl dX8_count_67 ?_
            refine lv_iconst (v := (5 : Int32)) hx hb dX8_count_70 (by decide) ?_
            refine va_iald hx hb hK hP 1 0 rfl rfl (ix_in (by decide)) dX8_count_71 ?_
            obtain rfl := Option.some.inj h
            exact hRet hP hD hS dX8_count_72
          · have h := ifn c_5 h
            by_cases c_6 : a1 = (5 : Int32)
            · have h := ifp c_6 h
              rw [c_6]
              refine lv_tableIn (tgt := 73) hx hb dX8_count_1 (by decide) (by decide) rfl (by decide) ?_
              refine lv_aload_n hx hb dX8_count_73 rfl (lv_at hl 0 rfl) ?_
              refine va_get (D := G) (ci := 8) (v := .int taped) (C := RX8) (T := TX8) (N := 32) hx hb hts hin_X8 hown hK hP 0 rfl rfl 15 (by decide) fk_234 (fun _ h9 => h9) rfl dX8_count_74 ?_
              obtain rfl := Option.some.inj h
              exact hRet hP hD hS dX8_count_77
            · have h := ifn c_6 h
              refine lv_tableOut (tgt := 78) hx hb dX8_count_1 (by by_cases q : a1.toInt < 0 ∨ 5 < a1.toInt; exact q; exfalso; have z0 : a1.toInt = 0 ∨ a1.toInt = 1 ∨ a1.toInt = 2 ∨ a1.toInt = 3 ∨ a1.toInt = 4 ∨ a1.toInt = 5 := (by omega); rcases z0 with z | z | z | z | z | z; exact c_1 (Int32.toInt_inj.mp (z.trans (by decide))); exact c_2 (Int32.toInt_inj.mp (z.trans (by decide))); exact c_3 (Int32.toInt_inj.mp (z.trans (by decide))); exact c_4 (Int32.toInt_inj.mp (z.trans (by decide))); exact c_5 (Int32.toInt_inj.mp (z.trans (by decide))); exact c_6 (Int32.toInt_inj.mp (z.trans (by decide)))) (by decide) ?_
              refine lv_aload_n hx hb dX8_count_78 rfl (lv_at hl 0 rfl) ?_
              refine lv_ldc (v := (-1000000001 : Int32)) hx hb hown (hts (.constant RX8 77 (-1000000001)) (by decide +kernel)) dX8_count_79 ?_
              obtain ⟨u_7, e_7, h⟩ := bd_some h
              refine cm_Vi (As := [.int (-1000000001 : Int32)]) (rest := []) ⟨hx, hb, hml, hown, hts⟩ (c_X8_finding (ca := ca) (ev := ev) (h0 := h0) (h1 := h1) (h2 := h2) (h3 := h3) (h4 := h4) (h5 := h5) (h6 := h6) (h7 := h7) (h8 := h8) (h9 := h9) (h10 := h10) (h11 := h11) (h12 := h12) (h13 := h13) (h14 := h14) (h15 := h15) (h16 := h16) (h17 := h17) (now := now) (kept := kept) (isKept := isKept) (found := found) (order := order) (doubts := doubts) (doubtMany := doubtMany) (weights := weights) (worn := worn) (pairs := pairs) (isTwice := isTwice) (doer := doer) (doneTo := doneTo) (doers := doers) (tape := tape) (taped := taped) (begins := begins) (ends := ends) (sort := sort) (value := value) (isWrong := isWrong) (items := items) (itemMany := itemMany) (bowThen := bowThen) (doubtThen := doubtThen) (deedThen := deedThen) (sayingThen := sayingThen) (widths := widths) (sizes := sizes) (numbers := numbers) (moved := moved) e_7) (cwV 1 hts gX8_count_X8_finding rfl rfl rfl hd_X8_finding ⟨Nat.le_of_ble_eq_true rfl, Nat.le_of_ble_eq_true rfl⟩) hK hP hD hS hA hE (q0 := 0) (ci := 8) rfl rfl rfl rfl hl.1 rfl (Nat.le_of_ble_eq_true rfl) dX8_count_81 ⟨Nat.zero_le _, Nat.zero_le _⟩ (fun H locs hP hD hS => ?_)
              obtain rfl := Option.some.inj h
              exact hRet hP hD hS dX8_count_84
abbrev rm_X8_status : Room := { frames := 1, cells := 0, slots := 0, locals := 22 }
theorem hd_X8_status : yX8_status.cls = RX8 ∧ yX8_status.cls ≠ "java/lang/invoke/MethodHandle" ∧ yX8_status.cls ≠ "java/lang/invoke/VarHandle" ∧ (parseMethodDescriptor yX8_status.desc).map (fun d => d.parameters.length) = some 1 := by decide +kernel
set_option maxHeartbeats 4000000 in
set_option maxRecDepth 100000 in
theorem c_X8_status {l : Launch} {G : va_G} {ca : Nat → ClassId} {ev : Nat → Nat} {h0 h1 h2 h3 h4 h5 h6 h7 h8 h9 h10 h11 h12 h13 h14 h15 h16 h17 : Nat} {now : (Nat → Int32)} {kept : (Nat → Int32)} {isKept : Int32} {found : (Nat → Int32)} {order : (Nat → Int32)} {doubts : (Nat → Int32)} {doubtMany : Int32} {weights : (Nat → Int64)} {worn : (Nat → Int32)} {pairs : Int64} {isTwice : Int32} {doer : (Nat → Int32)} {doneTo : (Nat → Int32)} {doers : (Nat → Int64)} {tape : (Nat → Int32)} {taped : Int32} {begins : Int32} {ends : Int32} {sort : Int32} {value : Int32} {isWrong : Int32} {items : (Nat → Int32)} {itemMany : Int32} {bowThen : Int32} {doubtThen : Int32} {deedThen : Int32} {sayingThen : Int32} {widths : (Nat → Int32)} {sizes : (Nat → Int32)} {numbers : (Nat → Int64)} {moved : (Nat → Int64)} {a1 : Int32} {res : Int32 × (Nat → Int32)} (h : f_X8_status found a1 = some res) : CtI l yX8_status wsX8_status rm_X8_status G ca ev [.ref h0, .int a1] (wM ca ev h0 h1 h2 h3 h4 h5 h6 h7 h8 h9 h10 h11 h12 h13 h14 h15 h16 h17 now kept isKept found order doubts doubtMany weights worn pairs isTwice doer doneTo doers tape taped begins ends sort value isWrong items itemMany bowThen doubtThen deedThen sayingThen widths sizes numbers moved) (wM ca ev h0 h1 h2 h3 h4 h5 h6 h7 h8 h9 h10 h11 h12 h13 h14 h15 h16 h17 now kept isKept res.2 order doubts doubtMany weights worn pairs isTwice doer doneTo doers tape taped begins ends sort value isWrong items itemMany bowThen doubtThen deedThen sayingThen widths sizes numbers moved) res.1 := by
  unfold f_X8_status at h
  refine en_i (by decide) rfl (Nat.le_of_ble_eq_true rfl) ?_
  intro p e s m args below meth c A Q H locs ls hx hb hml hown hts hA hP hK hD hE hS hl hRet
  have hown : s.vm.findClass RX8 = some m.cls := hown
  have hl : lv_has ls 2 [(0, .ref h0), (1, .int a1)] := hl
  have hin_X8 : ∀ w ∈ u_ws RX8 TX8 32, w ∈ wsX8_status := fun w h9 => List.mem_cons_of_mem _ (List.mem_append_right _ h9)
  have fk_16 := hts (.fieldLink RX8 16 "MaskBowsModel" "found" "[I") (by decide +kernel)
  refine lv_iload_n hx hb dX8_status_0 rfl (lv_at hl 1 rfl) ?_
  refine lv_iconst (v := (-1 : Int32)) hx hb dX8_status_1 (by decide) ?_
  refine lv_bipush (v := (6 : Int32)) hx hb dX8_status_2 (by decide) ?_
  obtain ⟨u_1, e_1, h⟩ := bd_some h
  refine cn_Si (As := [.int a1, .int (-1 : Int32), .int (6 : Int32)]) (rest := []) ⟨hx, hb, hml, hown, hts⟩ (c_X8_within e_1) (va_cwS 3 hts gX8_status_X8_within rfl rfl rfl hd_X8_within ⟨Nat.le_of_ble_eq_true rfl, Nat.le_of_ble_eq_true rfl⟩) hK hP hD hS hA hE rfl hl.1 rfl (Nat.le_of_ble_eq_true rfl) dX8_status_4 ⟨Nat.zero_le _, Nat.zero_le _⟩ (fun H locs hP hD hS => ?_)
  refine lv_if_eq (tgt := 21) hx hb dX8_status_7 (by decide) (fun c_2 => ?_) (fun c_2 => ?_)
  · have h := ifp c_2 h
    refine lv_aload_n hx hb dX8_status_21 rfl (lv_at hl 0 rfl) ?_
    refine lv_ldc (v := (-1000000001 : Int32)) hx hb hown (hts (.constant RX8 77 (-1000000001)) (by decide +kernel)) dX8_status_22 ?_
    obtain ⟨u_3, e_3, h⟩ := bd_some h
    refine cm_Vi (As := [.int (-1000000001 : Int32)]) (rest := []) ⟨hx, hb, hml, hown, hts⟩ (c_X8_finding (ca := ca) (ev := ev) (h0 := h0) (h1 := h1) (h2 := h2) (h3 := h3) (h4 := h4) (h5 := h5) (h6 := h6) (h7 := h7) (h8 := h8) (h9 := h9) (h10 := h10) (h11 := h11) (h12 := h12) (h13 := h13) (h14 := h14) (h15 := h15) (h16 := h16) (h17 := h17) (now := now) (kept := kept) (isKept := isKept) (found := found) (order := order) (doubts := doubts) (doubtMany := doubtMany) (weights := weights) (worn := worn) (pairs := pairs) (isTwice := isTwice) (doer := doer) (doneTo := doneTo) (doers := doers) (tape := tape) (taped := taped) (begins := begins) (ends := ends) (sort := sort) (value := value) (isWrong := isWrong) (items := items) (itemMany := itemMany) (bowThen := bowThen) (doubtThen := doubtThen) (deedThen := deedThen) (sayingThen := sayingThen) (widths := widths) (sizes := sizes) (numbers := numbers) (moved := moved) e_3) (cwV 1 hts gX8_status_X8_finding rfl rfl rfl hd_X8_finding ⟨Nat.le_of_ble_eq_true rfl, Nat.le_of_ble_eq_true rfl⟩) hK hP hD hS hA hE (q0 := 0) (ci := 8) rfl rfl rfl rfl hl.1 rfl (Nat.le_of_ble_eq_true rfl) dX8_status_24 ⟨Nat.zero_le _, Nat.zero_le _⟩ (fun H locs hP hD hS => ?_)
    obtain rfl := Option.some.inj h
    exact hRet hP hD hS dX8_status_27
  · have h := ifn c_2 h
    refine lv_aload_n hx hb dX8_status_10 rfl (lv_at hl 0 rfl) ?_
    refine va_get (D := G) (ci := 8) (v := .ref h3) (C := RX8) (T := TX8) (N := 32) hx hb hts hin_X8 hown hK hP 0 rfl rfl 3 (by decide) fk_16 (fun _ h9 => h9) rfl dX8_status_11 ?_
    refine lv_iload_n hx hb dX8_status_14 rfl (lv_at hl 1 rfl) ?_
    refine lv_iconst (v := (1 : Int32)) hx hb dX8_status_15 (by decide) ?_
    refine lv_iadd hx hb dX8_status_16 ?_
    obtain ⟨i_4, h⟩ := gd_some h
    refine va_iald hx hb hK hP 3 0 rfl rfl (ix_in i_4) dX8_status_17 ?_
    refine lv_goto (tgt := 27) hx hb dX8_status_18 (by decide) ?_
    obtain rfl := Option.some.inj h
    exact hRet hP hD hS dX8_status_27
