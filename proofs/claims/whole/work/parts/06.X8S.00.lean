abbrev rm_X8_copyRow : Room := { frames := 0, cells := 0, slots := 0, locals := 0 }
theorem hd_X8_copyRow : yX8_copyRow.cls ≠ "java/lang/invoke/MethodHandle" ∧ yX8_copyRow.cls ≠ "java/lang/invoke/VarHandle" ∧ (parseMethodDescriptor yX8_copyRow.desc).map (fun d => d.parameters.length) = some 2 := by decide +kernel
set_option maxHeartbeats 4000000 in
set_option maxRecDepth 100000 in
theorem c_X8_copyRow {l : Launch} {G : va_G} {ca : Nat → ClassId} {ev : Nat → Nat} {p0 p1 : Nat} {src : (Nat → Int32)} {dst : (Nat → Int32)}  {N : Nat} {res : (Nat → Int32)} (h : f_X8_copyRow N src dst = some res) : CtV l yX8_copyRow wsX8_copyRow rm_X8_copyRow G ca ev [.ref p0, .ref p1] (wP ca ev p0 p1 src dst) (wP ca ev p0 p1 src res) := by
  unfold f_X8_copyRow at h
  refine en_v (by decide) rfl (Nat.le_of_ble_eq_true rfl) ?_
  intro p e s m args below meth c A Q H locs ls hx hb hml hown hts hA hP hK hD hE hS hl hRet
  have hown : s.vm.findClass RX8 = some m.cls := hown
  have hl : lv_has ls 3 [(0, .ref p0), (1, .ref p1)] := hl
  refine lv_iconst (v := (0 : Int32)) hx hb dX8_copyRow_0 (by decide) ?_
  refine lv_istore_n (lv' := [(2, .int (0 : Int32)), (0, .ref p0), (1, .ref p1)]) hx hb dX8_copyRow_1 rfl hl (by decide) rfl (fun ls hl => ?_)
  have L_2 : ∀  {src_2 : (Nat → Int32)} (n_2 : Nat) {x2_2 : Int32} {dst_2 : (Nat → Int32)} {uL_2 : (Nat → Int32)} {H : Heap} {locs : List Loc} {ls : Array Slot}, f_X8_copyRow_2 src_2  n_2 x2_2 dst_2 = some uL_2 → va_P G vwCl (wP ca ev p0 p1 src_2 dst_2) H → va_D A (wP ca ev p0 p1 src_2 dst_2) → va_S A s.heap H locs → lv_has ls 3 [(0, .ref p0), (1, .ref p1), (2, .int x2_2)] → (∀ {H : Heap} {locs : List Loc} {ls : Array Slot}, va_P G vwCl (wP ca ev p0 p1 src_2 uL_2) H → va_D A (wP ca ev p0 p1 src_2 uL_2) → va_S A s.heap H locs → lv_has ls 3 [] → W p l e rm_X8_copyRow s m args below meth c H locs 0 0 Q (F0 m 21 ls [])) → W p l e rm_X8_copyRow s m args below meth c H locs 0 0 Q (F0 m 2 ls []) := by
    intro src_2 n_2
    induction n_2 with
    | zero => intro x2_2 dst_2 uL_2 H locs ls h; exact absurd h (by rw [f_X8_copyRow_2]; exact fun z => nomatch z)
    | succ n_2 ih =>
      intro x2_2 dst_2 uL_2 H locs ls h hP hD hS hl JK_2
      rw [f_X8_copyRow_2] at h
      refine lv_iload_n hx hb dX8_copyRow_2 rfl (lv_at hl 2 rfl) ?_
      refine lv_sipush (v := (186 : Int32)) hx hb dX8_copyRow_3 (by decide) ?_
      refine lv_icmp_ge (tgt := 21) hx hb dX8_copyRow_6 (by decide) (fun c_1 => ?_) (fun c_1 => ?_)
      · have h := ifp c_1 h
        obtain rfl := Option.some.inj h
        exact JK_2 hP hD hS (lv_sub hl [] rfl)
      · have h := ifn c_1 h
        refine lv_aload_n hx hb dX8_copyRow_9 rfl (lv_at hl 1 rfl) ?_
        refine lv_iload_n hx hb dX8_copyRow_10 rfl (lv_at hl 2 rfl) ?_
        refine lv_aload_n hx hb dX8_copyRow_11 rfl (lv_at hl 0 rfl) ?_
        refine lv_iload_n hx hb dX8_copyRow_12 rfl (lv_at hl 2 rfl) ?_
        obtain ⟨i_2, h⟩ := gd_some h
        refine va_iald hx hb hK hP 0 0 rfl rfl (ix_in i_2) dX8_copyRow_13 ?_
        refine va_iast hx hb hK hP hD hS 1 0 rfl rfl (ix_in i_2) dX8_copyRow_14 (fun H locs hP hD hS => ?_)
        have hP : va_P G vwCl (wP ca ev p0 p1 src_2 (upd dst_2 x2_2.toNatClampNeg (src_2 x2_2.toNatClampNeg))) H := hP
        have hD : va_D A (wP ca ev p0 p1 src_2 (upd dst_2 x2_2.toNatClampNeg (src_2 x2_2.toNatClampNeg))) := hD
        refine lv_iinc (v := (x2_2 + (1 : Int32))) (lv' := [(2, .int (x2_2 + (1 : Int32))), (0, .ref p0), (1, .ref p1)]) hx hb dX8_copyRow_15 hl (k := 2) rfl rfl (by decide) rfl (fun ls hl => ?_)
        refine lv_goto (tgt := 2) hx hb dX8_copyRow_18 (by decide) ?_
        exact ih h hP hD hS (lv_sub hl [1, 2, 0] rfl) JK_2
  obtain ⟨u_3, e_3, h⟩ := bd_some h
  refine L_2 _ e_3 hP hD hS (lv_sub hl [1, 2, 0] rfl) ?_
  intro H locs ls hP hD hS hl
  obtain rfl := Option.some.inj h
  exact hRet hP hD hS dX8_copyRow_21
abbrev rm_X8_isWord : Room := { frames := 4, cells := 0, slots := 0, locals := 85 }
theorem hd_X8_isWord : yX8_isWord.cls = RX8 ∧ yX8_isWord.cls ≠ "java/lang/invoke/MethodHandle" ∧ yX8_isWord.cls ≠ "java/lang/invoke/VarHandle" ∧ (parseMethodDescriptor yX8_isWord.desc).map (fun d => d.parameters.length) = some 1 := by decide +kernel
set_option maxHeartbeats 4000000 in
set_option maxRecDepth 100000 in
theorem c_X8_isWord {l : Launch} {G : va_G} {ca : Nat → ClassId} {ev : Nat → Nat} {h0 h1 h2 h3 h4 h5 h6 h7 h8 h9 h10 h11 h12 h13 h14 h15 h16 h17 : Nat} {now : (Nat → Int32)} {kept : (Nat → Int32)} {isKept : Int32} {found : (Nat → Int32)} {order : (Nat → Int32)} {doubts : (Nat → Int32)} {doubtMany : Int32} {weights : (Nat → Int64)} {worn : (Nat → Int32)} {pairs : Int64} {isTwice : Int32} {doer : (Nat → Int32)} {doneTo : (Nat → Int32)} {doers : (Nat → Int64)} {tape : (Nat → Int32)} {taped : Int32} {begins : Int32} {ends : Int32} {sort : Int32} {value : Int32} {isWrong : Int32} {items : (Nat → Int32)} {itemMany : Int32} {bowThen : Int32} {doubtThen : Int32} {deedThen : Int32} {sayingThen : Int32} {widths : (Nat → Int32)} {sizes : (Nat → Int32)} {numbers : (Nat → Int64)} {moved : (Nat → Int64)} {w1 : Nat} {N : Nat} {res : Int32} (hw1 : w1 < 17) (h : f_X8_isWord N tape begins ends sort w1 = some res) : CtI l yX8_isWord wsX8_isWord rm_X8_isWord G ca ev [.ref h0, .ref (ev (1 + 2 * w1))] (wM ca ev h0 h1 h2 h3 h4 h5 h6 h7 h8 h9 h10 h11 h12 h13 h14 h15 h16 h17 now kept isKept found order doubts doubtMany weights worn pairs isTwice doer doneTo doers tape taped begins ends sort value isWrong items itemMany bowThen doubtThen deedThen sayingThen widths sizes numbers moved) (wM ca ev h0 h1 h2 h3 h4 h5 h6 h7 h8 h9 h10 h11 h12 h13 h14 h15 h16 h17 now kept isKept found order doubts doubtMany weights worn pairs isTwice doer doneTo doers tape taped begins ends sort value isWrong items itemMany bowThen doubtThen deedThen sayingThen widths sizes numbers moved) res := by
  unfold f_X8_isWord at h
  refine en_z (by decide) rfl (Nat.le_of_ble_eq_true rfl) ?_
  intro p e s m args below meth c A Q H locs ls hx hb hml hown hts hA hP hK hD hE hS hl hRet
  have hown : s.vm.findClass RX8 = some m.cls := hown
  have hl : lv_has ls 4 [(0, .ref h0), (1, .ref (ev (1 + 2 * w1)))] := hl
  have hin_X8 : ∀ w ∈ u_ws RX8 TX8 32, w ∈ wsX8_isWord := fun w h9 => List.mem_cons_of_mem _ (List.mem_append_right _ h9)
  have fk_237 := hts (.fieldLink RX8 237 "MaskBowsModel" "ends" "I") (by decide +kernel)
  have fk_240 := hts (.fieldLink RX8 240 "MaskBowsModel" "begins" "I") (by decide +kernel)
  have fk_249 := hts (.fieldLink RX8 249 "MaskBowsModel" "sort" "I") (by decide +kernel)
  have fk_41 := hts (.fieldLink RX8 41 "MaskBowsModel" "tape" "[I") (by decide +kernel)
  refine lv_aload_n hx hb dX8_isWord_0 rfl (lv_at hl 0 rfl) ?_
  refine va_get (D := G) (ci := 8) (v := .int sort) (C := RX8) (T := TX8) (N := 32) hx hb hts hin_X8 hown hK hP 0 rfl rfl 18 (by decide) fk_249 (fun _ h9 => h9) rfl dX8_isWord_1 ?_
  refine lv_iconst (v := (1 : Int32)) hx hb dX8_isWord_4 (by decide) ?_
  obtain ⟨u_1, e_1, h⟩ := bd_some h
  have J_1 : ∀ {H : Heap} {locs : List Loc} {ls : Array Slot}, va_P G vwCl (wM ca ev h0 h1 h2 h3 h4 h5 h6 h7 h8 h9 h10 h11 h12 h13 h14 h15 h16 h17 now kept isKept found order doubts doubtMany weights worn pairs isTwice doer doneTo doers tape taped begins ends sort value isWrong items itemMany bowThen doubtThen deedThen sayingThen widths sizes numbers moved) H → va_D A (wM ca ev h0 h1 h2 h3 h4 h5 h6 h7 h8 h9 h10 h11 h12 h13 h14 h15 h16 h17 now kept isKept found order doubts doubtMany weights worn pairs isTwice doer doneTo doers tape taped begins ends sort value isWrong items itemMany bowThen doubtThen deedThen sayingThen widths sizes numbers moved) → va_S A s.heap H locs → lv_has ls 4 [(0, .ref h0), (1, .ref (ev (1 + 2 * w1)))] → (u_1 = 0 ∨ u_1 = 1) → W p l e rm_X8_isWord s m args below meth c H locs 0 0 Q (F0 m 29 ls [.int u_1]) := by
    intro H locs ls hP hD hS hl zj_1_0
    refine lv_istore_n (lv' := [(2, .int u_1), (0, .ref h0), (1, .ref (ev (1 + 2 * w1)))]) hx hb dX8_isWord_29 rfl hl (by decide) rfl (fun ls hl => ?_)
    refine lv_iconst (v := (0 : Int32)) hx hb dX8_isWord_30 (by decide) ?_
    refine lv_istore_n (lv' := [(3, .int (0 : Int32)), (2, .int u_1), (0, .ref h0), (1, .ref (ev (1 + 2 * w1)))]) hx hb dX8_isWord_31 rfl hl (by decide) rfl (fun ls hl => ?_)
    have L_32 : ∀  {tape_32 : (Nat → Int32)} {begins_32 : Int32} (n_32 : Nat) {x2_32 : Int32} {x3_32 : Int32} {uL_32 : Int32} {H : Heap} {locs : List Loc} {ls : Array Slot}, f_X8_isWord_32 w1 tape_32 begins_32  n_32 x2_32 x3_32 = some uL_32 → va_P G vwCl (wM ca ev h0 h1 h2 h3 h4 h5 h6 h7 h8 h9 h10 h11 h12 h13 h14 h15 h16 h17 now kept isKept found order doubts doubtMany weights worn pairs isTwice doer doneTo doers tape_32 taped begins_32 ends sort value isWrong items itemMany bowThen doubtThen deedThen sayingThen widths sizes numbers moved) H → va_D A (wM ca ev h0 h1 h2 h3 h4 h5 h6 h7 h8 h9 h10 h11 h12 h13 h14 h15 h16 h17 now kept isKept found order doubts doubtMany weights worn pairs isTwice doer doneTo doers tape_32 taped begins_32 ends sort value isWrong items itemMany bowThen doubtThen deedThen sayingThen widths sizes numbers moved) → va_S A s.heap H locs → lv_has ls 4 [(0, .ref h0), (1, .ref (ev (1 + 2 * w1))), (2, .int x2_32), (3, .int x3_32)] → (∀ {H : Heap} {locs : List Loc} {ls : Array Slot}, va_P G vwCl (wM ca ev h0 h1 h2 h3 h4 h5 h6 h7 h8 h9 h10 h11 h12 h13 h14 h15 h16 h17 now kept isKept found order doubts doubtMany weights worn pairs isTwice doer doneTo doers tape_32 taped begins_32 ends sort value isWrong items itemMany bowThen doubtThen deedThen sayingThen widths sizes numbers moved) H → va_D A (wM ca ev h0 h1 h2 h3 h4 h5 h6 h7 h8 h9 h10 h11 h12 h13 h14 h15 h16 h17 now kept isKept found order doubts doubtMany weights worn pairs isTwice doer doneTo doers tape_32 taped begins_32 ends sort value isWrong items itemMany bowThen doubtThen deedThen sayingThen widths sizes numbers moved) → va_S A s.heap H locs → lv_has ls 4 [(2, .int uL_32)] → W p l e rm_X8_isWord s m args below meth c H locs 0 0 Q (F0 m 75 ls [])) → W p l e rm_X8_isWord s m args below meth c H locs 0 0 Q (F0 m 32 ls []) := by
      intro tape_32 begins_32 n_32
      induction n_32 with
      | zero => intro x2_32 x3_32 uL_32 H locs ls h; exact absurd h (by rw [f_X8_isWord_32]; exact fun z => nomatch z)
      | succ n_32 ih =>
        intro x2_32 x3_32 uL_32 H locs ls h hP hD hS hl JK_32
        rw [f_X8_isWord_32] at h
        refine lv_iload_n hx hb dX8_isWord_32 rfl (lv_at hl 3 rfl) ?_
        refine lv_aload_n hx hb dX8_isWord_33 rfl (lv_at hl 1 rfl) ?_
        refine cn_Vi (As := []) (rest := [.int x3_32]) ⟨hx, hb, hml, hown, hts⟩ (c_J0_length hw1) (cwV 0 hts gX8_isWord_J0_length_8abf5 rfl rfl rfl hd_J0_length ⟨Nat.le_of_ble_eq_true rfl, Nat.le_of_ble_eq_true rfl⟩) hK hP hD hS hA hE (recv_S hE hw1 hS) rfl hl.1 rfl (Nat.le_of_ble_eq_true rfl) dX8_isWord_34 ⟨Nat.zero_le _, Nat.zero_le _⟩ (fun H locs hP hD hS => ?_)
        refine lv_icmp_ge (tgt := 75) hx hb dX8_isWord_37 (by decide) (fun c_3 => ?_) (fun c_3 => ?_)
        · have h := ifp c_3 h
          obtain rfl := Option.some.inj h
          exact JK_32 hP hD hS (lv_sub hl [2] rfl)
        · have h := ifn c_3 h
          refine lv_iload_n hx hb dX8_isWord_40 rfl (lv_at hl 2 rfl) ?_
          refine lv_if_eq (tgt := 75) hx hb dX8_isWord_41 (by decide) (fun c_4 => ?_) (fun c_4 => ?_)
          · have h := ifp c_4 h
            obtain rfl := Option.some.inj h
            exact JK_32 hP hD hS (lv_sub hl [2] rfl)
          · have h := ifn c_4 h
            refine lv_aload_n hx hb dX8_isWord_44 rfl (lv_at hl 0 rfl) ?_
            refine va_get (D := G) (ci := 8) (v := .ref h11) (C := RX8) (T := TX8) (N := 32) hx hb hts hin_X8 hown hK hP 0 rfl rfl 14 (by decide) fk_41 (fun _ h9 => h9) rfl dX8_isWord_45 ?_
            refine lv_aload_n hx hb dX8_isWord_48 rfl (lv_at hl 0 rfl) ?_
            refine va_get (D := G) (ci := 8) (v := .int begins_32) (C := RX8) (T := TX8) (N := 32) hx hb hts hin_X8 hown hK hP 0 rfl rfl 16 (by decide) fk_240 (fun _ h9 => h9) rfl dX8_isWord_49 ?_
            refine lv_iload_n hx hb dX8_isWord_52 rfl (lv_at hl 3 rfl) ?_
            refine lv_iadd hx hb dX8_isWord_53 ?_
            obtain ⟨i_5, h⟩ := gd_some h
            refine va_iald hx hb hK hP 11 0 rfl rfl (ix_in i_5) dX8_isWord_54 ?_
            refine lv_aload_n hx hb dX8_isWord_55 rfl (lv_at hl 1 rfl) ?_
            refine lv_iload_n hx hb dX8_isWord_56 rfl (lv_at hl 3 rfl) ?_
            obtain ⟨i_6, h⟩ := gd_some h
            refine cn_Vi (As := [.int x3_32]) (rest := [.int (tape_32 (begins_32 + x3_32).toNatClampNeg)]) ⟨hx, hb, hml, hown, hts⟩ (c_J0_charAt hw1 i_6) (cwV 1 hts gX8_isWord_J0_charAt_5068e rfl rfl rfl hd_J0_charAt ⟨Nat.le_of_ble_eq_true rfl, Nat.le_of_ble_eq_true rfl⟩) hK hP hD hS hA hE (recv_S hE hw1 hS) rfl hl.1 rfl (Nat.le_of_ble_eq_true rfl) dX8_isWord_57 ⟨Nat.zero_le _, Nat.zero_le _⟩ (fun H locs hP hD hS => ?_)
            obtain ⟨u_7, e_7, h⟩ := bd_some h
            have J_7 : ∀ {H : Heap} {locs : List Loc} {ls : Array Slot}, va_P G vwCl (wM ca ev h0 h1 h2 h3 h4 h5 h6 h7 h8 h9 h10 h11 h12 h13 h14 h15 h16 h17 now kept isKept found order doubts doubtMany weights worn pairs isTwice doer doneTo doers tape_32 taped begins_32 ends sort value isWrong items itemMany bowThen doubtThen deedThen sayingThen widths sizes numbers moved) H → va_D A (wM ca ev h0 h1 h2 h3 h4 h5 h6 h7 h8 h9 h10 h11 h12 h13 h14 h15 h16 h17 now kept isKept found order doubts doubtMany weights worn pairs isTwice doer doneTo doers tape_32 taped begins_32 ends sort value isWrong items itemMany bowThen doubtThen deedThen sayingThen widths sizes numbers moved) → va_S A s.heap H locs → lv_has ls 4 [(0, .ref h0), (1, .ref (ev (1 + 2 * w1))), (3, .int x3_32)] → (u_7 = 0 ∨ u_7 = 1) → W p l e rm_X8_isWord s m args below meth c H locs 0 0 Q (F0 m 68 ls [.int u_7]) := by
              intro H locs ls hP hD hS hl zj_7_0
              refine lv_istore_n (lv' := [(2, .int u_7), (0, .ref h0), (1, .ref (ev (1 + 2 * w1))), (3, .int x3_32)]) hx hb dX8_isWord_68 rfl hl (by decide) rfl (fun ls hl => ?_)
              refine lv_iinc (v := (x3_32 + (1 : Int32))) (lv' := [(3, .int (x3_32 + (1 : Int32))), (2, .int u_7), (0, .ref h0), (1, .ref (ev (1 + 2 * w1)))]) hx hb dX8_isWord_69 hl (k := 3) rfl rfl (by decide) rfl (fun ls hl => ?_)
              refine lv_goto (tgt := 32) hx hb dX8_isWord_72 (by decide) ?_
              exact ih h hP hD hS (lv_sub hl [2, 3, 1, 0] rfl) JK_32
            have h := e_7
            clear e_7
            refine lv_icmp_ne (tgt := 67) hx hb dX8_isWord_60 (by decide) (fun c_7 => ?_) (fun c_7 => ?_)
            · have h := ifn c_7 h
              refine lv_iconst (v := (0 : Int32)) hx hb dX8_isWord_67 (by decide) ?_
              obtain rfl := Option.some.inj h
              exact J_7 hP hD hS (lv_sub hl [0, 1, 3] rfl) zb_0
            · have h := ifp c_7 h
              refine lv_iconst (v := (1 : Int32)) hx hb dX8_isWord_63 (by decide) ?_
              refine lv_goto (tgt := 68) hx hb dX8_isWord_64 (by decide) ?_
              obtain rfl := Option.some.inj h
              exact J_7 hP hD hS (lv_sub hl [0, 1, 3] rfl) zb_1
    obtain ⟨u_8, e_8, h⟩ := bd_some h
    refine L_32 _ e_8 hP hD hS (lv_sub hl [2, 3, 1, 0] rfl) ?_
    intro H locs ls hP hD hS hl
    refine lv_iload_n hx hb dX8_isWord_75 rfl (lv_at hl 0 rfl) ?_
    obtain ⟨z_9, h⟩ := gd_some h
    obtain rfl := Option.some.inj h
    exact hRet hP hD hS (isb_or z_9) dX8_isWord_76
  have h := e_1
  clear e_1
  refine lv_icmp_ne (tgt := 28) hx hb dX8_isWord_5 (by decide) (fun c_1 => ?_) (fun c_1 => ?_)
  · have h := ifn c_1 h
    refine lv_iconst (v := (0 : Int32)) hx hb dX8_isWord_28 (by decide) ?_
    obtain rfl := Option.some.inj h
    exact J_1 hP hD hS (lv_sub hl [0, 1] rfl) zb_0
  · have h := ifp c_1 h
    refine lv_aload_n hx hb dX8_isWord_8 rfl (lv_at hl 0 rfl) ?_
    refine va_get (D := G) (ci := 8) (v := .int ends) (C := RX8) (T := TX8) (N := 32) hx hb hts hin_X8 hown hK hP 0 rfl rfl 17 (by decide) fk_237 (fun _ h9 => h9) rfl dX8_isWord_9 ?_
    refine lv_aload_n hx hb dX8_isWord_12 rfl (lv_at hl 0 rfl) ?_
    refine va_get (D := G) (ci := 8) (v := .int begins) (C := RX8) (T := TX8) (N := 32) hx hb hts hin_X8 hown hK hP 0 rfl rfl 16 (by decide) fk_240 (fun _ h9 => h9) rfl dX8_isWord_13 ?_
    refine lv_isub hx hb dX8_isWord_16 ?_
    refine lv_aload_n hx hb dX8_isWord_17 rfl (lv_at hl 1 rfl) ?_
    refine cn_Vi (As := []) (rest := [.int (ends - begins)]) ⟨hx, hb, hml, hown, hts⟩ (c_J0_length hw1) (cwV 0 hts gX8_isWord_J0_length_8abf5 rfl rfl rfl hd_J0_length ⟨Nat.le_of_ble_eq_true rfl, Nat.le_of_ble_eq_true rfl⟩) hK hP hD hS hA hE (recv_S hE hw1 hS) rfl hl.1 rfl (Nat.le_of_ble_eq_true rfl) dX8_isWord_18 ⟨Nat.zero_le _, Nat.zero_le _⟩ (fun H locs hP hD hS => ?_)
    refine lv_icmp_ne (tgt := 28) hx hb dX8_isWord_21 (by decide) (fun c_2 => ?_) (fun c_2 => ?_)
    · have h := ifn c_2 h
      refine lv_iconst (v := (0 : Int32)) hx hb dX8_isWord_28 (by decide) ?_
      obtain rfl := Option.some.inj h
      exact J_1 hP hD hS (lv_sub hl [0, 1] rfl) zb_0
    · have h := ifp c_2 h
      refine lv_iconst (v := (1 : Int32)) hx hb dX8_isWord_24 (by decide) ?_
      refine lv_goto (tgt := 29) hx hb dX8_isWord_25 (by decide) ?_
      obtain rfl := Option.some.inj h
      exact J_1 hP hD hS (lv_sub hl [0, 1] rfl) zb_1
abbrev rm_X8_kindTold : Room := { frames := 5, cells := 0, slots := 0, locals := 108 }
theorem hd_X8_kindTold : yX8_kindTold.cls = RX8 ∧ yX8_kindTold.cls ≠ "java/lang/invoke/MethodHandle" ∧ yX8_kindTold.cls ≠ "java/lang/invoke/VarHandle" ∧ (parseMethodDescriptor yX8_kindTold.desc).map (fun d => d.parameters.length) = some 0 := by decide +kernel
set_option maxHeartbeats 4000000 in
set_option maxRecDepth 100000 in
theorem c_X8_kindTold {l : Launch} {G : va_G} {ca : Nat → ClassId} {ev : Nat → Nat} {h0 h1 h2 h3 h4 h5 h6 h7 h8 h9 h10 h11 h12 h13 h14 h15 h16 h17 : Nat} {now : (Nat → Int32)} {kept : (Nat → Int32)} {isKept : Int32} {found : (Nat → Int32)} {order : (Nat → Int32)} {doubts : (Nat → Int32)} {doubtMany : Int32} {weights : (Nat → Int64)} {worn : (Nat → Int32)} {pairs : Int64} {isTwice : Int32} {doer : (Nat → Int32)} {doneTo : (Nat → Int32)} {doers : (Nat → Int64)} {tape : (Nat → Int32)} {taped : Int32} {begins : Int32} {ends : Int32} {sort : Int32} {value : Int32} {isWrong : Int32} {items : (Nat → Int32)} {itemMany : Int32} {bowThen : Int32} {doubtThen : Int32} {deedThen : Int32} {sayingThen : Int32} {widths : (Nat → Int32)} {sizes : (Nat → Int32)} {numbers : (Nat → Int64)} {moved : (Nat → Int64)}  {N : Nat} {res : Int32} (h : f_X8_kindTold N tape begins ends sort = some res) : CtI l yX8_kindTold wsX8_kindTold rm_X8_kindTold G ca ev [.ref h0] (wM ca ev h0 h1 h2 h3 h4 h5 h6 h7 h8 h9 h10 h11 h12 h13 h14 h15 h16 h17 now kept isKept found order doubts doubtMany weights worn pairs isTwice doer doneTo doers tape taped begins ends sort value isWrong items itemMany bowThen doubtThen deedThen sayingThen widths sizes numbers moved) (wM ca ev h0 h1 h2 h3 h4 h5 h6 h7 h8 h9 h10 h11 h12 h13 h14 h15 h16 h17 now kept isKept found order doubts doubtMany weights worn pairs isTwice doer doneTo doers tape taped begins ends sort value isWrong items itemMany bowThen doubtThen deedThen sayingThen widths sizes numbers moved) res := by
  unfold f_X8_kindTold at h
  refine en_i (by decide) rfl (Nat.le_of_ble_eq_true rfl) ?_
  intro p e s m args below meth c A Q H locs ls hx hb hml hown hts hA hP hK hD hE hS hl hRet
  have hown : s.vm.findClass RX8 = some m.cls := hown
  have hl : lv_has ls 3 [(0, .ref h0)] := hl
  have hin_X8 : ∀ w ∈ u_ws RX8 TX8 32, w ∈ wsX8_kindTold := fun w h9 => List.mem_cons_of_mem _ (List.mem_append_right _ h9)
  have fk_58 := hts (.fieldLink RX8 58 "MaskBowsModel" "kinds" "[Ljava/lang/String;") (by decide +kernel)
  refine lv_iconst (v := (-1 : Int32)) hx hb dX8_kindTold_0 (by decide) ?_
  refine lv_istore_n (lv' := [(1, .int (-1 : Int32)), (0, .ref h0)]) hx hb dX8_kindTold_1 rfl hl (by decide) rfl (fun ls hl => ?_)
  refine lv_iconst (v := (0 : Int32)) hx hb dX8_kindTold_2 (by decide) ?_
  refine lv_istore_n (lv' := [(2, .int (0 : Int32)), (1, .int (-1 : Int32)), (0, .ref h0)]) hx hb dX8_kindTold_3 rfl hl (by decide) rfl (fun ls hl => ?_)
  have L_4 : ∀  {tape_4 : (Nat → Int32)} {begins_4 : Int32} {ends_4 : Int32} {sort_4 : Int32} (n_4 : Nat) {x1_4 : Int32} {x2_4 : Int32} {uL_4 : Int32} {H : Heap} {locs : List Loc} {ls : Array Slot}, f_X8_kindTold_4 N tape_4 begins_4 ends_4 sort_4  n_4 x1_4 x2_4 = some uL_4 → va_P G vwCl (wM ca ev h0 h1 h2 h3 h4 h5 h6 h7 h8 h9 h10 h11 h12 h13 h14 h15 h16 h17 now kept isKept found order doubts doubtMany weights worn pairs isTwice doer doneTo doers tape_4 taped begins_4 ends_4 sort_4 value isWrong items itemMany bowThen doubtThen deedThen sayingThen widths sizes numbers moved) H → va_D A (wM ca ev h0 h1 h2 h3 h4 h5 h6 h7 h8 h9 h10 h11 h12 h13 h14 h15 h16 h17 now kept isKept found order doubts doubtMany weights worn pairs isTwice doer doneTo doers tape_4 taped begins_4 ends_4 sort_4 value isWrong items itemMany bowThen doubtThen deedThen sayingThen widths sizes numbers moved) → va_S A s.heap H locs → lv_has ls 3 [(0, .ref h0), (1, .int x1_4), (2, .int x2_4)] → (∀ {H : Heap} {locs : List Loc} {ls : Array Slot}, va_P G vwCl (wM ca ev h0 h1 h2 h3 h4 h5 h6 h7 h8 h9 h10 h11 h12 h13 h14 h15 h16 h17 now kept isKept found order doubts doubtMany weights worn pairs isTwice doer doneTo doers tape_4 taped begins_4 ends_4 sort_4 value isWrong items itemMany bowThen doubtThen deedThen sayingThen widths sizes numbers moved) H → va_D A (wM ca ev h0 h1 h2 h3 h4 h5 h6 h7 h8 h9 h10 h11 h12 h13 h14 h15 h16 h17 now kept isKept found order doubts doubtMany weights worn pairs isTwice doer doneTo doers tape_4 taped begins_4 ends_4 sort_4 value isWrong items itemMany bowThen doubtThen deedThen sayingThen widths sizes numbers moved) → va_S A s.heap H locs → lv_has ls 3 [(1, .int uL_4)] → W p l e rm_X8_kindTold s m args below meth c H locs 0 0 Q (F0 m 38 ls [])) → W p l e rm_X8_kindTold s m args below meth c H locs 0 0 Q (F0 m 4 ls []) := by
    intro tape_4 begins_4 ends_4 sort_4 n_4
    induction n_4 with
    | zero => intro x1_4 x2_4 uL_4 H locs ls h; exact absurd h (by rw [f_X8_kindTold_4]; exact fun z => nomatch z)
    | succ n_4 ih =>
      intro x1_4 x2_4 uL_4 H locs ls h hP hD hS hl JK_4
      rw [f_X8_kindTold_4] at h
      refine lv_iload_n hx hb dX8_kindTold_4 rfl (lv_at hl 2 rfl) ?_
      refine lv_aload_n hx hb dX8_kindTold_5 rfl (lv_at hl 0 rfl) ?_
      refine va_get (D := G) (ci := 8) (v := .ref h12) (C := RX8) (T := TX8) (N := 32) hx hb hts hin_X8 hown hK hP 0 rfl rfl 21 (by decide) fk_58 (fun _ h9 => h9) rfl dX8_kindTold_6 ?_
      refine va_alen (v := (6 : Int32)) hx hb hK hP 12 4 rfl rfl rfl dX8_kindTold_9 ?_
      refine lv_icmp_ge (tgt := 38) hx hb dX8_kindTold_10 (by decide) (fun c_1 => ?_) (fun c_1 => ?_)
      · have h := ifp c_1 h
        obtain rfl := Option.some.inj h
        exact JK_4 hP hD hS (lv_sub hl [1] rfl)
      · have h := ifn c_1 h
        refine lv_aload_n hx hb dX8_kindTold_13 rfl (lv_at hl 0 rfl) ?_
        refine lv_aload_n hx hb dX8_kindTold_14 rfl (lv_at hl 0 rfl) ?_
        refine va_get (D := G) (ci := 8) (v := .ref h12) (C := RX8) (T := TX8) (N := 32) hx hb hts hin_X8 hown hK hP 0 rfl rfl 21 (by decide) fk_58 (fun _ h9 => h9) rfl dX8_kindTold_15 ?_
        refine lv_iload_n hx hb dX8_kindTold_18 rfl (lv_at hl 2 rfl) ?_
        obtain ⟨i_2, h⟩ := gd_some h
        refine va_aldq hx hb hK hP 12 4 rfl rfl (ix_in i_2) dX8_kindTold_19 ?_
        obtain ⟨u_3, e_3, h⟩ := bd_some h
        refine cm_Vi (As := [.ref (ev (1 + 2 * (kidx x2_4.toNatClampNeg)))]) (rest := []) ⟨hx, hb, hml, hown, hts⟩ (c_X8_isWord (ca := ca) (ev := ev) (h0 := h0) (h1 := h1) (h2 := h2) (h3 := h3) (h4 := h4) (h5 := h5) (h6 := h6) (h7 := h7) (h8 := h8) (h9 := h9) (h10 := h10) (h11 := h11) (h12 := h12) (h13 := h13) (h14 := h14) (h15 := h15) (h16 := h16) (h17 := h17) (now := now) (kept := kept) (isKept := isKept) (found := found) (order := order) (doubts := doubts) (doubtMany := doubtMany) (weights := weights) (worn := worn) (pairs := pairs) (isTwice := isTwice) (doer := doer) (doneTo := doneTo) (doers := doers) (tape := tape_4) (taped := taped) (begins := begins_4) (ends := ends_4) (sort := sort_4) (value := value) (isWrong := isWrong) (items := items) (itemMany := itemMany) (bowThen := bowThen) (doubtThen := doubtThen) (deedThen := deedThen) (sayingThen := sayingThen) (widths := widths) (sizes := sizes) (numbers := numbers) (moved := moved) (kidx_lt _) e_3) (cwV 1 hts gX8_kindTold_X8_isWord rfl rfl rfl hd_X8_isWord ⟨Nat.le_of_ble_eq_true rfl, Nat.le_of_ble_eq_true rfl⟩) hK hP hD hS hA hE (q0 := 0) (ci := 8) rfl rfl rfl rfl hl.1 rfl (Nat.le_of_ble_eq_true rfl) dX8_kindTold_20 ⟨Nat.zero_le _, Nat.zero_le _⟩ (fun H locs hP hD hS => ?_)
        obtain ⟨u_4, e_4, h⟩ := bd_some h
        have J_4 : ∀ {H : Heap} {locs : List Loc} {ls : Array Slot}, va_P G vwCl (wM ca ev h0 h1 h2 h3 h4 h5 h6 h7 h8 h9 h10 h11 h12 h13 h14 h15 h16 h17 now kept isKept found order doubts doubtMany weights worn pairs isTwice doer doneTo doers tape_4 taped begins_4 ends_4 sort_4 value isWrong items itemMany bowThen doubtThen deedThen sayingThen widths sizes numbers moved) H → va_D A (wM ca ev h0 h1 h2 h3 h4 h5 h6 h7 h8 h9 h10 h11 h12 h13 h14 h15 h16 h17 now kept isKept found order doubts doubtMany weights worn pairs isTwice doer doneTo doers tape_4 taped begins_4 ends_4 sort_4 value isWrong items itemMany bowThen doubtThen deedThen sayingThen widths sizes numbers moved) → va_S A s.heap H locs → lv_has ls 3 [(0, .ref h0), (2, .int x2_4)] → W p l e rm_X8_kindTold s m args below meth c H locs 0 0 Q (F0 m 31 ls [.int u_4]) := by
          intro H locs ls hP hD hS hl 
          refine lv_istore_n (lv' := [(1, .int u_4), (0, .ref h0), (2, .int x2_4)]) hx hb dX8_kindTold_31 rfl hl (by decide) rfl (fun ls hl => ?_)
          refine lv_iinc (v := (x2_4 + (1 : Int32))) (lv' := [(2, .int (x2_4 + (1 : Int32))), (1, .int u_4), (0, .ref h0)]) hx hb dX8_kindTold_32 hl (k := 2) rfl rfl (by decide) rfl (fun ls hl => ?_)
          refine lv_goto (tgt := 4) hx hb dX8_kindTold_35 (by decide) ?_
          exact ih h hP hD hS (lv_sub hl [2, 1, 0] rfl) JK_4
        have h := e_4
        clear e_4
        refine lv_if_eq (tgt := 30) hx hb dX8_kindTold_23 (by decide) (fun c_4 => ?_) (fun c_4 => ?_)
        · have h := ifp c_4 h
          refine lv_iload_n hx hb dX8_kindTold_30 rfl (lv_at hl 1 rfl) ?_
          obtain rfl := Option.some.inj h
          exact J_4 hP hD hS (lv_sub hl [0, 2] rfl)
        · have h := ifn c_4 h
          refine lv_iload_n hx hb dX8_kindTold_26 rfl (lv_at hl 2 rfl) ?_
          refine lv_goto (tgt := 31) hx hb dX8_kindTold_27 (by decide) ?_
          obtain rfl := Option.some.inj h
          exact J_4 hP hD hS (lv_sub hl [0, 2] rfl)
  obtain ⟨u_5, e_5, h⟩ := bd_some h
  refine L_4 _ e_5 hP hD hS (lv_sub hl [2, 1, 0] rfl) ?_
  intro H locs ls hP hD hS hl
  refine lv_iload_n hx hb dX8_kindTold_38 rfl (lv_at hl 0 rfl) ?_
  obtain rfl := Option.some.inj h
  exact hRet hP hD hS dX8_kindTold_39
abbrev rm_X8_readBow : Room := { frames := 5, cells := 0, slots := 0, locals := 108 }
theorem hd_X8_readBow : yX8_readBow.cls = RX8 ∧ yX8_readBow.cls ≠ "java/lang/invoke/MethodHandle" ∧ yX8_readBow.cls ≠ "java/lang/invoke/VarHandle" ∧ (parseMethodDescriptor yX8_readBow.desc).map (fun d => d.parameters.length) = some 0 := by decide +kernel
set_option maxHeartbeats 4000000 in
set_option maxRecDepth 100000 in
theorem c_X8_readBow {l : Launch} {G : va_G} {ca : Nat → ClassId} {ev : Nat → Nat} {h0 h1 h2 h3 h4 h5 h6 h7 h8 h9 h10 h11 h12 h13 h14 h15 h16 h17 : Nat} {now : (Nat → Int32)} {kept : (Nat → Int32)} {isKept : Int32} {found : (Nat → Int32)} {order : (Nat → Int32)} {doubts : (Nat → Int32)} {doubtMany : Int32} {weights : (Nat → Int64)} {worn : (Nat → Int32)} {pairs : Int64} {isTwice : Int32} {doer : (Nat → Int32)} {doneTo : (Nat → Int32)} {doers : (Nat → Int64)} {tape : (Nat → Int32)} {taped : Int32} {begins : Int32} {ends : Int32} {sort : Int32} {value : Int32} {isWrong : Int32} {items : (Nat → Int32)} {itemMany : Int32} {bowThen : Int32} {doubtThen : Int32} {deedThen : Int32} {sayingThen : Int32} {widths : (Nat → Int32)} {sizes : (Nat → Int32)} {numbers : (Nat → Int64)} {moved : (Nat → Int64)}  {N : Nat} {res : Int32 × Int32 × Int32 × Int32 × Int32 × (Nat → Int32) × Int32 × Int32 × Int32} (h : f_X8_readBow N now tape taped begins ends sort value isWrong items itemMany bowThen doubtThen = some res) : CtV l yX8_readBow wsX8_readBow rm_X8_readBow G ca ev [.ref h0] (wM ca ev h0 h1 h2 h3 h4 h5 h6 h7 h8 h9 h10 h11 h12 h13 h14 h15 h16 h17 now kept isKept found order doubts doubtMany weights worn pairs isTwice doer doneTo doers tape taped begins ends sort value isWrong items itemMany bowThen doubtThen deedThen sayingThen widths sizes numbers moved) (wM ca ev h0 h1 h2 h3 h4 h5 h6 h7 h8 h9 h10 h11 h12 h13 h14 h15 h16 h17 now kept isKept found order doubts doubtMany weights worn pairs isTwice doer doneTo doers tape taped res.1 res.2.1 res.2.2.1 res.2.2.2.1 res.2.2.2.2.1 res.2.2.2.2.2.1 res.2.2.2.2.2.2.1 res.2.2.2.2.2.2.2.1 res.2.2.2.2.2.2.2.2 deedThen sayingThen widths sizes numbers moved) := by
  unfold f_X8_readBow at h
  refine en_v (by decide) rfl (Nat.le_of_ble_eq_true rfl) ?_
  intro p e s m args below meth c A Q H locs ls hx hb hml hown hts hA hP hK hD hE hS hl hRet
  have hown : s.vm.findClass RX8 = some m.cls := hown
  have hl : lv_has ls 5 [(0, .ref h0)] := hl
  have hin_X8 : ∀ w ∈ u_ws RX8 TX8 32, w ∈ wsX8_readBow := fun w h9 => List.mem_cons_of_mem _ (List.mem_append_right _ h9)
  have fk_259 := hts (.fieldLink RX8 259 "MaskBowsModel" "isWrong" "Z") (by decide +kernel)
  have fk_307 := hts (.fieldLink RX8 307 "MaskBowsModel" "bowThen" "I") (by decide +kernel)
  have fk_318 := hts (.fieldLink RX8 318 "MaskBowsModel" "doubtThen" "I") (by decide +kernel)
  refine lv_aload_n hx hb dX8_readBow_0 rfl (lv_at hl 0 rfl) ?_
  refine lv_aload_n hx hb dX8_readBow_1 rfl (lv_at hl 0 rfl) ?_
  refine va_get (D := G) (ci := 8) (v := .int bowThen) (C := RX8) (T := TX8) (N := 32) hx hb hts hin_X8 hown hK hP 0 rfl rfl 24 (by decide) fk_307 (fun _ h9 => h9) rfl dX8_readBow_2 ?_
  refine lv_bipush (v := (20 : Int32)) hx hb dX8_readBow_5 (by decide) ?_
  obtain ⟨u_1, e_1, h⟩ := bd_some h
  have J_1 : ∀ {H : Heap} {locs : List Loc} {ls : Array Slot}, va_P G vwCl (wM ca ev h0 h1 h2 h3 h4 h5 h6 h7 h8 h9 h10 h11 h12 h13 h14 h15 h16 h17 now kept isKept found order doubts doubtMany weights worn pairs isTwice doer doneTo doers tape taped begins ends sort value isWrong items itemMany bowThen doubtThen deedThen sayingThen widths sizes numbers moved) H → va_D A (wM ca ev h0 h1 h2 h3 h4 h5 h6 h7 h8 h9 h10 h11 h12 h13 h14 h15 h16 h17 now kept isKept found order doubts doubtMany weights worn pairs isTwice doer doneTo doers tape taped begins ends sort value isWrong items itemMany bowThen doubtThen deedThen sayingThen widths sizes numbers moved) → va_S A s.heap H locs → lv_has ls 5 [(0, .ref h0)] → (u_1 = 0 ∨ u_1 = 1) → W p l e rm_X8_readBow s m args below meth c H locs 0 0 Q (F0 m 15 ls [.int u_1, .ref h0]) := by
    intro H locs ls hP hD hS hl zj_1_0
    obtain ⟨u_2, e_2, h⟩ := bd_some h
    refine cm_Vv (As := [.int u_1]) (rest := []) ⟨hx, hb, hml, hown, hts⟩ (c_X8_must (ca := ca) (ev := ev) (h0 := h0) (h1 := h1) (h2 := h2) (h3 := h3) (h4 := h4) (h5 := h5) (h6 := h6) (h7 := h7) (h8 := h8) (h9 := h9) (h10 := h10) (h11 := h11) (h12 := h12) (h13 := h13) (h14 := h14) (h15 := h15) (h16 := h16) (h17 := h17) (now := now) (kept := kept) (isKept := isKept) (found := found) (order := order) (doubts := doubts) (doubtMany := doubtMany) (weights := weights) (worn := worn) (pairs := pairs) (isTwice := isTwice) (doer := doer) (doneTo := doneTo) (doers := doers) (tape := tape) (taped := taped) (begins := begins) (ends := ends) (sort := sort) (value := value) (isWrong := isWrong) (items := items) (itemMany := itemMany) (bowThen := bowThen) (doubtThen := doubtThen) (deedThen := deedThen) (sayingThen := sayingThen) (widths := widths) (sizes := sizes) (numbers := numbers) (moved := moved) e_2) (cwV 1 hts gX8_readBow_X8_must rfl rfl rfl hd_X8_must ⟨Nat.le_of_ble_eq_true rfl, Nat.le_of_ble_eq_true rfl⟩) hK hP hD hS hA hE (q0 := 0) (ci := 8) rfl rfl rfl rfl hl.1 rfl (Nat.le_of_ble_eq_true rfl) dX8_readBow_15 ⟨Nat.zero_le _, Nat.zero_le _⟩ (fun H locs hP hD hS => ?_)
    refine lv_aload_n hx hb dX8_readBow_18 rfl (lv_at hl 0 rfl) ?_
    refine lv_dup hx hb dX8_readBow_19 rfl ?_
    refine va_get (D := G) (ci := 8) (v := .int bowThen) (C := RX8) (T := TX8) (N := 32) hx hb hts hin_X8 hown hK hP 0 rfl rfl 24 (by decide) fk_307 (fun _ h9 => h9) rfl dX8_readBow_20 ?_
    refine lv_iconst (v := (1 : Int32)) hx hb dX8_readBow_23 (by decide) ?_
    refine lv_iadd hx hb dX8_readBow_24 ?_
    refine va_put (D := G) (ci := 8) (v := .int (bowThen + (1 : Int32))) (ty := .int) (C := RX8) (T := TX8) (N := 32) hx hb hts hin_X8 tyX8 tyX8_ok nmX8 hown hK hP hD hS 0 rfl rfl 24 (by decide) fk_307 (fun _ h9 => h9) rfl (tyX8_ok 24 (by decide)) rfl rfl (Nat.le_of_ble_eq_true rfl) dX8_readBow_25 (fun H locs hP hD hS => ?_)
    have hP : va_P G vwCl (wM ca ev h0 h1 h2 h3 h4 h5 h6 h7 h8 h9 h10 h11 h12 h13 h14 h15 h16 h17 now kept isKept found order doubts doubtMany weights worn pairs isTwice doer doneTo doers tape taped u_2.1 u_2.2.1 u_2.2.2.1 u_2.2.2.2.1 u_2.2.2.2.2 items itemMany (bowThen + (1 : Int32)) doubtThen deedThen sayingThen widths sizes numbers moved) H := hP
    have hD : va_D A (wM ca ev h0 h1 h2 h3 h4 h5 h6 h7 h8 h9 h10 h11 h12 h13 h14 h15 h16 h17 now kept isKept found order doubts doubtMany weights worn pairs isTwice doer doneTo doers tape taped u_2.1 u_2.2.1 u_2.2.2.1 u_2.2.2.2.1 u_2.2.2.2.2 items itemMany (bowThen + (1 : Int32)) doubtThen deedThen sayingThen widths sizes numbers moved) := hD
    refine lv_aload_n hx hb dX8_readBow_28 rfl (lv_at hl 0 rfl) ?_
    refine lv_iconst (v := (0 : Int32)) hx hb dX8_readBow_29 (by decide) ?_
    refine lv_bipush (v := (99 : Int32)) hx hb dX8_readBow_30 (by decide) ?_
    obtain ⟨u_3, e_3, h⟩ := bd_some h
    refine cm_Vi (As := [.int (0 : Int32), .int (99 : Int32)]) (rest := []) ⟨hx, hb, hml, hown, hts⟩ (c_X8_number (ca := ca) (ev := ev) (h0 := h0) (h1 := h1) (h2 := h2) (h3 := h3) (h4 := h4) (h5 := h5) (h6 := h6) (h7 := h7) (h8 := h8) (h9 := h9) (h10 := h10) (h11 := h11) (h12 := h12) (h13 := h13) (h14 := h14) (h15 := h15) (h16 := h16) (h17 := h17) (now := now) (kept := kept) (isKept := isKept) (found := found) (order := order) (doubts := doubts) (doubtMany := doubtMany) (weights := weights) (worn := worn) (pairs := pairs) (isTwice := isTwice) (doer := doer) (doneTo := doneTo) (doers := doers) (tape := tape) (taped := taped) (begins := u_2.1) (ends := u_2.2.1) (sort := u_2.2.2.1) (value := u_2.2.2.2.1) (isWrong := u_2.2.2.2.2) (items := items) (itemMany := itemMany) (bowThen := (bowThen + (1 : Int32))) (doubtThen := doubtThen) (deedThen := deedThen) (sayingThen := sayingThen) (widths := widths) (sizes := sizes) (numbers := numbers) (moved := moved) e_3) (cwV 2 hts gX8_readBow_X8_number rfl rfl rfl hd_X8_number ⟨Nat.le_of_ble_eq_true rfl, Nat.le_of_ble_eq_true rfl⟩) hK hP hD hS hA hE (q0 := 0) (ci := 8) rfl rfl rfl rfl hl.1 rfl (Nat.le_of_ble_eq_true rfl) dX8_readBow_32 ⟨Nat.zero_le _, Nat.zero_le _⟩ (fun H locs hP hD hS => ?_)
    refine lv_istore_n (lv' := [(1, .int u_3.1), (0, .ref h0)]) hx hb dX8_readBow_35 rfl hl (by decide) rfl (fun ls hl => ?_)
    refine lv_aload_n hx hb dX8_readBow_36 rfl (lv_at hl 1 rfl) ?_
    obtain ⟨u_4, e_4, h⟩ := bd_some h
    refine cm_Vi (As := []) (rest := []) ⟨hx, hb, hml, hown, hts⟩ (c_X8_mask (ca := ca) (ev := ev) (h0 := h0) (h1 := h1) (h2 := h2) (h3 := h3) (h4 := h4) (h5 := h5) (h6 := h6) (h7 := h7) (h8 := h8) (h9 := h9) (h10 := h10) (h11 := h11) (h12 := h12) (h13 := h13) (h14 := h14) (h15 := h15) (h16 := h16) (h17 := h17) (now := now) (kept := kept) (isKept := isKept) (found := found) (order := order) (doubts := doubts) (doubtMany := doubtMany) (weights := weights) (worn := worn) (pairs := pairs) (isTwice := isTwice) (doer := doer) (doneTo := doneTo) (doers := doers) (tape := tape) (taped := taped) (begins := u_3.2.1) (ends := u_3.2.2.1) (sort := u_3.2.2.2.1) (value := u_3.2.2.2.2.1) (isWrong := u_3.2.2.2.2.2) (items := items) (itemMany := itemMany) (bowThen := (bowThen + (1 : Int32))) (doubtThen := doubtThen) (deedThen := deedThen) (sayingThen := sayingThen) (widths := widths) (sizes := sizes) (numbers := numbers) (moved := moved) e_4) (cwV 0 hts gX8_readBow_X8_mask rfl rfl rfl hd_X8_mask ⟨Nat.le_of_ble_eq_true rfl, Nat.le_of_ble_eq_true rfl⟩) hK hP hD hS hA hE (q0 := 0) (ci := 8) rfl rfl rfl rfl hl.1 rfl (Nat.le_of_ble_eq_true rfl) dX8_readBow_37 ⟨Nat.zero_le _, Nat.zero_le _⟩ (fun H locs hP hD hS => ?_)
    refine lv_istore_n (lv' := [(2, .int u_4.1), (1, .int u_3.1), (0, .ref h0)]) hx hb dX8_readBow_40 rfl hl (by decide) rfl (fun ls hl => ?_)
    refine lv_aload_n hx hb dX8_readBow_41 rfl (lv_at hl 2 rfl) ?_
    refine lv_iload_n hx hb dX8_readBow_42 rfl (lv_at hl 0 rfl) ?_
    obtain ⟨u_5, e_5, h⟩ := bd_some h
    refine cm_Vi (As := [.int u_4.1]) (rest := []) ⟨hx, hb, hml, hown, hts⟩ (c_X8_otherMask (ca := ca) (ev := ev) (h0 := h0) (h1 := h1) (h2 := h2) (h3 := h3) (h4 := h4) (h5 := h5) (h6 := h6) (h7 := h7) (h8 := h8) (h9 := h9) (h10 := h10) (h11 := h11) (h12 := h12) (h13 := h13) (h14 := h14) (h15 := h15) (h16 := h16) (h17 := h17) (now := now) (kept := kept) (isKept := isKept) (found := found) (order := order) (doubts := doubts) (doubtMany := doubtMany) (weights := weights) (worn := worn) (pairs := pairs) (isTwice := isTwice) (doer := doer) (doneTo := doneTo) (doers := doers) (tape := tape) (taped := taped) (begins := u_4.2.1) (ends := u_4.2.2.1) (sort := u_4.2.2.2.1) (value := u_4.2.2.2.2.1) (isWrong := u_4.2.2.2.2.2) (items := items) (itemMany := itemMany) (bowThen := (bowThen + (1 : Int32))) (doubtThen := doubtThen) (deedThen := deedThen) (sayingThen := sayingThen) (widths := widths) (sizes := sizes) (numbers := numbers) (moved := moved) e_5) (cwV 1 hts gX8_readBow_X8_otherMask rfl rfl rfl hd_X8_otherMask ⟨Nat.le_of_ble_eq_true rfl, Nat.le_of_ble_eq_true rfl⟩) hK hP hD hS hA hE (q0 := 0) (ci := 8) rfl rfl rfl rfl hl.1 rfl (Nat.le_of_ble_eq_true rfl) dX8_readBow_43 ⟨Nat.zero_le _, Nat.zero_le _⟩ (fun H locs hP hD hS => ?_)
    refine lv_istore_n (lv' := [(3, .int u_5.1), (2, .int u_4.1), (1, .int u_3.1), (0, .ref h0)]) hx hb dX8_readBow_46 rfl hl (by decide) rfl (fun ls hl => ?_)
    refine lv_bipush (v := (10 : Int32)) hx hb dX8_readBow_47 (by decide) ?_
    refine lv_istore (lv' := [(4, .int (10 : Int32)), (3, .int u_5.1), (2, .int u_4.1), (1, .int u_3.1), (0, .ref h0)]) hx hb dX8_readBow_49 hl (by decide) rfl (fun ls hl => ?_)
    refine lv_aload_n hx hb dX8_readBow_51 rfl (lv_at hl 4 rfl) ?_
    refine va_get (D := G) (ci := 8) (v := .int u_5.2.2.2.2.2) (C := RX8) (T := TX8) (N := 32) hx hb hts hin_X8 hown hK hP 0 rfl rfl 20 (by decide) fk_259 (fun _ h9 => h9) rfl dX8_readBow_52 ?_
    obtain ⟨u_6, e_6, h⟩ := bd_some h
    have J_6 : ∀ {H : Heap} {locs : List Loc} {ls : Array Slot}, va_P G vwCl (wM ca ev h0 h1 h2 h3 h4 h5 h6 h7 h8 h9 h10 h11 h12 h13 h14 h15 h16 h17 now kept isKept found order doubts doubtMany weights worn pairs isTwice doer doneTo doers tape taped u_6.2.1 u_6.2.2.1 u_6.2.2.2.1 u_6.2.2.2.2.1 u_6.2.2.2.2.2.1 items itemMany (bowThen + (1 : Int32)) u_6.2.2.2.2.2.2 deedThen sayingThen widths sizes numbers moved) H → va_D A (wM ca ev h0 h1 h2 h3 h4 h5 h6 h7 h8 h9 h10 h11 h12 h13 h14 h15 h16 h17 now kept isKept found order doubts doubtMany weights worn pairs isTwice doer doneTo doers tape taped u_6.2.1 u_6.2.2.1 u_6.2.2.2.1 u_6.2.2.2.2.1 u_6.2.2.2.2.2.1 items itemMany (bowThen + (1 : Int32)) u_6.2.2.2.2.2.2 deedThen sayingThen widths sizes numbers moved) → va_S A s.heap H locs → lv_has ls 5 [(0, .ref h0), (1, .int u_3.1), (2, .int u_4.1), (3, .int u_5.1), (4, .int u_6.1)] → W p l e rm_X8_readBow s m args below meth c H locs 0 0 Q (F0 m 105 ls []) := by
      intro H locs ls hP hD hS hl 
      refine lv_aload_n hx hb dX8_readBow_105 rfl (lv_at hl 0 rfl) ?_
      refine lv_bipush (v := (10 : Int32)) hx hb dX8_readBow_106 (by decide) ?_
      refine lv_iload_n hx hb dX8_readBow_108 rfl (lv_at hl 1 rfl) ?_
      refine lv_iload_n hx hb dX8_readBow_109 rfl (lv_at hl 2 rfl) ?_
      refine lv_iload_n hx hb dX8_readBow_110 rfl (lv_at hl 3 rfl) ?_
      refine lv_iload hx hb dX8_readBow_111 (lv_at hl 4 rfl) ?_
      refine lv_iconst (v := (0 : Int32)) hx hb dX8_readBow_113 (by decide) ?_
      obtain ⟨u_12, e_12, h⟩ := bd_some h
      refine cm_Vv (As := [.int (10 : Int32), .int u_3.1, .int u_4.1, .int u_5.1, .int u_6.1, .int (0 : Int32)]) (rest := []) ⟨hx, hb, hml, hown, hts⟩ (c_X8_item (ca := ca) (ev := ev) (h0 := h0) (h1 := h1) (h2 := h2) (h3 := h3) (h4 := h4) (h5 := h5) (h6 := h6) (h7 := h7) (h8 := h8) (h9 := h9) (h10 := h10) (h11 := h11) (h12 := h12) (h13 := h13) (h14 := h14) (h15 := h15) (h16 := h16) (h17 := h17) (now := now) (kept := kept) (isKept := isKept) (found := found) (order := order) (doubts := doubts) (doubtMany := doubtMany) (weights := weights) (worn := worn) (pairs := pairs) (isTwice := isTwice) (doer := doer) (doneTo := doneTo) (doers := doers) (tape := tape) (taped := taped) (begins := u_6.2.1) (ends := u_6.2.2.1) (sort := u_6.2.2.2.1) (value := u_6.2.2.2.2.1) (isWrong := u_6.2.2.2.2.2.1) (items := items) (itemMany := itemMany) (bowThen := (bowThen + (1 : Int32))) (doubtThen := u_6.2.2.2.2.2.2) (deedThen := deedThen) (sayingThen := sayingThen) (widths := widths) (sizes := sizes) (numbers := numbers) (moved := moved) e_12) (cwV 6 hts gX8_readBow_X8_item rfl rfl rfl hd_X8_item ⟨Nat.le_of_ble_eq_true rfl, Nat.le_of_ble_eq_true rfl⟩) hK hP hD hS hA hE (q0 := 0) (ci := 8) rfl rfl rfl rfl hl.1 rfl (Nat.le_of_ble_eq_true rfl) dX8_readBow_114 ⟨Nat.zero_le _, Nat.zero_le _⟩ (fun H locs hP hD hS => ?_)
      obtain rfl := Option.some.inj h
      exact hRet hP hD hS dX8_readBow_117
    have h := e_6
    clear e_6
    refine lv_if_ne (tgt := 105) hx hb dX8_readBow_55 (by decide) (fun c_6 => ?_) (fun c_6 => ?_)
    · have h := ifn c_6 h
      obtain rfl := Option.some.inj h
      exact J_6 hP hD hS (lv_sub hl [4, 3, 2, 1, 0] rfl)
    · have h := ifp c_6 h
      refine lv_aload_n hx hb dX8_readBow_58 rfl (lv_at hl 4 rfl) ?_
      refine va_ldcwS hx hb hown (hE.2.2.2.1 ("MaskBowsModel", 316, "doubt", 1) (by decide +kernel)) dX8_readBow_59 ?_
      obtain ⟨u_7, e_7, h⟩ := bd_some h
      refine cm_Vi (As := [.ref (ev (1 + 2 * 1))]) (rest := []) ⟨hx, hb, hml, hown, hts⟩ (c_X8_isWord (ca := ca) (ev := ev) (h0 := h0) (h1 := h1) (h2 := h2) (h3 := h3) (h4 := h4) (h5 := h5) (h6 := h6) (h7 := h7) (h8 := h8) (h9 := h9) (h10 := h10) (h11 := h11) (h12 := h12) (h13 := h13) (h14 := h14) (h15 := h15) (h16 := h16) (h17 := h17) (now := now) (kept := kept) (isKept := isKept) (found := found) (order := order) (doubts := doubts) (doubtMany := doubtMany) (weights := weights) (worn := worn) (pairs := pairs) (isTwice := isTwice) (doer := doer) (doneTo := doneTo) (doers := doers) (tape := tape) (taped := taped) (begins := u_5.2.1) (ends := u_5.2.2.1) (sort := u_5.2.2.2.1) (value := u_5.2.2.2.2.1) (isWrong := u_5.2.2.2.2.2) (items := items) (itemMany := itemMany) (bowThen := (bowThen + (1 : Int32))) (doubtThen := doubtThen) (deedThen := deedThen) (sayingThen := sayingThen) (widths := widths) (sizes := sizes) (numbers := numbers) (moved := moved) (by decide) e_7) (cwV 1 hts gX8_readBow_X8_isWord rfl rfl rfl hd_X8_isWord ⟨Nat.le_of_ble_eq_true rfl, Nat.le_of_ble_eq_true rfl⟩) hK hP hD hS hA hE (q0 := 0) (ci := 8) rfl rfl rfl rfl hl.1 rfl (Nat.le_of_ble_eq_true rfl) dX8_readBow_62 ⟨Nat.zero_le _, Nat.zero_le _⟩ (fun H locs hP hD hS => ?_)
      refine lv_if_eq (tgt := 105) hx hb dX8_readBow_65 (by decide) (fun c_8 => ?_) (fun c_8 => ?_)
      · have h := ifp c_8 h
        obtain rfl := Option.some.inj h
        exact J_6 hP hD hS (lv_sub hl [4, 3, 2, 1, 0] rfl)
      · have h := ifn c_8 h
        refine lv_aload_n hx hb dX8_readBow_68 rfl (lv_at hl 4 rfl) ?_
        refine lv_aload_n hx hb dX8_readBow_69 rfl (lv_at hl 4 rfl) ?_
        refine va_get (D := G) (ci := 8) (v := .int doubtThen) (C := RX8) (T := TX8) (N := 32) hx hb hts hin_X8 hown hK hP 0 rfl rfl 25 (by decide) fk_318 (fun _ h9 => h9) rfl dX8_readBow_70 ?_
        refine lv_bipush (v := (6 : Int32)) hx hb dX8_readBow_73 (by decide) ?_
        obtain ⟨u_9, e_9, h⟩ := bd_some h
        have J_9 : ∀ {H : Heap} {locs : List Loc} {ls : Array Slot}, va_P G vwCl (wM ca ev h0 h1 h2 h3 h4 h5 h6 h7 h8 h9 h10 h11 h12 h13 h14 h15 h16 h17 now kept isKept found order doubts doubtMany weights worn pairs isTwice doer doneTo doers tape taped u_5.2.1 u_5.2.2.1 u_5.2.2.2.1 u_5.2.2.2.2.1 u_5.2.2.2.2.2 items itemMany (bowThen + (1 : Int32)) doubtThen deedThen sayingThen widths sizes numbers moved) H → va_D A (wM ca ev h0 h1 h2 h3 h4 h5 h6 h7 h8 h9 h10 h11 h12 h13 h14 h15 h16 h17 now kept isKept found order doubts doubtMany weights worn pairs isTwice doer doneTo doers tape taped u_5.2.1 u_5.2.2.1 u_5.2.2.2.1 u_5.2.2.2.2.1 u_5.2.2.2.2.2 items itemMany (bowThen + (1 : Int32)) doubtThen deedThen sayingThen widths sizes numbers moved) → va_S A s.heap H locs → lv_has ls 5 [(0, .ref h0), (1, .int u_3.1), (2, .int u_4.1), (3, .int u_5.1)] → (u_9 = 0 ∨ u_9 = 1) → W p l e rm_X8_readBow s m args below meth c H locs 0 0 Q (F0 m 83 ls [.int u_9, .ref h0]) := by
          intro H locs ls hP hD hS hl zj_9_0
          obtain ⟨u_10, e_10, h⟩ := bd_some h
          refine cm_Vv (As := [.int u_9]) (rest := []) ⟨hx, hb, hml, hown, hts⟩ (c_X8_must (ca := ca) (ev := ev) (h0 := h0) (h1 := h1) (h2 := h2) (h3 := h3) (h4 := h4) (h5 := h5) (h6 := h6) (h7 := h7) (h8 := h8) (h9 := h9) (h10 := h10) (h11 := h11) (h12 := h12) (h13 := h13) (h14 := h14) (h15 := h15) (h16 := h16) (h17 := h17) (now := now) (kept := kept) (isKept := isKept) (found := found) (order := order) (doubts := doubts) (doubtMany := doubtMany) (weights := weights) (worn := worn) (pairs := pairs) (isTwice := isTwice) (doer := doer) (doneTo := doneTo) (doers := doers) (tape := tape) (taped := taped) (begins := u_5.2.1) (ends := u_5.2.2.1) (sort := u_5.2.2.2.1) (value := u_5.2.2.2.2.1) (isWrong := u_5.2.2.2.2.2) (items := items) (itemMany := itemMany) (bowThen := (bowThen + (1 : Int32))) (doubtThen := doubtThen) (deedThen := deedThen) (sayingThen := sayingThen) (widths := widths) (sizes := sizes) (numbers := numbers) (moved := moved) e_10) (cwV 1 hts gX8_readBow_X8_must rfl rfl rfl hd_X8_must ⟨Nat.le_of_ble_eq_true rfl, Nat.le_of_ble_eq_true rfl⟩) hK hP hD hS hA hE (q0 := 0) (ci := 8) rfl rfl rfl rfl hl.1 rfl (Nat.le_of_ble_eq_true rfl) dX8_readBow_83 ⟨Nat.zero_le _, Nat.zero_le _⟩ (fun H locs hP hD hS => ?_)
          refine lv_aload_n hx hb dX8_readBow_86 rfl (lv_at hl 0 rfl) ?_
          refine lv_dup hx hb dX8_readBow_87 rfl ?_
          refine va_get (D := G) (ci := 8) (v := .int doubtThen) (C := RX8) (T := TX8) (N := 32) hx hb hts hin_X8 hown hK hP 0 rfl rfl 25 (by decide) fk_318 (fun _ h9 => h9) rfl dX8_readBow_88 ?_
          refine lv_iconst (v := (1 : Int32)) hx hb dX8_readBow_91 (by decide) ?_
          refine lv_iadd hx hb dX8_readBow_92 ?_
          refine va_put (D := G) (ci := 8) (v := .int (doubtThen + (1 : Int32))) (ty := .int) (C := RX8) (T := TX8) (N := 32) hx hb hts hin_X8 tyX8 tyX8_ok nmX8 hown hK hP hD hS 0 rfl rfl 25 (by decide) fk_318 (fun _ h9 => h9) rfl (tyX8_ok 25 (by decide)) rfl rfl (Nat.le_of_ble_eq_true rfl) dX8_readBow_93 (fun H locs hP hD hS => ?_)
          have hP : va_P G vwCl (wM ca ev h0 h1 h2 h3 h4 h5 h6 h7 h8 h9 h10 h11 h12 h13 h14 h15 h16 h17 now kept isKept found order doubts doubtMany weights worn pairs isTwice doer doneTo doers tape taped u_10.1 u_10.2.1 u_10.2.2.1 u_10.2.2.2.1 u_10.2.2.2.2 items itemMany (bowThen + (1 : Int32)) (doubtThen + (1 : Int32)) deedThen sayingThen widths sizes numbers moved) H := hP
          have hD : va_D A (wM ca ev h0 h1 h2 h3 h4 h5 h6 h7 h8 h9 h10 h11 h12 h13 h14 h15 h16 h17 now kept isKept found order doubts doubtMany weights worn pairs isTwice doer doneTo doers tape taped u_10.1 u_10.2.1 u_10.2.2.1 u_10.2.2.2.1 u_10.2.2.2.2 items itemMany (bowThen + (1 : Int32)) (doubtThen + (1 : Int32)) deedThen sayingThen widths sizes numbers moved) := hD
          refine lv_aload_n hx hb dX8_readBow_96 rfl (lv_at hl 0 rfl) ?_
          refine lv_iconst (v := (0 : Int32)) hx hb dX8_readBow_97 (by decide) ?_
          refine lv_bipush (v := (9 : Int32)) hx hb dX8_readBow_98 (by decide) ?_
          obtain ⟨u_11, e_11, h⟩ := bd_some h
          refine cm_Vi (As := [.int (0 : Int32), .int (9 : Int32)]) (rest := []) ⟨hx, hb, hml, hown, hts⟩ (c_X8_number (ca := ca) (ev := ev) (h0 := h0) (h1 := h1) (h2 := h2) (h3 := h3) (h4 := h4) (h5 := h5) (h6 := h6) (h7 := h7) (h8 := h8) (h9 := h9) (h10 := h10) (h11 := h11) (h12 := h12) (h13 := h13) (h14 := h14) (h15 := h15) (h16 := h16) (h17 := h17) (now := now) (kept := kept) (isKept := isKept) (found := found) (order := order) (doubts := doubts) (doubtMany := doubtMany) (weights := weights) (worn := worn) (pairs := pairs) (isTwice := isTwice) (doer := doer) (doneTo := doneTo) (doers := doers) (tape := tape) (taped := taped) (begins := u_10.1) (ends := u_10.2.1) (sort := u_10.2.2.1) (value := u_10.2.2.2.1) (isWrong := u_10.2.2.2.2) (items := items) (itemMany := itemMany) (bowThen := (bowThen + (1 : Int32))) (doubtThen := (doubtThen + (1 : Int32))) (deedThen := deedThen) (sayingThen := sayingThen) (widths := widths) (sizes := sizes) (numbers := numbers) (moved := moved) e_11) (cwV 2 hts gX8_readBow_X8_number rfl rfl rfl hd_X8_number ⟨Nat.le_of_ble_eq_true rfl, Nat.le_of_ble_eq_true rfl⟩) hK hP hD hS hA hE (q0 := 0) (ci := 8) rfl rfl rfl rfl hl.1 rfl (Nat.le_of_ble_eq_true rfl) dX8_readBow_100 ⟨Nat.zero_le _, Nat.zero_le _⟩ (fun H locs hP hD hS => ?_)
          refine lv_istore (lv' := [(4, .int u_11.1), (0, .ref h0), (1, .int u_3.1), (2, .int u_4.1), (3, .int u_5.1)]) hx hb dX8_readBow_103 hl (by decide) rfl (fun ls hl => ?_)
          obtain rfl := Option.some.inj h
          exact J_6 hP hD hS (lv_sub hl [1, 2, 3, 4, 0] rfl)
        have h := e_9
        clear e_9
        refine lv_icmp_ge (tgt := 82) hx hb dX8_readBow_75 (by decide) (fun c_9 => ?_) (fun c_9 => ?_)
        · have h := ifp c_9 h
          refine lv_iconst (v := (0 : Int32)) hx hb dX8_readBow_82 (by decide) ?_
          obtain rfl := Option.some.inj h
          exact J_9 hP hD hS (lv_sub hl [4, 3, 2, 1] rfl) zb_0
        · have h := ifn c_9 h
          refine lv_iconst (v := (1 : Int32)) hx hb dX8_readBow_78 (by decide) ?_
          refine lv_goto (tgt := 83) hx hb dX8_readBow_79 (by decide) ?_
          obtain rfl := Option.some.inj h
          exact J_9 hP hD hS (lv_sub hl [4, 3, 2, 1] rfl) zb_1
  have h := e_1
  clear e_1
  refine lv_icmp_ge (tgt := 14) hx hb dX8_readBow_7 (by decide) (fun c_1 => ?_) (fun c_1 => ?_)
  · have h := ifp c_1 h
    refine lv_iconst (v := (0 : Int32)) hx hb dX8_readBow_14 (by decide) ?_
    obtain rfl := Option.some.inj h
    exact J_1 hP hD hS (lv_sub hl [0] rfl) zb_0
  · have h := ifn c_1 h
    refine lv_iconst (v := (1 : Int32)) hx hb dX8_readBow_10 (by decide) ?_
    refine lv_goto (tgt := 15) hx hb dX8_readBow_11 (by decide) ?_
    obtain rfl := Option.some.inj h
    exact J_1 hP hD hS (lv_sub hl [0] rfl) zb_1
abbrev rm_X8_readDeed : Room := { frames := 5, cells := 0, slots := 0, locals := 108 }
theorem hd_X8_readDeed : yX8_readDeed.cls = RX8 ∧ yX8_readDeed.cls ≠ "java/lang/invoke/MethodHandle" ∧ yX8_readDeed.cls ≠ "java/lang/invoke/VarHandle" ∧ (parseMethodDescriptor yX8_readDeed.desc).map (fun d => d.parameters.length) = some 1 := by decide +kernel
set_option maxHeartbeats 4000000 in
set_option maxRecDepth 100000 in
theorem c_X8_readDeed {l : Launch} {G : va_G} {ca : Nat → ClassId} {ev : Nat → Nat} {h0 h1 h2 h3 h4 h5 h6 h7 h8 h9 h10 h11 h12 h13 h14 h15 h16 h17 : Nat} {now : (Nat → Int32)} {kept : (Nat → Int32)} {isKept : Int32} {found : (Nat → Int32)} {order : (Nat → Int32)} {doubts : (Nat → Int32)} {doubtMany : Int32} {weights : (Nat → Int64)} {worn : (Nat → Int32)} {pairs : Int64} {isTwice : Int32} {doer : (Nat → Int32)} {doneTo : (Nat → Int32)} {doers : (Nat → Int64)} {tape : (Nat → Int32)} {taped : Int32} {begins : Int32} {ends : Int32} {sort : Int32} {value : Int32} {isWrong : Int32} {items : (Nat → Int32)} {itemMany : Int32} {bowThen : Int32} {doubtThen : Int32} {deedThen : Int32} {sayingThen : Int32} {widths : (Nat → Int32)} {sizes : (Nat → Int32)} {numbers : (Nat → Int64)} {moved : (Nat → Int64)} {a1 : Int32} {N : Nat} {res : Int32 × Int32 × Int32 × Int32 × Int32 × (Nat → Int32) × Int32 × Int32} (h : f_X8_readDeed N now tape taped begins ends sort value isWrong items itemMany deedThen a1 = some res) : CtV l yX8_readDeed wsX8_readDeed rm_X8_readDeed G ca ev [.ref h0, .int a1] (wM ca ev h0 h1 h2 h3 h4 h5 h6 h7 h8 h9 h10 h11 h12 h13 h14 h15 h16 h17 now kept isKept found order doubts doubtMany weights worn pairs isTwice doer doneTo doers tape taped begins ends sort value isWrong items itemMany bowThen doubtThen deedThen sayingThen widths sizes numbers moved) (wM ca ev h0 h1 h2 h3 h4 h5 h6 h7 h8 h9 h10 h11 h12 h13 h14 h15 h16 h17 now kept isKept found order doubts doubtMany weights worn pairs isTwice doer doneTo doers tape taped res.1 res.2.1 res.2.2.1 res.2.2.2.1 res.2.2.2.2.1 res.2.2.2.2.2.1 res.2.2.2.2.2.2.1 bowThen doubtThen res.2.2.2.2.2.2.2 sayingThen widths sizes numbers moved) := by
  unfold f_X8_readDeed at h
  refine en_v (by decide) rfl (Nat.le_of_ble_eq_true rfl) ?_
  intro p e s m args below meth c A Q H locs ls hx hb hml hown hts hA hP hK hD hE hS hl hRet
  have hown : s.vm.findClass RX8 = some m.cls := hown
  have hl : lv_has ls 6 [(0, .ref h0), (1, .int a1)] := hl
  have hin_X8 : ∀ w ∈ u_ws RX8 TX8 32, w ∈ wsX8_readDeed := fun w h9 => List.mem_cons_of_mem _ (List.mem_append_right _ h9)
  have fk_259 := hts (.fieldLink RX8 259 "MaskBowsModel" "isWrong" "Z") (by decide +kernel)
  have fk_321 := hts (.fieldLink RX8 321 "MaskBowsModel" "deedThen" "I") (by decide +kernel)
  refine lv_aload_n hx hb dX8_readDeed_0 rfl (lv_at hl 0 rfl) ?_
  refine lv_aload_n hx hb dX8_readDeed_1 rfl (lv_at hl 0 rfl) ?_
  refine va_get (D := G) (ci := 8) (v := .int deedThen) (C := RX8) (T := TX8) (N := 32) hx hb hts hin_X8 hown hK hP 0 rfl rfl 26 (by decide) fk_321 (fun _ h9 => h9) rfl dX8_readDeed_2 ?_
  refine lv_bipush (v := (12 : Int32)) hx hb dX8_readDeed_5 (by decide) ?_
  obtain ⟨u_1, e_1, h⟩ := bd_some h
  have J_1 : ∀ {H : Heap} {locs : List Loc} {ls : Array Slot}, va_P G vwCl (wM ca ev h0 h1 h2 h3 h4 h5 h6 h7 h8 h9 h10 h11 h12 h13 h14 h15 h16 h17 now kept isKept found order doubts doubtMany weights worn pairs isTwice doer doneTo doers tape taped begins ends sort value isWrong items itemMany bowThen doubtThen deedThen sayingThen widths sizes numbers moved) H → va_D A (wM ca ev h0 h1 h2 h3 h4 h5 h6 h7 h8 h9 h10 h11 h12 h13 h14 h15 h16 h17 now kept isKept found order doubts doubtMany weights worn pairs isTwice doer doneTo doers tape taped begins ends sort value isWrong items itemMany bowThen doubtThen deedThen sayingThen widths sizes numbers moved) → va_S A s.heap H locs → lv_has ls 6 [(0, .ref h0), (1, .int a1)] → (u_1 = 0 ∨ u_1 = 1) → W p l e rm_X8_readDeed s m args below meth c H locs 0 0 Q (F0 m 15 ls [.int u_1, .ref h0]) := by
    intro H locs ls hP hD hS hl zj_1_0
    obtain ⟨u_2, e_2, h⟩ := bd_some h
    refine cm_Vv (As := [.int u_1]) (rest := []) ⟨hx, hb, hml, hown, hts⟩ (c_X8_must (ca := ca) (ev := ev) (h0 := h0) (h1 := h1) (h2 := h2) (h3 := h3) (h4 := h4) (h5 := h5) (h6 := h6) (h7 := h7) (h8 := h8) (h9 := h9) (h10 := h10) (h11 := h11) (h12 := h12) (h13 := h13) (h14 := h14) (h15 := h15) (h16 := h16) (h17 := h17) (now := now) (kept := kept) (isKept := isKept) (found := found) (order := order) (doubts := doubts) (doubtMany := doubtMany) (weights := weights) (worn := worn) (pairs := pairs) (isTwice := isTwice) (doer := doer) (doneTo := doneTo) (doers := doers) (tape := tape) (taped := taped) (begins := begins) (ends := ends) (sort := sort) (value := value) (isWrong := isWrong) (items := items) (itemMany := itemMany) (bowThen := bowThen) (doubtThen := doubtThen) (deedThen := deedThen) (sayingThen := sayingThen) (widths := widths) (sizes := sizes) (numbers := numbers) (moved := moved) e_2) (cwV 1 hts gX8_readDeed_X8_must rfl rfl rfl hd_X8_must ⟨Nat.le_of_ble_eq_true rfl, Nat.le_of_ble_eq_true rfl⟩) hK hP hD hS hA hE (q0 := 0) (ci := 8) rfl rfl rfl rfl hl.1 rfl (Nat.le_of_ble_eq_true rfl) dX8_readDeed_15 ⟨Nat.zero_le _, Nat.zero_le _⟩ (fun H locs hP hD hS => ?_)
    refine lv_aload_n hx hb dX8_readDeed_18 rfl (lv_at hl 0 rfl) ?_
    refine lv_dup hx hb dX8_readDeed_19 rfl ?_
    refine va_get (D := G) (ci := 8) (v := .int deedThen) (C := RX8) (T := TX8) (N := 32) hx hb hts hin_X8 hown hK hP 0 rfl rfl 26 (by decide) fk_321 (fun _ h9 => h9) rfl dX8_readDeed_20 ?_
    refine lv_iconst (v := (1 : Int32)) hx hb dX8_readDeed_23 (by decide) ?_
    refine lv_iadd hx hb dX8_readDeed_24 ?_
    refine va_put (D := G) (ci := 8) (v := .int (deedThen + (1 : Int32))) (ty := .int) (C := RX8) (T := TX8) (N := 32) hx hb hts hin_X8 tyX8 tyX8_ok nmX8 hown hK hP hD hS 0 rfl rfl 26 (by decide) fk_321 (fun _ h9 => h9) rfl (tyX8_ok 26 (by decide)) rfl rfl (Nat.le_of_ble_eq_true rfl) dX8_readDeed_25 (fun H locs hP hD hS => ?_)
    have hP : va_P G vwCl (wM ca ev h0 h1 h2 h3 h4 h5 h6 h7 h8 h9 h10 h11 h12 h13 h14 h15 h16 h17 now kept isKept found order doubts doubtMany weights worn pairs isTwice doer doneTo doers tape taped u_2.1 u_2.2.1 u_2.2.2.1 u_2.2.2.2.1 u_2.2.2.2.2 items itemMany bowThen doubtThen (deedThen + (1 : Int32)) sayingThen widths sizes numbers moved) H := hP
    have hD : va_D A (wM ca ev h0 h1 h2 h3 h4 h5 h6 h7 h8 h9 h10 h11 h12 h13 h14 h15 h16 h17 now kept isKept found order doubts doubtMany weights worn pairs isTwice doer doneTo doers tape taped u_2.1 u_2.2.1 u_2.2.2.1 u_2.2.2.2.1 u_2.2.2.2.2 items itemMany bowThen doubtThen (deedThen + (1 : Int32)) sayingThen widths sizes numbers moved) := hD
    refine lv_aload_n hx hb dX8_readDeed_28 rfl (lv_at hl 0 rfl) ?_
    refine lv_iconst (v := (0 : Int32)) hx hb dX8_readDeed_29 (by decide) ?_
    refine lv_bipush (v := (99 : Int32)) hx hb dX8_readDeed_30 (by decide) ?_
    obtain ⟨u_3, e_3, h⟩ := bd_some h
    refine cm_Vi (As := [.int (0 : Int32), .int (99 : Int32)]) (rest := []) ⟨hx, hb, hml, hown, hts⟩ (c_X8_number (ca := ca) (ev := ev) (h0 := h0) (h1 := h1) (h2 := h2) (h3 := h3) (h4 := h4) (h5 := h5) (h6 := h6) (h7 := h7) (h8 := h8) (h9 := h9) (h10 := h10) (h11 := h11) (h12 := h12) (h13 := h13) (h14 := h14) (h15 := h15) (h16 := h16) (h17 := h17) (now := now) (kept := kept) (isKept := isKept) (found := found) (order := order) (doubts := doubts) (doubtMany := doubtMany) (weights := weights) (worn := worn) (pairs := pairs) (isTwice := isTwice) (doer := doer) (doneTo := doneTo) (doers := doers) (tape := tape) (taped := taped) (begins := u_2.1) (ends := u_2.2.1) (sort := u_2.2.2.1) (value := u_2.2.2.2.1) (isWrong := u_2.2.2.2.2) (items := items) (itemMany := itemMany) (bowThen := bowThen) (doubtThen := doubtThen) (deedThen := (deedThen + (1 : Int32))) (sayingThen := sayingThen) (widths := widths) (sizes := sizes) (numbers := numbers) (moved := moved) e_3) (cwV 2 hts gX8_readDeed_X8_number rfl rfl rfl hd_X8_number ⟨Nat.le_of_ble_eq_true rfl, Nat.le_of_ble_eq_true rfl⟩) hK hP hD hS hA hE (q0 := 0) (ci := 8) rfl rfl rfl rfl hl.1 rfl (Nat.le_of_ble_eq_true rfl) dX8_readDeed_32 ⟨Nat.zero_le _, Nat.zero_le _⟩ (fun H locs hP hD hS => ?_)
    refine lv_istore_n (lv' := [(2, .int u_3.1), (0, .ref h0), (1, .int a1)]) hx hb dX8_readDeed_35 rfl hl (by decide) rfl (fun ls hl => ?_)
    refine lv_aload_n hx hb dX8_readDeed_36 rfl (lv_at hl 1 rfl) ?_
    obtain ⟨u_4, e_4, h⟩ := bd_some h
    refine cm_Vi (As := []) (rest := []) ⟨hx, hb, hml, hown, hts⟩ (c_X8_mask (ca := ca) (ev := ev) (h0 := h0) (h1 := h1) (h2 := h2) (h3 := h3) (h4 := h4) (h5 := h5) (h6 := h6) (h7 := h7) (h8 := h8) (h9 := h9) (h10 := h10) (h11 := h11) (h12 := h12) (h13 := h13) (h14 := h14) (h15 := h15) (h16 := h16) (h17 := h17) (now := now) (kept := kept) (isKept := isKept) (found := found) (order := order) (doubts := doubts) (doubtMany := doubtMany) (weights := weights) (worn := worn) (pairs := pairs) (isTwice := isTwice) (doer := doer) (doneTo := doneTo) (doers := doers) (tape := tape) (taped := taped) (begins := u_3.2.1) (ends := u_3.2.2.1) (sort := u_3.2.2.2.1) (value := u_3.2.2.2.2.1) (isWrong := u_3.2.2.2.2.2) (items := items) (itemMany := itemMany) (bowThen := bowThen) (doubtThen := doubtThen) (deedThen := (deedThen + (1 : Int32))) (sayingThen := sayingThen) (widths := widths) (sizes := sizes) (numbers := numbers) (moved := moved) e_4) (cwV 0 hts gX8_readDeed_X8_mask rfl rfl rfl hd_X8_mask ⟨Nat.le_of_ble_eq_true rfl, Nat.le_of_ble_eq_true rfl⟩) hK hP hD hS hA hE (q0 := 0) (ci := 8) rfl rfl rfl rfl hl.1 rfl (Nat.le_of_ble_eq_true rfl) dX8_readDeed_37 ⟨Nat.zero_le _, Nat.zero_le _⟩ (fun H locs hP hD hS => ?_)
    refine lv_istore_n (lv' := [(3, .int u_4.1), (2, .int u_3.1), (0, .ref h0), (1, .int a1)]) hx hb dX8_readDeed_40 rfl hl (by decide) rfl (fun ls hl => ?_)
    refine lv_aload_n hx hb dX8_readDeed_41 rfl (lv_at hl 2 rfl) ?_
    refine lv_aload_n hx hb dX8_readDeed_42 rfl (lv_at hl 2 rfl) ?_
    refine va_ldcwS hx hb hown (hE.2.2.2.1 ("MaskBowsModel", 324, "to", 15) (by decide +kernel)) dX8_readDeed_43 ?_
    obtain ⟨u_5, e_5, h⟩ := bd_some h
    refine cm_Vi (As := [.ref (ev (1 + 2 * 15))]) (rest := [.ref h0]) ⟨hx, hb, hml, hown, hts⟩ (c_X8_isWord (ca := ca) (ev := ev) (h0 := h0) (h1 := h1) (h2 := h2) (h3 := h3) (h4 := h4) (h5 := h5) (h6 := h6) (h7 := h7) (h8 := h8) (h9 := h9) (h10 := h10) (h11 := h11) (h12 := h12) (h13 := h13) (h14 := h14) (h15 := h15) (h16 := h16) (h17 := h17) (now := now) (kept := kept) (isKept := isKept) (found := found) (order := order) (doubts := doubts) (doubtMany := doubtMany) (weights := weights) (worn := worn) (pairs := pairs) (isTwice := isTwice) (doer := doer) (doneTo := doneTo) (doers := doers) (tape := tape) (taped := taped) (begins := u_4.2.1) (ends := u_4.2.2.1) (sort := u_4.2.2.2.1) (value := u_4.2.2.2.2.1) (isWrong := u_4.2.2.2.2.2) (items := items) (itemMany := itemMany) (bowThen := bowThen) (doubtThen := doubtThen) (deedThen := (deedThen + (1 : Int32))) (sayingThen := sayingThen) (widths := widths) (sizes := sizes) (numbers := numbers) (moved := moved) (by decide) e_5) (cwV 1 hts gX8_readDeed_X8_isWord rfl rfl rfl hd_X8_isWord ⟨Nat.le_of_ble_eq_true rfl, Nat.le_of_ble_eq_true rfl⟩) hK hP hD hS hA hE (q0 := 0) (ci := 8) rfl rfl rfl rfl hl.1 rfl (Nat.le_of_ble_eq_true rfl) dX8_readDeed_46 ⟨Nat.zero_le _, Nat.zero_le _⟩ (fun H locs hP hD hS => ?_)
    obtain ⟨u_6, e_6, h⟩ := bd_some h
    refine cm_Vv (As := [.int u_5]) (rest := []) ⟨hx, hb, hml, hown, hts⟩ (c_X8_must (ca := ca) (ev := ev) (h0 := h0) (h1 := h1) (h2 := h2) (h3 := h3) (h4 := h4) (h5 := h5) (h6 := h6) (h7 := h7) (h8 := h8) (h9 := h9) (h10 := h10) (h11 := h11) (h12 := h12) (h13 := h13) (h14 := h14) (h15 := h15) (h16 := h16) (h17 := h17) (now := now) (kept := kept) (isKept := isKept) (found := found) (order := order) (doubts := doubts) (doubtMany := doubtMany) (weights := weights) (worn := worn) (pairs := pairs) (isTwice := isTwice) (doer := doer) (doneTo := doneTo) (doers := doers) (tape := tape) (taped := taped) (begins := u_4.2.1) (ends := u_4.2.2.1) (sort := u_4.2.2.2.1) (value := u_4.2.2.2.2.1) (isWrong := u_4.2.2.2.2.2) (items := items) (itemMany := itemMany) (bowThen := bowThen) (doubtThen := doubtThen) (deedThen := (deedThen + (1 : Int32))) (sayingThen := sayingThen) (widths := widths) (sizes := sizes) (numbers := numbers) (moved := moved) e_6) (cwV 1 hts gX8_readDeed_X8_must rfl rfl rfl hd_X8_must ⟨Nat.le_of_ble_eq_true rfl, Nat.le_of_ble_eq_true rfl⟩) hK hP hD hS hA hE (q0 := 0) (ci := 8) rfl rfl rfl rfl hl.1 rfl (Nat.le_of_ble_eq_true rfl) dX8_readDeed_49 ⟨Nat.zero_le _, Nat.zero_le _⟩ (fun H locs hP hD hS => ?_)
    refine lv_aload_n hx hb dX8_readDeed_52 rfl (lv_at hl 2 rfl) ?_
    refine lv_iload_n hx hb dX8_readDeed_53 rfl (lv_at hl 0 rfl) ?_
    obtain ⟨u_7, e_7, h⟩ := bd_some h
    refine cm_Vi (As := [.int u_4.1]) (rest := []) ⟨hx, hb, hml, hown, hts⟩ (c_X8_otherMask (ca := ca) (ev := ev) (h0 := h0) (h1 := h1) (h2 := h2) (h3 := h3) (h4 := h4) (h5 := h5) (h6 := h6) (h7 := h7) (h8 := h8) (h9 := h9) (h10 := h10) (h11 := h11) (h12 := h12) (h13 := h13) (h14 := h14) (h15 := h15) (h16 := h16) (h17 := h17) (now := now) (kept := kept) (isKept := isKept) (found := found) (order := order) (doubts := doubts) (doubtMany := doubtMany) (weights := weights) (worn := worn) (pairs := pairs) (isTwice := isTwice) (doer := doer) (doneTo := doneTo) (doers := doers) (tape := tape) (taped := taped) (begins := u_6.1) (ends := u_6.2.1) (sort := u_6.2.2.1) (value := u_6.2.2.2.1) (isWrong := u_6.2.2.2.2) (items := items) (itemMany := itemMany) (bowThen := bowThen) (doubtThen := doubtThen) (deedThen := (deedThen + (1 : Int32))) (sayingThen := sayingThen) (widths := widths) (sizes := sizes) (numbers := numbers) (moved := moved) e_7) (cwV 1 hts gX8_readDeed_X8_otherMask rfl rfl rfl hd_X8_otherMask ⟨Nat.le_of_ble_eq_true rfl, Nat.le_of_ble_eq_true rfl⟩) hK hP hD hS hA hE (q0 := 0) (ci := 8) rfl rfl rfl rfl hl.1 rfl (Nat.le_of_ble_eq_true rfl) dX8_readDeed_54 ⟨Nat.zero_le _, Nat.zero_le _⟩ (fun H locs hP hD hS => ?_)
    refine lv_istore (lv' := [(4, .int u_7.1), (3, .int u_4.1), (2, .int u_3.1), (0, .ref h0), (1, .int a1)]) hx hb dX8_readDeed_57 hl (by decide) rfl (fun ls hl => ?_)
    refine lv_bipush (v := (10 : Int32)) hx hb dX8_readDeed_59 (by decide) ?_
    refine lv_istore (lv' := [(5, .int (10 : Int32)), (4, .int u_7.1), (3, .int u_4.1), (2, .int u_3.1), (0, .ref h0), (1, .int a1)]) hx hb dX8_readDeed_61 hl (by decide) rfl (fun ls hl => ?_)
    refine lv_aload_n hx hb dX8_readDeed_63 rfl (lv_at hl 4 rfl) ?_
    refine va_get (D := G) (ci := 8) (v := .int u_7.2.2.2.2.2) (C := RX8) (T := TX8) (N := 32) hx hb hts hin_X8 hown hK hP 0 rfl rfl 20 (by decide) fk_259 (fun _ h9 => h9) rfl dX8_readDeed_64 ?_
    obtain ⟨u_8, e_8, h⟩ := bd_some h
    have J_8 : ∀ {H : Heap} {locs : List Loc} {ls : Array Slot}, va_P G vwCl (wM ca ev h0 h1 h2 h3 h4 h5 h6 h7 h8 h9 h10 h11 h12 h13 h14 h15 h16 h17 now kept isKept found order doubts doubtMany weights worn pairs isTwice doer doneTo doers tape taped u_8.2.1 u_8.2.2.1 u_8.2.2.2.1 u_8.2.2.2.2.1 u_8.2.2.2.2.2 items itemMany bowThen doubtThen (deedThen + (1 : Int32)) sayingThen widths sizes numbers moved) H → va_D A (wM ca ev h0 h1 h2 h3 h4 h5 h6 h7 h8 h9 h10 h11 h12 h13 h14 h15 h16 h17 now kept isKept found order doubts doubtMany weights worn pairs isTwice doer doneTo doers tape taped u_8.2.1 u_8.2.2.1 u_8.2.2.2.1 u_8.2.2.2.2.1 u_8.2.2.2.2.2 items itemMany bowThen doubtThen (deedThen + (1 : Int32)) sayingThen widths sizes numbers moved) → va_S A s.heap H locs → lv_has ls 6 [(0, .ref h0), (1, .int a1), (2, .int u_3.1), (3, .int u_4.1), (4, .int u_7.1), (5, .int u_8.1)] → W p l e rm_X8_readDeed s m args below meth c H locs 0 0 Q (F0 m 95 ls []) := by
      intro H locs ls hP hD hS hl 
      refine lv_aload_n hx hb dX8_readDeed_95 rfl (lv_at hl 0 rfl) ?_
      refine lv_iload_n hx hb dX8_readDeed_96 rfl (lv_at hl 1 rfl) ?_
      refine lv_iload_n hx hb dX8_readDeed_97 rfl (lv_at hl 2 rfl) ?_
      refine lv_iload_n hx hb dX8_readDeed_98 rfl (lv_at hl 3 rfl) ?_
      refine lv_iload hx hb dX8_readDeed_99 (lv_at hl 4 rfl) ?_
      refine lv_iload hx hb dX8_readDeed_101 (lv_at hl 5 rfl) ?_
      refine lv_iconst (v := (0 : Int32)) hx hb dX8_readDeed_103 (by decide) ?_
      obtain ⟨u_13, e_13, h⟩ := bd_some h
      refine cm_Vv (As := [.int a1, .int u_3.1, .int u_4.1, .int u_7.1, .int u_8.1, .int (0 : Int32)]) (rest := []) ⟨hx, hb, hml, hown, hts⟩ (c_X8_item (ca := ca) (ev := ev) (h0 := h0) (h1 := h1) (h2 := h2) (h3 := h3) (h4 := h4) (h5 := h5) (h6 := h6) (h7 := h7) (h8 := h8) (h9 := h9) (h10 := h10) (h11 := h11) (h12 := h12) (h13 := h13) (h14 := h14) (h15 := h15) (h16 := h16) (h17 := h17) (now := now) (kept := kept) (isKept := isKept) (found := found) (order := order) (doubts := doubts) (doubtMany := doubtMany) (weights := weights) (worn := worn) (pairs := pairs) (isTwice := isTwice) (doer := doer) (doneTo := doneTo) (doers := doers) (tape := tape) (taped := taped) (begins := u_8.2.1) (ends := u_8.2.2.1) (sort := u_8.2.2.2.1) (value := u_8.2.2.2.2.1) (isWrong := u_8.2.2.2.2.2) (items := items) (itemMany := itemMany) (bowThen := bowThen) (doubtThen := doubtThen) (deedThen := (deedThen + (1 : Int32))) (sayingThen := sayingThen) (widths := widths) (sizes := sizes) (numbers := numbers) (moved := moved) e_13) (cwV 6 hts gX8_readDeed_X8_item rfl rfl rfl hd_X8_item ⟨Nat.le_of_ble_eq_true rfl, Nat.le_of_ble_eq_true rfl⟩) hK hP hD hS hA hE (q0 := 0) (ci := 8) rfl rfl rfl rfl hl.1 rfl (Nat.le_of_ble_eq_true rfl) dX8_readDeed_104 ⟨Nat.zero_le _, Nat.zero_le _⟩ (fun H locs hP hD hS => ?_)
      obtain rfl := Option.some.inj h
      exact hRet hP hD hS dX8_readDeed_107
    have h := e_8
    clear e_8
    refine lv_if_ne (tgt := 95) hx hb dX8_readDeed_67 (by decide) (fun c_8 => ?_) (fun c_8 => ?_)
    · have h := ifn c_8 h
      obtain rfl := Option.some.inj h
      exact J_8 hP hD hS (lv_sub hl [4, 5, 3, 2, 1, 0] rfl)
    · have h := ifp c_8 h
      refine lv_aload_n hx hb dX8_readDeed_70 rfl (lv_at hl 4 rfl) ?_
      refine va_ldcwS hx hb hown (hE.2.2.2.1 ("MaskBowsModel", 326, "coins", 16) (by decide +kernel)) dX8_readDeed_71 ?_
      obtain ⟨u_9, e_9, h⟩ := bd_some h
      refine cm_Vi (As := [.ref (ev (1 + 2 * 16))]) (rest := []) ⟨hx, hb, hml, hown, hts⟩ (c_X8_isWord (ca := ca) (ev := ev) (h0 := h0) (h1 := h1) (h2 := h2) (h3 := h3) (h4 := h4) (h5 := h5) (h6 := h6) (h7 := h7) (h8 := h8) (h9 := h9) (h10 := h10) (h11 := h11) (h12 := h12) (h13 := h13) (h14 := h14) (h15 := h15) (h16 := h16) (h17 := h17) (now := now) (kept := kept) (isKept := isKept) (found := found) (order := order) (doubts := doubts) (doubtMany := doubtMany) (weights := weights) (worn := worn) (pairs := pairs) (isTwice := isTwice) (doer := doer) (doneTo := doneTo) (doers := doers) (tape := tape) (taped := taped) (begins := u_7.2.1) (ends := u_7.2.2.1) (sort := u_7.2.2.2.1) (value := u_7.2.2.2.2.1) (isWrong := u_7.2.2.2.2.2) (items := items) (itemMany := itemMany) (bowThen := bowThen) (doubtThen := doubtThen) (deedThen := (deedThen + (1 : Int32))) (sayingThen := sayingThen) (widths := widths) (sizes := sizes) (numbers := numbers) (moved := moved) (by decide) e_9) (cwV 1 hts gX8_readDeed_X8_isWord rfl rfl rfl hd_X8_isWord ⟨Nat.le_of_ble_eq_true rfl, Nat.le_of_ble_eq_true rfl⟩) hK hP hD hS hA hE (q0 := 0) (ci := 8) rfl rfl rfl rfl hl.1 rfl (Nat.le_of_ble_eq_true rfl) dX8_readDeed_74 ⟨Nat.zero_le _, Nat.zero_le _⟩ (fun H locs hP hD hS => ?_)
      refine lv_if_eq (tgt := 95) hx hb dX8_readDeed_77 (by decide) (fun c_10 => ?_) (fun c_10 => ?_)
      · have h := ifp c_10 h
        obtain rfl := Option.some.inj h
        exact J_8 hP hD hS (lv_sub hl [4, 5, 3, 2, 1, 0] rfl)
      · have h := ifn c_10 h
        refine lv_aload_n hx hb dX8_readDeed_80 rfl (lv_at hl 4 rfl) ?_
        refine lv_iconst (v := (1 : Int32)) hx hb dX8_readDeed_81 (by decide) ?_
        obtain ⟨u_11, e_11, h⟩ := bd_some h
        refine cm_Vv (As := [.int (1 : Int32)]) (rest := []) ⟨hx, hb, hml, hown, hts⟩ (c_X8_must (ca := ca) (ev := ev) (h0 := h0) (h1 := h1) (h2 := h2) (h3 := h3) (h4 := h4) (h5 := h5) (h6 := h6) (h7 := h7) (h8 := h8) (h9 := h9) (h10 := h10) (h11 := h11) (h12 := h12) (h13 := h13) (h14 := h14) (h15 := h15) (h16 := h16) (h17 := h17) (now := now) (kept := kept) (isKept := isKept) (found := found) (order := order) (doubts := doubts) (doubtMany := doubtMany) (weights := weights) (worn := worn) (pairs := pairs) (isTwice := isTwice) (doer := doer) (doneTo := doneTo) (doers := doers) (tape := tape) (taped := taped) (begins := u_7.2.1) (ends := u_7.2.2.1) (sort := u_7.2.2.2.1) (value := u_7.2.2.2.2.1) (isWrong := u_7.2.2.2.2.2) (items := items) (itemMany := itemMany) (bowThen := bowThen) (doubtThen := doubtThen) (deedThen := (deedThen + (1 : Int32))) (sayingThen := sayingThen) (widths := widths) (sizes := sizes) (numbers := numbers) (moved := moved) e_11) (cwV 1 hts gX8_readDeed_X8_must rfl rfl rfl hd_X8_must ⟨Nat.le_of_ble_eq_true rfl, Nat.le_of_ble_eq_true rfl⟩) hK hP hD hS hA hE (q0 := 0) (ci := 8) rfl rfl rfl rfl hl.1 rfl (Nat.le_of_ble_eq_true rfl) dX8_readDeed_82 ⟨Nat.zero_le _, Nat.zero_le _⟩ (fun H locs hP hD hS => ?_)
        refine lv_aload_n hx hb dX8_readDeed_85 rfl (lv_at hl 4 rfl) ?_
        refine lv_iconst (v := (0 : Int32)) hx hb dX8_readDeed_86 (by decide) ?_
        refine lv_sipush (v := (999 : Int32)) hx hb dX8_readDeed_87 (by decide) ?_
        obtain ⟨u_12, e_12, h⟩ := bd_some h
        refine cm_Vi (As := [.int (0 : Int32), .int (999 : Int32)]) (rest := []) ⟨hx, hb, hml, hown, hts⟩ (c_X8_number (ca := ca) (ev := ev) (h0 := h0) (h1 := h1) (h2 := h2) (h3 := h3) (h4 := h4) (h5 := h5) (h6 := h6) (h7 := h7) (h8 := h8) (h9 := h9) (h10 := h10) (h11 := h11) (h12 := h12) (h13 := h13) (h14 := h14) (h15 := h15) (h16 := h16) (h17 := h17) (now := now) (kept := kept) (isKept := isKept) (found := found) (order := order) (doubts := doubts) (doubtMany := doubtMany) (weights := weights) (worn := worn) (pairs := pairs) (isTwice := isTwice) (doer := doer) (doneTo := doneTo) (doers := doers) (tape := tape) (taped := taped) (begins := u_11.1) (ends := u_11.2.1) (sort := u_11.2.2.1) (value := u_11.2.2.2.1) (isWrong := u_11.2.2.2.2) (items := items) (itemMany := itemMany) (bowThen := bowThen) (doubtThen := doubtThen) (deedThen := (deedThen + (1 : Int32))) (sayingThen := sayingThen) (widths := widths) (sizes := sizes) (numbers := numbers) (moved := moved) e_12) (cwV 2 hts gX8_readDeed_X8_number rfl rfl rfl hd_X8_number ⟨Nat.le_of_ble_eq_true rfl, Nat.le_of_ble_eq_true rfl⟩) hK hP hD hS hA hE (q0 := 0) (ci := 8) rfl rfl rfl rfl hl.1 rfl (Nat.le_of_ble_eq_true rfl) dX8_readDeed_90 ⟨Nat.zero_le _, Nat.zero_le _⟩ (fun H locs hP hD hS => ?_)
        refine lv_istore (lv' := [(5, .int u_12.1), (4, .int u_7.1), (3, .int u_4.1), (2, .int u_3.1), (0, .ref h0), (1, .int a1)]) hx hb dX8_readDeed_93 hl (by decide) rfl (fun ls hl => ?_)
        obtain rfl := Option.some.inj h
        exact J_8 hP hD hS (lv_sub hl [4, 5, 3, 2, 1, 0] rfl)
  have h := e_1
  clear e_1
  refine lv_icmp_ge (tgt := 14) hx hb dX8_readDeed_7 (by decide) (fun c_1 => ?_) (fun c_1 => ?_)
  · have h := ifp c_1 h
    refine lv_iconst (v := (0 : Int32)) hx hb dX8_readDeed_14 (by decide) ?_
    obtain rfl := Option.some.inj h
    exact J_1 hP hD hS (lv_sub hl [0, 1] rfl) zb_0
  · have h := ifn c_1 h
    refine lv_iconst (v := (1 : Int32)) hx hb dX8_readDeed_10 (by decide) ?_
    refine lv_goto (tgt := 15) hx hb dX8_readDeed_11 (by decide) ?_
    obtain rfl := Option.some.inj h
    exact J_1 hP hD hS (lv_sub hl [0, 1] rfl) zb_1
abbrev rm_X8_readSaying : Room := { frames := 5, cells := 0, slots := 0, locals := 108 }
theorem hd_X8_readSaying : yX8_readSaying.cls = RX8 ∧ yX8_readSaying.cls ≠ "java/lang/invoke/MethodHandle" ∧ yX8_readSaying.cls ≠ "java/lang/invoke/VarHandle" ∧ (parseMethodDescriptor yX8_readSaying.desc).map (fun d => d.parameters.length) = some 0 := by decide +kernel
set_option maxHeartbeats 4000000 in
set_option maxRecDepth 100000 in
theorem c_X8_readSaying {l : Launch} {G : va_G} {ca : Nat → ClassId} {ev : Nat → Nat} {h0 h1 h2 h3 h4 h5 h6 h7 h8 h9 h10 h11 h12 h13 h14 h15 h16 h17 : Nat} {now : (Nat → Int32)} {kept : (Nat → Int32)} {isKept : Int32} {found : (Nat → Int32)} {order : (Nat → Int32)} {doubts : (Nat → Int32)} {doubtMany : Int32} {weights : (Nat → Int64)} {worn : (Nat → Int32)} {pairs : Int64} {isTwice : Int32} {doer : (Nat → Int32)} {doneTo : (Nat → Int32)} {doers : (Nat → Int64)} {tape : (Nat → Int32)} {taped : Int32} {begins : Int32} {ends : Int32} {sort : Int32} {value : Int32} {isWrong : Int32} {items : (Nat → Int32)} {itemMany : Int32} {bowThen : Int32} {doubtThen : Int32} {deedThen : Int32} {sayingThen : Int32} {widths : (Nat → Int32)} {sizes : (Nat → Int32)} {numbers : (Nat → Int64)} {moved : (Nat → Int64)}  {N : Nat} {res : Int32 × Int32 × Int32 × Int32 × Int32 × (Nat → Int32) × Int32 × Int32} (h : f_X8_readSaying N now tape taped begins ends sort value isWrong items itemMany sayingThen = some res) : CtV l yX8_readSaying wsX8_readSaying rm_X8_readSaying G ca ev [.ref h0] (wM ca ev h0 h1 h2 h3 h4 h5 h6 h7 h8 h9 h10 h11 h12 h13 h14 h15 h16 h17 now kept isKept found order doubts doubtMany weights worn pairs isTwice doer doneTo doers tape taped begins ends sort value isWrong items itemMany bowThen doubtThen deedThen sayingThen widths sizes numbers moved) (wM ca ev h0 h1 h2 h3 h4 h5 h6 h7 h8 h9 h10 h11 h12 h13 h14 h15 h16 h17 now kept isKept found order doubts doubtMany weights worn pairs isTwice doer doneTo doers tape taped res.1 res.2.1 res.2.2.1 res.2.2.2.1 res.2.2.2.2.1 res.2.2.2.2.2.1 res.2.2.2.2.2.2.1 bowThen doubtThen deedThen res.2.2.2.2.2.2.2 widths sizes numbers moved) := by
  unfold f_X8_readSaying at h
  refine en_v (by decide) rfl (Nat.le_of_ble_eq_true rfl) ?_
  intro p e s m args below meth c A Q H locs ls hx hb hml hown hts hA hP hK hD hE hS hl hRet
  have hown : s.vm.findClass RX8 = some m.cls := hown
  have hl : lv_has ls 4 [(0, .ref h0)] := hl
  have hin_X8 : ∀ w ∈ u_ws RX8 TX8 32, w ∈ wsX8_readSaying := fun w h9 => List.mem_cons_of_mem _ (List.mem_append_right _ h9)
  have fk_328 := hts (.fieldLink RX8 328 "MaskBowsModel" "sayingThen" "I") (by decide +kernel)
  refine lv_aload_n hx hb dX8_readSaying_0 rfl (lv_at hl 0 rfl) ?_
  refine lv_aload_n hx hb dX8_readSaying_1 rfl (lv_at hl 0 rfl) ?_
  refine va_get (D := G) (ci := 8) (v := .int sayingThen) (C := RX8) (T := TX8) (N := 32) hx hb hts hin_X8 hown hK hP 0 rfl rfl 27 (by decide) fk_328 (fun _ h9 => h9) rfl dX8_readSaying_2 ?_
  refine lv_bipush (v := (10 : Int32)) hx hb dX8_readSaying_5 (by decide) ?_
  obtain ⟨u_1, e_1, h⟩ := bd_some h
  have J_1 : ∀ {H : Heap} {locs : List Loc} {ls : Array Slot}, va_P G vwCl (wM ca ev h0 h1 h2 h3 h4 h5 h6 h7 h8 h9 h10 h11 h12 h13 h14 h15 h16 h17 now kept isKept found order doubts doubtMany weights worn pairs isTwice doer doneTo doers tape taped begins ends sort value isWrong items itemMany bowThen doubtThen deedThen sayingThen widths sizes numbers moved) H → va_D A (wM ca ev h0 h1 h2 h3 h4 h5 h6 h7 h8 h9 h10 h11 h12 h13 h14 h15 h16 h17 now kept isKept found order doubts doubtMany weights worn pairs isTwice doer doneTo doers tape taped begins ends sort value isWrong items itemMany bowThen doubtThen deedThen sayingThen widths sizes numbers moved) → va_S A s.heap H locs → lv_has ls 4 [(0, .ref h0)] → (u_1 = 0 ∨ u_1 = 1) → W p l e rm_X8_readSaying s m args below meth c H locs 0 0 Q (F0 m 15 ls [.int u_1, .ref h0]) := by
    intro H locs ls hP hD hS hl zj_1_0
    obtain ⟨u_2, e_2, h⟩ := bd_some h
    refine cm_Vv (As := [.int u_1]) (rest := []) ⟨hx, hb, hml, hown, hts⟩ (c_X8_must (ca := ca) (ev := ev) (h0 := h0) (h1 := h1) (h2 := h2) (h3 := h3) (h4 := h4) (h5 := h5) (h6 := h6) (h7 := h7) (h8 := h8) (h9 := h9) (h10 := h10) (h11 := h11) (h12 := h12) (h13 := h13) (h14 := h14) (h15 := h15) (h16 := h16) (h17 := h17) (now := now) (kept := kept) (isKept := isKept) (found := found) (order := order) (doubts := doubts) (doubtMany := doubtMany) (weights := weights) (worn := worn) (pairs := pairs) (isTwice := isTwice) (doer := doer) (doneTo := doneTo) (doers := doers) (tape := tape) (taped := taped) (begins := begins) (ends := ends) (sort := sort) (value := value) (isWrong := isWrong) (items := items) (itemMany := itemMany) (bowThen := bowThen) (doubtThen := doubtThen) (deedThen := deedThen) (sayingThen := sayingThen) (widths := widths) (sizes := sizes) (numbers := numbers) (moved := moved) e_2) (cwV 1 hts gX8_readSaying_X8_must rfl rfl rfl hd_X8_must ⟨Nat.le_of_ble_eq_true rfl, Nat.le_of_ble_eq_true rfl⟩) hK hP hD hS hA hE (q0 := 0) (ci := 8) rfl rfl rfl rfl hl.1 rfl (Nat.le_of_ble_eq_true rfl) dX8_readSaying_15 ⟨Nat.zero_le _, Nat.zero_le _⟩ (fun H locs hP hD hS => ?_)
    refine lv_aload_n hx hb dX8_readSaying_18 rfl (lv_at hl 0 rfl) ?_
    refine lv_dup hx hb dX8_readSaying_19 rfl ?_
    refine va_get (D := G) (ci := 8) (v := .int sayingThen) (C := RX8) (T := TX8) (N := 32) hx hb hts hin_X8 hown hK hP 0 rfl rfl 27 (by decide) fk_328 (fun _ h9 => h9) rfl dX8_readSaying_20 ?_
    refine lv_iconst (v := (1 : Int32)) hx hb dX8_readSaying_23 (by decide) ?_
    refine lv_iadd hx hb dX8_readSaying_24 ?_
    refine va_put (D := G) (ci := 8) (v := .int (sayingThen + (1 : Int32))) (ty := .int) (C := RX8) (T := TX8) (N := 32) hx hb hts hin_X8 tyX8 tyX8_ok nmX8 hown hK hP hD hS 0 rfl rfl 27 (by decide) fk_328 (fun _ h9 => h9) rfl (tyX8_ok 27 (by decide)) rfl rfl (Nat.le_of_ble_eq_true rfl) dX8_readSaying_25 (fun H locs hP hD hS => ?_)
    have hP : va_P G vwCl (wM ca ev h0 h1 h2 h3 h4 h5 h6 h7 h8 h9 h10 h11 h12 h13 h14 h15 h16 h17 now kept isKept found order doubts doubtMany weights worn pairs isTwice doer doneTo doers tape taped u_2.1 u_2.2.1 u_2.2.2.1 u_2.2.2.2.1 u_2.2.2.2.2 items itemMany bowThen doubtThen deedThen (sayingThen + (1 : Int32)) widths sizes numbers moved) H := hP
    have hD : va_D A (wM ca ev h0 h1 h2 h3 h4 h5 h6 h7 h8 h9 h10 h11 h12 h13 h14 h15 h16 h17 now kept isKept found order doubts doubtMany weights worn pairs isTwice doer doneTo doers tape taped u_2.1 u_2.2.1 u_2.2.2.1 u_2.2.2.2.1 u_2.2.2.2.2 items itemMany bowThen doubtThen deedThen (sayingThen + (1 : Int32)) widths sizes numbers moved) := hD
    refine lv_aload_n hx hb dX8_readSaying_28 rfl (lv_at hl 0 rfl) ?_
    refine lv_iconst (v := (0 : Int32)) hx hb dX8_readSaying_29 (by decide) ?_
    refine lv_bipush (v := (99 : Int32)) hx hb dX8_readSaying_30 (by decide) ?_
    obtain ⟨u_3, e_3, h⟩ := bd_some h
    refine cm_Vi (As := [.int (0 : Int32), .int (99 : Int32)]) (rest := []) ⟨hx, hb, hml, hown, hts⟩ (c_X8_number (ca := ca) (ev := ev) (h0 := h0) (h1 := h1) (h2 := h2) (h3 := h3) (h4 := h4) (h5 := h5) (h6 := h6) (h7 := h7) (h8 := h8) (h9 := h9) (h10 := h10) (h11 := h11) (h12 := h12) (h13 := h13) (h14 := h14) (h15 := h15) (h16 := h16) (h17 := h17) (now := now) (kept := kept) (isKept := isKept) (found := found) (order := order) (doubts := doubts) (doubtMany := doubtMany) (weights := weights) (worn := worn) (pairs := pairs) (isTwice := isTwice) (doer := doer) (doneTo := doneTo) (doers := doers) (tape := tape) (taped := taped) (begins := u_2.1) (ends := u_2.2.1) (sort := u_2.2.2.1) (value := u_2.2.2.2.1) (isWrong := u_2.2.2.2.2) (items := items) (itemMany := itemMany) (bowThen := bowThen) (doubtThen := doubtThen) (deedThen := deedThen) (sayingThen := (sayingThen + (1 : Int32))) (widths := widths) (sizes := sizes) (numbers := numbers) (moved := moved) e_3) (cwV 2 hts gX8_readSaying_X8_number rfl rfl rfl hd_X8_number ⟨Nat.le_of_ble_eq_true rfl, Nat.le_of_ble_eq_true rfl⟩) hK hP hD hS hA hE (q0 := 0) (ci := 8) rfl rfl rfl rfl hl.1 rfl (Nat.le_of_ble_eq_true rfl) dX8_readSaying_32 ⟨Nat.zero_le _, Nat.zero_le _⟩ (fun H locs hP hD hS => ?_)
    refine lv_istore_n (lv' := [(1, .int u_3.1), (0, .ref h0)]) hx hb dX8_readSaying_35 rfl hl (by decide) rfl (fun ls hl => ?_)
    refine lv_aload_n hx hb dX8_readSaying_36 rfl (lv_at hl 1 rfl) ?_
    obtain ⟨u_4, e_4, h⟩ := bd_some h
    refine cm_Vi (As := []) (rest := []) ⟨hx, hb, hml, hown, hts⟩ (c_X8_mask (ca := ca) (ev := ev) (h0 := h0) (h1 := h1) (h2 := h2) (h3 := h3) (h4 := h4) (h5 := h5) (h6 := h6) (h7 := h7) (h8 := h8) (h9 := h9) (h10 := h10) (h11 := h11) (h12 := h12) (h13 := h13) (h14 := h14) (h15 := h15) (h16 := h16) (h17 := h17) (now := now) (kept := kept) (isKept := isKept) (found := found) (order := order) (doubts := doubts) (doubtMany := doubtMany) (weights := weights) (worn := worn) (pairs := pairs) (isTwice := isTwice) (doer := doer) (doneTo := doneTo) (doers := doers) (tape := tape) (taped := taped) (begins := u_3.2.1) (ends := u_3.2.2.1) (sort := u_3.2.2.2.1) (value := u_3.2.2.2.2.1) (isWrong := u_3.2.2.2.2.2) (items := items) (itemMany := itemMany) (bowThen := bowThen) (doubtThen := doubtThen) (deedThen := deedThen) (sayingThen := (sayingThen + (1 : Int32))) (widths := widths) (sizes := sizes) (numbers := numbers) (moved := moved) e_4) (cwV 0 hts gX8_readSaying_X8_mask rfl rfl rfl hd_X8_mask ⟨Nat.le_of_ble_eq_true rfl, Nat.le_of_ble_eq_true rfl⟩) hK hP hD hS hA hE (q0 := 0) (ci := 8) rfl rfl rfl rfl hl.1 rfl (Nat.le_of_ble_eq_true rfl) dX8_readSaying_37 ⟨Nat.zero_le _, Nat.zero_le _⟩ (fun H locs hP hD hS => ?_)
    refine lv_istore_n (lv' := [(2, .int u_4.1), (1, .int u_3.1), (0, .ref h0)]) hx hb dX8_readSaying_40 rfl hl (by decide) rfl (fun ls hl => ?_)
    refine lv_aload_n hx hb dX8_readSaying_41 rfl (lv_at hl 2 rfl) ?_
    refine va_ldcwS hx hb hown (hE.2.2.2.1 ("MaskBowsModel", 331, "is", 4) (by decide +kernel)) dX8_readSaying_42 ?_
    obtain ⟨u_5, e_5, h⟩ := bd_some h
    refine cm_Vi (As := [.ref (ev (1 + 2 * 4))]) (rest := []) ⟨hx, hb, hml, hown, hts⟩ (c_X8_isWord (ca := ca) (ev := ev) (h0 := h0) (h1 := h1) (h2 := h2) (h3 := h3) (h4 := h4) (h5 := h5) (h6 := h6) (h7 := h7) (h8 := h8) (h9 := h9) (h10 := h10) (h11 := h11) (h12 := h12) (h13 := h13) (h14 := h14) (h15 := h15) (h16 := h16) (h17 := h17) (now := now) (kept := kept) (isKept := isKept) (found := found) (order := order) (doubts := doubts) (doubtMany := doubtMany) (weights := weights) (worn := worn) (pairs := pairs) (isTwice := isTwice) (doer := doer) (doneTo := doneTo) (doers := doers) (tape := tape) (taped := taped) (begins := u_4.2.1) (ends := u_4.2.2.1) (sort := u_4.2.2.2.1) (value := u_4.2.2.2.2.1) (isWrong := u_4.2.2.2.2.2) (items := items) (itemMany := itemMany) (bowThen := bowThen) (doubtThen := doubtThen) (deedThen := deedThen) (sayingThen := (sayingThen + (1 : Int32))) (widths := widths) (sizes := sizes) (numbers := numbers) (moved := moved) (by decide) e_5) (cwV 1 hts gX8_readSaying_X8_isWord rfl rfl rfl hd_X8_isWord ⟨Nat.le_of_ble_eq_true rfl, Nat.le_of_ble_eq_true rfl⟩) hK hP hD hS hA hE (q0 := 0) (ci := 8) rfl rfl rfl rfl hl.1 rfl (Nat.le_of_ble_eq_true rfl) dX8_readSaying_45 ⟨Nat.zero_le _, Nat.zero_le _⟩ (fun H locs hP hD hS => ?_)
    obtain ⟨u_6, e_6, h⟩ := bd_some h
    have J_6 : ∀ {H : Heap} {locs : List Loc} {ls : Array Slot}, va_P G vwCl (wM ca ev h0 h1 h2 h3 h4 h5 h6 h7 h8 h9 h10 h11 h12 h13 h14 h15 h16 h17 now kept isKept found order doubts doubtMany weights worn pairs isTwice doer doneTo doers tape taped u_4.2.1 u_4.2.2.1 u_4.2.2.2.1 u_4.2.2.2.2.1 u_4.2.2.2.2.2 items itemMany bowThen doubtThen deedThen (sayingThen + (1 : Int32)) widths sizes numbers moved) H → va_D A (wM ca ev h0 h1 h2 h3 h4 h5 h6 h7 h8 h9 h10 h11 h12 h13 h14 h15 h16 h17 now kept isKept found order doubts doubtMany weights worn pairs isTwice doer doneTo doers tape taped u_4.2.1 u_4.2.2.1 u_4.2.2.2.1 u_4.2.2.2.2.1 u_4.2.2.2.2.2 items itemMany bowThen doubtThen deedThen (sayingThen + (1 : Int32)) widths sizes numbers moved) → va_S A s.heap H locs → lv_has ls 4 [(0, .ref h0), (1, .int u_3.1), (2, .int u_4.1)] → (u_6 = 0 ∨ u_6 = 1) → W p l e rm_X8_readSaying s m args below meth c H locs 0 0 Q (F0 m 56 ls [.int u_6]) := by
      intro H locs ls hP hD hS hl zj_6_0
      refine lv_istore_n (lv' := [(3, .int u_6), (0, .ref h0), (1, .int u_3.1), (2, .int u_4.1)]) hx hb dX8_readSaying_56 rfl hl (by decide) rfl (fun ls hl => ?_)
      refine lv_aload_n hx hb dX8_readSaying_57 rfl (lv_at hl 1 rfl) ?_
      refine lv_aload_n hx hb dX8_readSaying_58 rfl (lv_at hl 1 rfl) ?_
      refine va_ldcwS hx hb hown (hE.2.2.2.1 ("MaskBowsModel", 331, "is", 4) (by decide +kernel)) dX8_readSaying_59 ?_
      obtain ⟨u_7, e_7, h⟩ := bd_some h
      refine cm_Vi (As := [.ref (ev (1 + 2 * 4))]) (rest := [.ref h0]) ⟨hx, hb, hml, hown, hts⟩ (c_X8_isWord (ca := ca) (ev := ev) (h0 := h0) (h1 := h1) (h2 := h2) (h3 := h3) (h4 := h4) (h5 := h5) (h6 := h6) (h7 := h7) (h8 := h8) (h9 := h9) (h10 := h10) (h11 := h11) (h12 := h12) (h13 := h13) (h14 := h14) (h15 := h15) (h16 := h16) (h17 := h17) (now := now) (kept := kept) (isKept := isKept) (found := found) (order := order) (doubts := doubts) (doubtMany := doubtMany) (weights := weights) (worn := worn) (pairs := pairs) (isTwice := isTwice) (doer := doer) (doneTo := doneTo) (doers := doers) (tape := tape) (taped := taped) (begins := u_4.2.1) (ends := u_4.2.2.1) (sort := u_4.2.2.2.1) (value := u_4.2.2.2.2.1) (isWrong := u_4.2.2.2.2.2) (items := items) (itemMany := itemMany) (bowThen := bowThen) (doubtThen := doubtThen) (deedThen := deedThen) (sayingThen := (sayingThen + (1 : Int32))) (widths := widths) (sizes := sizes) (numbers := numbers) (moved := moved) (by decide) e_7) (cwV 1 hts gX8_readSaying_X8_isWord rfl rfl rfl hd_X8_isWord ⟨Nat.le_of_ble_eq_true rfl, Nat.le_of_ble_eq_true rfl⟩) hK hP hD hS hA hE (q0 := 0) (ci := 8) rfl rfl rfl rfl hl.1 rfl (Nat.le_of_ble_eq_true rfl) dX8_readSaying_62 ⟨Nat.zero_le _, Nat.zero_le _⟩ (fun H locs hP hD hS => ?_)
      obtain ⟨u_8, e_8, h⟩ := bd_some h
      have J_8 : ∀ {H : Heap} {locs : List Loc} {ls : Array Slot}, va_P G vwCl (wM ca ev h0 h1 h2 h3 h4 h5 h6 h7 h8 h9 h10 h11 h12 h13 h14 h15 h16 h17 now kept isKept found order doubts doubtMany weights worn pairs isTwice doer doneTo doers tape taped u_4.2.1 u_4.2.2.1 u_4.2.2.2.1 u_4.2.2.2.2.1 u_4.2.2.2.2.2 items itemMany bowThen doubtThen deedThen (sayingThen + (1 : Int32)) widths sizes numbers moved) H → va_D A (wM ca ev h0 h1 h2 h3 h4 h5 h6 h7 h8 h9 h10 h11 h12 h13 h14 h15 h16 h17 now kept isKept found order doubts doubtMany weights worn pairs isTwice doer doneTo doers tape taped u_4.2.1 u_4.2.2.1 u_4.2.2.2.1 u_4.2.2.2.2.1 u_4.2.2.2.2.2 items itemMany bowThen doubtThen deedThen (sayingThen + (1 : Int32)) widths sizes numbers moved) → va_S A s.heap H locs → lv_has ls 4 [(0, .ref h0), (1, .int u_3.1), (2, .int u_4.1), (3, .int u_6)] → (u_8 = 0 ∨ u_8 = 1) → W p l e rm_X8_readSaying s m args below meth c H locs 0 0 Q (F0 m 83 ls [.int u_8, .ref h0]) := by
        intro H locs ls hP hD hS hl zj_8_0
        obtain ⟨u_11, e_11, h⟩ := bd_some h
        refine cm_Vv (As := [.int u_8]) (rest := []) ⟨hx, hb, hml, hown, hts⟩ (c_X8_must (ca := ca) (ev := ev) (h0 := h0) (h1 := h1) (h2 := h2) (h3 := h3) (h4 := h4) (h5 := h5) (h6 := h6) (h7 := h7) (h8 := h8) (h9 := h9) (h10 := h10) (h11 := h11) (h12 := h12) (h13 := h13) (h14 := h14) (h15 := h15) (h16 := h16) (h17 := h17) (now := now) (kept := kept) (isKept := isKept) (found := found) (order := order) (doubts := doubts) (doubtMany := doubtMany) (weights := weights) (worn := worn) (pairs := pairs) (isTwice := isTwice) (doer := doer) (doneTo := doneTo) (doers := doers) (tape := tape) (taped := taped) (begins := u_4.2.1) (ends := u_4.2.2.1) (sort := u_4.2.2.2.1) (value := u_4.2.2.2.2.1) (isWrong := u_4.2.2.2.2.2) (items := items) (itemMany := itemMany) (bowThen := bowThen) (doubtThen := doubtThen) (deedThen := deedThen) (sayingThen := (sayingThen + (1 : Int32))) (widths := widths) (sizes := sizes) (numbers := numbers) (moved := moved) e_11) (cwV 1 hts gX8_readSaying_X8_must rfl rfl rfl hd_X8_must ⟨Nat.le_of_ble_eq_true rfl, Nat.le_of_ble_eq_true rfl⟩) hK hP hD hS hA hE (q0 := 0) (ci := 8) rfl rfl rfl rfl hl.1 rfl (Nat.le_of_ble_eq_true rfl) dX8_readSaying_83 ⟨Nat.zero_le _, Nat.zero_le _⟩ (fun H locs hP hD hS => ?_)
        refine lv_aload_n hx hb dX8_readSaying_86 rfl (lv_at hl 0 rfl) ?_
        refine lv_bipush (v := (11 : Int32)) hx hb dX8_readSaying_87 (by decide) ?_
        refine lv_iload_n hx hb dX8_readSaying_89 rfl (lv_at hl 1 rfl) ?_
        refine lv_iload_n hx hb dX8_readSaying_90 rfl (lv_at hl 2 rfl) ?_
        refine lv_aload_n hx hb dX8_readSaying_91 rfl (lv_at hl 0 rfl) ?_
        obtain ⟨u_12, e_12, h⟩ := bd_some h
        refine cm_Vi (As := []) (rest := [.int u_4.1, .int u_3.1, .int (11 : Int32), .ref h0]) ⟨hx, hb, hml, hown, hts⟩ (c_X8_mask (ca := ca) (ev := ev) (h0 := h0) (h1 := h1) (h2 := h2) (h3 := h3) (h4 := h4) (h5 := h5) (h6 := h6) (h7 := h7) (h8 := h8) (h9 := h9) (h10 := h10) (h11 := h11) (h12 := h12) (h13 := h13) (h14 := h14) (h15 := h15) (h16 := h16) (h17 := h17) (now := now) (kept := kept) (isKept := isKept) (found := found) (order := order) (doubts := doubts) (doubtMany := doubtMany) (weights := weights) (worn := worn) (pairs := pairs) (isTwice := isTwice) (doer := doer) (doneTo := doneTo) (doers := doers) (tape := tape) (taped := taped) (begins := u_11.1) (ends := u_11.2.1) (sort := u_11.2.2.1) (value := u_11.2.2.2.1) (isWrong := u_11.2.2.2.2) (items := items) (itemMany := itemMany) (bowThen := bowThen) (doubtThen := doubtThen) (deedThen := deedThen) (sayingThen := (sayingThen + (1 : Int32))) (widths := widths) (sizes := sizes) (numbers := numbers) (moved := moved) e_12) (cwV 0 hts gX8_readSaying_X8_mask rfl rfl rfl hd_X8_mask ⟨Nat.le_of_ble_eq_true rfl, Nat.le_of_ble_eq_true rfl⟩) hK hP hD hS hA hE (q0 := 0) (ci := 8) rfl rfl rfl rfl hl.1 rfl (Nat.le_of_ble_eq_true rfl) dX8_readSaying_92 ⟨Nat.zero_le _, Nat.zero_le _⟩ (fun H locs hP hD hS => ?_)
        refine lv_iload_n hx hb dX8_readSaying_95 rfl (lv_at hl 3 rfl) ?_
        refine lv_iconst (v := (0 : Int32)) hx hb dX8_readSaying_96 (by decide) ?_
        obtain ⟨u_13, e_13, h⟩ := bd_some h
        refine cm_Vv (As := [.int (11 : Int32), .int u_3.1, .int u_4.1, .int u_12.1, .int u_6, .int (0 : Int32)]) (rest := []) ⟨hx, hb, hml, hown, hts⟩ (c_X8_item (ca := ca) (ev := ev) (h0 := h0) (h1 := h1) (h2 := h2) (h3 := h3) (h4 := h4) (h5 := h5) (h6 := h6) (h7 := h7) (h8 := h8) (h9 := h9) (h10 := h10) (h11 := h11) (h12 := h12) (h13 := h13) (h14 := h14) (h15 := h15) (h16 := h16) (h17 := h17) (now := now) (kept := kept) (isKept := isKept) (found := found) (order := order) (doubts := doubts) (doubtMany := doubtMany) (weights := weights) (worn := worn) (pairs := pairs) (isTwice := isTwice) (doer := doer) (doneTo := doneTo) (doers := doers) (tape := tape) (taped := taped) (begins := u_12.2.1) (ends := u_12.2.2.1) (sort := u_12.2.2.2.1) (value := u_12.2.2.2.2.1) (isWrong := u_12.2.2.2.2.2) (items := items) (itemMany := itemMany) (bowThen := bowThen) (doubtThen := doubtThen) (deedThen := deedThen) (sayingThen := (sayingThen + (1 : Int32))) (widths := widths) (sizes := sizes) (numbers := numbers) (moved := moved) e_13) (cwV 6 hts gX8_readSaying_X8_item rfl rfl rfl hd_X8_item ⟨Nat.le_of_ble_eq_true rfl, Nat.le_of_ble_eq_true rfl⟩) hK hP hD hS hA hE (q0 := 0) (ci := 8) rfl rfl rfl rfl hl.1 rfl (Nat.le_of_ble_eq_true rfl) dX8_readSaying_97 ⟨Nat.zero_le _, Nat.zero_le _⟩ (fun H locs hP hD hS => ?_)
        obtain rfl := Option.some.inj h
        exact hRet hP hD hS dX8_readSaying_100
      have h := e_8
      clear e_8
      refine lv_if_ne (tgt := 78) hx hb dX8_readSaying_65 (by decide) (fun c_8 => ?_) (fun c_8 => ?_)
      · have h := ifn c_8 h
        refine lv_iconst (v := (1 : Int32)) hx hb dX8_readSaying_78 (by decide) ?_
        refine lv_goto (tgt := 83) hx hb dX8_readSaying_79 (by decide) ?_
        obtain rfl := Option.some.inj h
        exact J_8 hP hD hS (lv_sub hl [1, 2, 3, 0] rfl) zb_1
      · have h := ifp c_8 h
        refine lv_aload_n hx hb dX8_readSaying_68 rfl (lv_at hl 1 rfl) ?_
        refine va_ldcwS hx hb hown (hE.2.2.2.1 ("MaskBowsModel", 333, "not", 3) (by decide +kernel)) dX8_readSaying_69 ?_
        obtain ⟨u_9, e_9, h⟩ := bd_some h
        refine cm_Vi (As := [.ref (ev (1 + 2 * 3))]) (rest := [.ref h0]) ⟨hx, hb, hml, hown, hts⟩ (c_X8_isWord (ca := ca) (ev := ev) (h0 := h0) (h1 := h1) (h2 := h2) (h3 := h3) (h4 := h4) (h5 := h5) (h6 := h6) (h7 := h7) (h8 := h8) (h9 := h9) (h10 := h10) (h11 := h11) (h12 := h12) (h13 := h13) (h14 := h14) (h15 := h15) (h16 := h16) (h17 := h17) (now := now) (kept := kept) (isKept := isKept) (found := found) (order := order) (doubts := doubts) (doubtMany := doubtMany) (weights := weights) (worn := worn) (pairs := pairs) (isTwice := isTwice) (doer := doer) (doneTo := doneTo) (doers := doers) (tape := tape) (taped := taped) (begins := u_4.2.1) (ends := u_4.2.2.1) (sort := u_4.2.2.2.1) (value := u_4.2.2.2.2.1) (isWrong := u_4.2.2.2.2.2) (items := items) (itemMany := itemMany) (bowThen := bowThen) (doubtThen := doubtThen) (deedThen := deedThen) (sayingThen := (sayingThen + (1 : Int32))) (widths := widths) (sizes := sizes) (numbers := numbers) (moved := moved) (by decide) e_9) (cwV 1 hts gX8_readSaying_X8_isWord rfl rfl rfl hd_X8_isWord ⟨Nat.le_of_ble_eq_true rfl, Nat.le_of_ble_eq_true rfl⟩) hK hP hD hS hA hE (q0 := 0) (ci := 8) rfl rfl rfl rfl hl.1 rfl (Nat.le_of_ble_eq_true rfl) dX8_readSaying_72 ⟨Nat.zero_le _, Nat.zero_le _⟩ (fun H locs hP hD hS => ?_)
        refine lv_if_eq (tgt := 82) hx hb dX8_readSaying_75 (by decide) (fun c_10 => ?_) (fun c_10 => ?_)
        · have h := ifp c_10 h
          refine lv_iconst (v := (0 : Int32)) hx hb dX8_readSaying_82 (by decide) ?_
          obtain rfl := Option.some.inj h
          exact J_8 hP hD hS (lv_sub hl [1, 2, 3, 0] rfl) zb_0
        · have h := ifn c_10 h
          refine lv_iconst (v := (1 : Int32)) hx hb dX8_readSaying_78 (by decide) ?_
          refine lv_goto (tgt := 83) hx hb dX8_readSaying_79 (by decide) ?_
          obtain rfl := Option.some.inj h
          exact J_8 hP hD hS (lv_sub hl [1, 2, 3, 0] rfl) zb_1
    have h := e_6
    clear e_6
    refine lv_if_eq (tgt := 55) hx hb dX8_readSaying_48 (by decide) (fun c_6 => ?_) (fun c_6 => ?_)
    · have h := ifp c_6 h
      refine lv_iconst (v := (0 : Int32)) hx hb dX8_readSaying_55 (by decide) ?_
      obtain rfl := Option.some.inj h
      exact J_6 hP hD hS (lv_sub hl [2, 1, 0] rfl) zb_0
    · have h := ifn c_6 h
      refine lv_iconst (v := (1 : Int32)) hx hb dX8_readSaying_51 (by decide) ?_
      refine lv_goto (tgt := 56) hx hb dX8_readSaying_52 (by decide) ?_
      obtain rfl := Option.some.inj h
      exact J_6 hP hD hS (lv_sub hl [2, 1, 0] rfl) zb_1
  have h := e_1
  clear e_1
  refine lv_icmp_ge (tgt := 14) hx hb dX8_readSaying_7 (by decide) (fun c_1 => ?_) (fun c_1 => ?_)
  · have h := ifp c_1 h
    refine lv_iconst (v := (0 : Int32)) hx hb dX8_readSaying_14 (by decide) ?_
    obtain rfl := Option.some.inj h
    exact J_1 hP hD hS (lv_sub hl [0] rfl) zb_0
  · have h := ifn c_1 h
    refine lv_iconst (v := (1 : Int32)) hx hb dX8_readSaying_10 (by decide) ?_
    refine lv_goto (tgt := 15) hx hb dX8_readSaying_11 (by decide) ?_
    obtain rfl := Option.some.inj h
    exact J_1 hP hD hS (lv_sub hl [0] rfl) zb_1
abbrev rm_X8_readItem : Room := { frames := 6, cells := 0, slots := 0, locals := 133 }
theorem hd_X8_readItem : yX8_readItem.cls = RX8 ∧ yX8_readItem.cls ≠ "java/lang/invoke/MethodHandle" ∧ yX8_readItem.cls ≠ "java/lang/invoke/VarHandle" ∧ (parseMethodDescriptor yX8_readItem.desc).map (fun d => d.parameters.length) = some 0 := by decide +kernel
set_option maxHeartbeats 4000000 in
set_option maxRecDepth 100000 in
theorem c_X8_readItem {l : Launch} {G : va_G} {ca : Nat → ClassId} {ev : Nat → Nat} {h0 h1 h2 h3 h4 h5 h6 h7 h8 h9 h10 h11 h12 h13 h14 h15 h16 h17 : Nat} {now : (Nat → Int32)} {kept : (Nat → Int32)} {isKept : Int32} {found : (Nat → Int32)} {order : (Nat → Int32)} {doubts : (Nat → Int32)} {doubtMany : Int32} {weights : (Nat → Int64)} {worn : (Nat → Int32)} {pairs : Int64} {isTwice : Int32} {doer : (Nat → Int32)} {doneTo : (Nat → Int32)} {doers : (Nat → Int64)} {tape : (Nat → Int32)} {taped : Int32} {begins : Int32} {ends : Int32} {sort : Int32} {value : Int32} {isWrong : Int32} {items : (Nat → Int32)} {itemMany : Int32} {bowThen : Int32} {doubtThen : Int32} {deedThen : Int32} {sayingThen : Int32} {widths : (Nat → Int32)} {sizes : (Nat → Int32)} {numbers : (Nat → Int64)} {moved : (Nat → Int64)}  {N : Nat} {res : Int32 × Int32 × Int32 × Int32 × Int32 × (Nat → Int32) × Int32 × Int32 × Int32 × Int32 × Int32} (h : f_X8_readItem N now tape taped begins ends sort value isWrong items itemMany bowThen doubtThen deedThen sayingThen = some res) : CtV l yX8_readItem wsX8_readItem rm_X8_readItem G ca ev [.ref h0] (wM ca ev h0 h1 h2 h3 h4 h5 h6 h7 h8 h9 h10 h11 h12 h13 h14 h15 h16 h17 now kept isKept found order doubts doubtMany weights worn pairs isTwice doer doneTo doers tape taped begins ends sort value isWrong items itemMany bowThen doubtThen deedThen sayingThen widths sizes numbers moved) (wM ca ev h0 h1 h2 h3 h4 h5 h6 h7 h8 h9 h10 h11 h12 h13 h14 h15 h16 h17 now kept isKept found order doubts doubtMany weights worn pairs isTwice doer doneTo doers tape taped res.1 res.2.1 res.2.2.1 res.2.2.2.1 res.2.2.2.2.1 res.2.2.2.2.2.1 res.2.2.2.2.2.2.1 res.2.2.2.2.2.2.2.1 res.2.2.2.2.2.2.2.2.1 res.2.2.2.2.2.2.2.2.2.1 res.2.2.2.2.2.2.2.2.2.2 widths sizes numbers moved) := by
  unfold f_X8_readItem at h
  refine en_v (by decide) rfl (Nat.le_of_ble_eq_true rfl) ?_
  intro p e s m args below meth c A Q H locs ls hx hb hml hown hts hA hP hK hD hE hS hl hRet
  have hown : s.vm.findClass RX8 = some m.cls := hown
  have hl : lv_has ls 4 [(0, .ref h0)] := hl
  refine lv_aload_n hx hb dX8_readItem_0 rfl (lv_at hl 0 rfl) ?_
  obtain ⟨u_1, e_1, h⟩ := bd_some h
  refine cm_Vi (As := []) (rest := []) ⟨hx, hb, hml, hown, hts⟩ (c_X8_kindTold (ca := ca) (ev := ev) (h0 := h0) (h1 := h1) (h2 := h2) (h3 := h3) (h4 := h4) (h5 := h5) (h6 := h6) (h7 := h7) (h8 := h8) (h9 := h9) (h10 := h10) (h11 := h11) (h12 := h12) (h13 := h13) (h14 := h14) (h15 := h15) (h16 := h16) (h17 := h17) (now := now) (kept := kept) (isKept := isKept) (found := found) (order := order) (doubts := doubts) (doubtMany := doubtMany) (weights := weights) (worn := worn) (pairs := pairs) (isTwice := isTwice) (doer := doer) (doneTo := doneTo) (doers := doers) (tape := tape) (taped := taped) (begins := begins) (ends := ends) (sort := sort) (value := value) (isWrong := isWrong) (items := items) (itemMany := itemMany) (bowThen := bowThen) (doubtThen := doubtThen) (deedThen := deedThen) (sayingThen := sayingThen) (widths := widths) (sizes := sizes) (numbers := numbers) (moved := moved) e_1) (cwV 0 hts gX8_readItem_X8_kindTold rfl rfl rfl hd_X8_kindTold ⟨Nat.le_of_ble_eq_true rfl, Nat.le_of_ble_eq_true rfl⟩) hK hP hD hS hA hE (q0 := 0) (ci := 8) rfl rfl rfl rfl hl.1 rfl (Nat.le_of_ble_eq_true rfl) dX8_readItem_1 ⟨Nat.zero_le _, Nat.zero_le _⟩ (fun H locs hP hD hS => ?_)
  refine lv_istore_n (lv' := [(1, .int u_1), (0, .ref h0)]) hx hb dX8_readItem_4 rfl hl (by decide) rfl (fun ls hl => ?_)
  refine lv_iload_n hx hb dX8_readItem_5 rfl (lv_at hl 0 rfl) ?_
  refine lv_if_lt (tgt := 17) hx hb dX8_readItem_6 (by decide) (fun c_2 => ?_) (fun c_2 => ?_)
  · have h := ifp c_2 h
    refine lv_aload_n hx hb dX8_readItem_17 rfl (lv_at hl 1 rfl) ?_
    refine va_ldcwS hx hb hown (hE.2.2.2.1 ("MaskBowsModel", 285, "bow", 0) (by decide +kernel)) dX8_readItem_18 ?_
    obtain ⟨u_3, e_3, h⟩ := bd_some h
    refine cm_Vi (As := [.ref (ev (1 + 2 * 0))]) (rest := []) ⟨hx, hb, hml, hown, hts⟩ (c_X8_isWord (ca := ca) (ev := ev) (h0 := h0) (h1 := h1) (h2 := h2) (h3 := h3) (h4 := h4) (h5 := h5) (h6 := h6) (h7 := h7) (h8 := h8) (h9 := h9) (h10 := h10) (h11 := h11) (h12 := h12) (h13 := h13) (h14 := h14) (h15 := h15) (h16 := h16) (h17 := h17) (now := now) (kept := kept) (isKept := isKept) (found := found) (order := order) (doubts := doubts) (doubtMany := doubtMany) (weights := weights) (worn := worn) (pairs := pairs) (isTwice := isTwice) (doer := doer) (doneTo := doneTo) (doers := doers) (tape := tape) (taped := taped) (begins := begins) (ends := ends) (sort := sort) (value := value) (isWrong := isWrong) (items := items) (itemMany := itemMany) (bowThen := bowThen) (doubtThen := doubtThen) (deedThen := deedThen) (sayingThen := sayingThen) (widths := widths) (sizes := sizes) (numbers := numbers) (moved := moved) (by decide) e_3) (cwV 1 hts gX8_readItem_X8_isWord rfl rfl rfl hd_X8_isWord ⟨Nat.le_of_ble_eq_true rfl, Nat.le_of_ble_eq_true rfl⟩) hK hP hD hS hA hE (q0 := 0) (ci := 8) rfl rfl rfl rfl hl.1 rfl (Nat.le_of_ble_eq_true rfl) dX8_readItem_21 ⟨Nat.zero_le _, Nat.zero_le _⟩ (fun H locs hP hD hS => ?_)
    refine lv_if_eq (tgt := 34) hx hb dX8_readItem_24 (by decide) (fun c_4 => ?_) (fun c_4 => ?_)
    · have h := ifp c_4 h
      refine lv_aload_n hx hb dX8_readItem_34 rfl (lv_at hl 1 rfl) ?_
      refine va_ldcwS hx hb hown (hE.2.2.2.1 ("MaskBowsModel", 290, "says", 2) (by decide +kernel)) dX8_readItem_35 ?_
      obtain ⟨u_5, e_5, h⟩ := bd_some h
      refine cm_Vi (As := [.ref (ev (1 + 2 * 2))]) (rest := []) ⟨hx, hb, hml, hown, hts⟩ (c_X8_isWord (ca := ca) (ev := ev) (h0 := h0) (h1 := h1) (h2 := h2) (h3 := h3) (h4 := h4) (h5 := h5) (h6 := h6) (h7 := h7) (h8 := h8) (h9 := h9) (h10 := h10) (h11 := h11) (h12 := h12) (h13 := h13) (h14 := h14) (h15 := h15) (h16 := h16) (h17 := h17) (now := now) (kept := kept) (isKept := isKept) (found := found) (order := order) (doubts := doubts) (doubtMany := doubtMany) (weights := weights) (worn := worn) (pairs := pairs) (isTwice := isTwice) (doer := doer) (doneTo := doneTo) (doers := doers) (tape := tape) (taped := taped) (begins := begins) (ends := ends) (sort := sort) (value := value) (isWrong := isWrong) (items := items) (itemMany := itemMany) (bowThen := bowThen) (doubtThen := doubtThen) (deedThen := deedThen) (sayingThen := sayingThen) (widths := widths) (sizes := sizes) (numbers := numbers) (moved := moved) (by decide) e_5) (cwV 1 hts gX8_readItem_X8_isWord rfl rfl rfl hd_X8_isWord ⟨Nat.le_of_ble_eq_true rfl, Nat.le_of_ble_eq_true rfl⟩) hK hP hD hS hA hE (q0 := 0) (ci := 8) rfl rfl rfl rfl hl.1 rfl (Nat.le_of_ble_eq_true rfl) dX8_readItem_38 ⟨Nat.zero_le _, Nat.zero_le _⟩ (fun H locs hP hD hS => ?_)
      refine lv_if_eq (tgt := 51) hx hb dX8_readItem_41 (by decide) (fun c_6 => ?_) (fun c_6 => ?_)
      · have h := ifp c_6 h
        refine lv_aload_n hx hb dX8_readItem_51 rfl (lv_at hl 1 rfl) ?_
        refine va_ldcwS hx hb hown (hE.2.2.2.1 ("MaskBowsModel", 295, "believe", 8) (by decide +kernel)) dX8_readItem_52 ?_
        obtain ⟨u_7, e_7, h⟩ := bd_some h
        refine cm_Vi (As := [.ref (ev (1 + 2 * 8))]) (rest := []) ⟨hx, hb, hml, hown, hts⟩ (c_X8_isWord (ca := ca) (ev := ev) (h0 := h0) (h1 := h1) (h2 := h2) (h3 := h3) (h4 := h4) (h5 := h5) (h6 := h6) (h7 := h7) (h8 := h8) (h9 := h9) (h10 := h10) (h11 := h11) (h12 := h12) (h13 := h13) (h14 := h14) (h15 := h15) (h16 := h16) (h17 := h17) (now := now) (kept := kept) (isKept := isKept) (found := found) (order := order) (doubts := doubts) (doubtMany := doubtMany) (weights := weights) (worn := worn) (pairs := pairs) (isTwice := isTwice) (doer := doer) (doneTo := doneTo) (doers := doers) (tape := tape) (taped := taped) (begins := begins) (ends := ends) (sort := sort) (value := value) (isWrong := isWrong) (items := items) (itemMany := itemMany) (bowThen := bowThen) (doubtThen := doubtThen) (deedThen := deedThen) (sayingThen := sayingThen) (widths := widths) (sizes := sizes) (numbers := numbers) (moved := moved) (by decide) e_7) (cwV 1 hts gX8_readItem_X8_isWord rfl rfl rfl hd_X8_isWord ⟨Nat.le_of_ble_eq_true rfl, Nat.le_of_ble_eq_true rfl⟩) hK hP hD hS hA hE (q0 := 0) (ci := 8) rfl rfl rfl rfl hl.1 rfl (Nat.le_of_ble_eq_true rfl) dX8_readItem_55 ⟨Nat.zero_le _, Nat.zero_le _⟩ (fun H locs hP hD hS => ?_)
        obtain ⟨u_8, e_8, h⟩ := bd_some h
        have J_8 : ∀ {H : Heap} {locs : List Loc} {ls : Array Slot}, va_P G vwCl (wM ca ev h0 h1 h2 h3 h4 h5 h6 h7 h8 h9 h10 h11 h12 h13 h14 h15 h16 h17 now kept isKept found order doubts doubtMany weights worn pairs isTwice doer doneTo doers tape taped begins ends sort value isWrong items itemMany bowThen doubtThen deedThen sayingThen widths sizes numbers moved) H → va_D A (wM ca ev h0 h1 h2 h3 h4 h5 h6 h7 h8 h9 h10 h11 h12 h13 h14 h15 h16 h17 now kept isKept found order doubts doubtMany weights worn pairs isTwice doer doneTo doers tape taped begins ends sort value isWrong items itemMany bowThen doubtThen deedThen sayingThen widths sizes numbers moved) → va_S A s.heap H locs → lv_has ls 4 [(0, .ref h0)] → (u_8 = 0 ∨ u_8 = 1) → W p l e rm_X8_readItem s m args below meth c H locs 0 0 Q (F0 m 66 ls [.int u_8]) := by
          intro H locs ls hP hD hS hl zj_8_0
          refine lv_istore_n (lv' := [(2, .int u_8), (0, .ref h0)]) hx hb dX8_readItem_66 rfl hl (by decide) rfl (fun ls hl => ?_)
          refine lv_aload_n hx hb dX8_readItem_67 rfl (lv_at hl 1 rfl) ?_
          refine lv_aload_n hx hb dX8_readItem_68 rfl (lv_at hl 1 rfl) ?_
          refine va_ldcwS hx hb hown (hE.2.2.2.1 ("MaskBowsModel", 297, "rule", 5) (by decide +kernel)) dX8_readItem_69 ?_
          obtain ⟨u_9, e_9, h⟩ := bd_some h
          refine cm_Vi (As := [.ref (ev (1 + 2 * 5))]) (rest := [.ref h0]) ⟨hx, hb, hml, hown, hts⟩ (c_X8_isWord (ca := ca) (ev := ev) (h0 := h0) (h1 := h1) (h2 := h2) (h3 := h3) (h4 := h4) (h5 := h5) (h6 := h6) (h7 := h7) (h8 := h8) (h9 := h9) (h10 := h10) (h11 := h11) (h12 := h12) (h13 := h13) (h14 := h14) (h15 := h15) (h16 := h16) (h17 := h17) (now := now) (kept := kept) (isKept := isKept) (found := found) (order := order) (doubts := doubts) (doubtMany := doubtMany) (weights := weights) (worn := worn) (pairs := pairs) (isTwice := isTwice) (doer := doer) (doneTo := doneTo) (doers := doers) (tape := tape) (taped := taped) (begins := begins) (ends := ends) (sort := sort) (value := value) (isWrong := isWrong) (items := items) (itemMany := itemMany) (bowThen := bowThen) (doubtThen := doubtThen) (deedThen := deedThen) (sayingThen := sayingThen) (widths := widths) (sizes := sizes) (numbers := numbers) (moved := moved) (by decide) e_9) (cwV 1 hts gX8_readItem_X8_isWord rfl rfl rfl hd_X8_isWord ⟨Nat.le_of_ble_eq_true rfl, Nat.le_of_ble_eq_true rfl⟩) hK hP hD hS hA hE (q0 := 0) (ci := 8) rfl rfl rfl rfl hl.1 rfl (Nat.le_of_ble_eq_true rfl) dX8_readItem_72 ⟨Nat.zero_le _, Nat.zero_le _⟩ (fun H locs hP hD hS => ?_)
          obtain ⟨u_10, e_10, h⟩ := bd_some h
          have J_10 : ∀ {H : Heap} {locs : List Loc} {ls : Array Slot}, va_P G vwCl (wM ca ev h0 h1 h2 h3 h4 h5 h6 h7 h8 h9 h10 h11 h12 h13 h14 h15 h16 h17 now kept isKept found order doubts doubtMany weights worn pairs isTwice doer doneTo doers tape taped begins ends sort value isWrong items itemMany bowThen doubtThen deedThen sayingThen widths sizes numbers moved) H → va_D A (wM ca ev h0 h1 h2 h3 h4 h5 h6 h7 h8 h9 h10 h11 h12 h13 h14 h15 h16 h17 now kept isKept found order doubts doubtMany weights worn pairs isTwice doer doneTo doers tape taped begins ends sort value isWrong items itemMany bowThen doubtThen deedThen sayingThen widths sizes numbers moved) → va_S A s.heap H locs → lv_has ls 4 [(0, .ref h0), (2, .int u_8)] → (u_10 = 0 ∨ u_10 = 1) → W p l e rm_X8_readItem s m args below meth c H locs 0 0 Q (F0 m 93 ls [.int u_10, .ref h0]) := by
            intro H locs ls hP hD hS hl zj_10_0
            obtain ⟨u_13, e_13, h⟩ := bd_some h
            refine cm_Vv (As := [.int u_10]) (rest := []) ⟨hx, hb, hml, hown, hts⟩ (c_X8_must (ca := ca) (ev := ev) (h0 := h0) (h1 := h1) (h2 := h2) (h3 := h3) (h4 := h4) (h5 := h5) (h6 := h6) (h7 := h7) (h8 := h8) (h9 := h9) (h10 := h10) (h11 := h11) (h12 := h12) (h13 := h13) (h14 := h14) (h15 := h15) (h16 := h16) (h17 := h17) (now := now) (kept := kept) (isKept := isKept) (found := found) (order := order) (doubts := doubts) (doubtMany := doubtMany) (weights := weights) (worn := worn) (pairs := pairs) (isTwice := isTwice) (doer := doer) (doneTo := doneTo) (doers := doers) (tape := tape) (taped := taped) (begins := begins) (ends := ends) (sort := sort) (value := value) (isWrong := isWrong) (items := items) (itemMany := itemMany) (bowThen := bowThen) (doubtThen := doubtThen) (deedThen := deedThen) (sayingThen := sayingThen) (widths := widths) (sizes := sizes) (numbers := numbers) (moved := moved) e_13) (cwV 1 hts gX8_readItem_X8_must rfl rfl rfl hd_X8_must ⟨Nat.le_of_ble_eq_true rfl, Nat.le_of_ble_eq_true rfl⟩) hK hP hD hS hA hE (q0 := 0) (ci := 8) rfl rfl rfl rfl hl.1 rfl (Nat.le_of_ble_eq_true rfl) dX8_readItem_93 ⟨Nat.zero_le _, Nat.zero_le _⟩ (fun H locs hP hD hS => ?_)
            refine lv_aload_n hx hb dX8_readItem_96 rfl (lv_at hl 0 rfl) ?_
            refine va_ldcwS hx hb hown (hE.2.2.2.1 ("MaskBowsModel", 299, "on", 7) (by decide +kernel)) dX8_readItem_97 ?_
            obtain ⟨u_14, e_14, h⟩ := bd_some h
            refine cm_Vi (As := [.ref (ev (1 + 2 * 7))]) (rest := []) ⟨hx, hb, hml, hown, hts⟩ (c_X8_isWord (ca := ca) (ev := ev) (h0 := h0) (h1 := h1) (h2 := h2) (h3 := h3) (h4 := h4) (h5 := h5) (h6 := h6) (h7 := h7) (h8 := h8) (h9 := h9) (h10 := h10) (h11 := h11) (h12 := h12) (h13 := h13) (h14 := h14) (h15 := h15) (h16 := h16) (h17 := h17) (now := now) (kept := kept) (isKept := isKept) (found := found) (order := order) (doubts := doubts) (doubtMany := doubtMany) (weights := weights) (worn := worn) (pairs := pairs) (isTwice := isTwice) (doer := doer) (doneTo := doneTo) (doers := doers) (tape := tape) (taped := taped) (begins := u_13.1) (ends := u_13.2.1) (sort := u_13.2.2.1) (value := u_13.2.2.2.1) (isWrong := u_13.2.2.2.2) (items := items) (itemMany := itemMany) (bowThen := bowThen) (doubtThen := doubtThen) (deedThen := deedThen) (sayingThen := sayingThen) (widths := widths) (sizes := sizes) (numbers := numbers) (moved := moved) (by decide) e_14) (cwV 1 hts gX8_readItem_X8_isWord rfl rfl rfl hd_X8_isWord ⟨Nat.le_of_ble_eq_true rfl, Nat.le_of_ble_eq_true rfl⟩) hK hP hD hS hA hE (q0 := 0) (ci := 8) rfl rfl rfl rfl hl.1 rfl (Nat.le_of_ble_eq_true rfl) dX8_readItem_100 ⟨Nat.zero_le _, Nat.zero_le _⟩ (fun H locs hP hD hS => ?_)
            obtain ⟨u_15, e_15, h⟩ := bd_some h
            have J_15 : ∀ {H : Heap} {locs : List Loc} {ls : Array Slot}, va_P G vwCl (wM ca ev h0 h1 h2 h3 h4 h5 h6 h7 h8 h9 h10 h11 h12 h13 h14 h15 h16 h17 now kept isKept found order doubts doubtMany weights worn pairs isTwice doer doneTo doers tape taped u_13.1 u_13.2.1 u_13.2.2.1 u_13.2.2.2.1 u_13.2.2.2.2 items itemMany bowThen doubtThen deedThen sayingThen widths sizes numbers moved) H → va_D A (wM ca ev h0 h1 h2 h3 h4 h5 h6 h7 h8 h9 h10 h11 h12 h13 h14 h15 h16 h17 now kept isKept found order doubts doubtMany weights worn pairs isTwice doer doneTo doers tape taped u_13.1 u_13.2.1 u_13.2.2.1 u_13.2.2.2.1 u_13.2.2.2.2 items itemMany bowThen doubtThen deedThen sayingThen widths sizes numbers moved) → va_S A s.heap H locs → lv_has ls 4 [(0, .ref h0), (2, .int u_8)] → (u_15 = 0 ∨ u_15 = 1) → W p l e rm_X8_readItem s m args below meth c H locs 0 0 Q (F0 m 111 ls [.int u_15]) := by
              intro H locs ls hP hD hS hl zj_15_0
              refine lv_istore_n (lv' := [(3, .int u_15), (0, .ref h0), (2, .int u_8)]) hx hb dX8_readItem_111 rfl hl (by decide) rfl (fun ls hl => ?_)
              refine lv_aload_n hx hb dX8_readItem_112 rfl (lv_at hl 1 rfl) ?_
              refine lv_aload_n hx hb dX8_readItem_113 rfl (lv_at hl 1 rfl) ?_
              refine va_ldcwS hx hb hown (hE.2.2.2.1 ("MaskBowsModel", 299, "on", 7) (by decide +kernel)) dX8_readItem_114 ?_
              obtain ⟨u_16, e_16, h⟩ := bd_some h
              refine cm_Vi (As := [.ref (ev (1 + 2 * 7))]) (rest := [.ref h0]) ⟨hx, hb, hml, hown, hts⟩ (c_X8_isWord (ca := ca) (ev := ev) (h0 := h0) (h1 := h1) (h2 := h2) (h3 := h3) (h4 := h4) (h5 := h5) (h6 := h6) (h7 := h7) (h8 := h8) (h9 := h9) (h10 := h10) (h11 := h11) (h12 := h12) (h13 := h13) (h14 := h14) (h15 := h15) (h16 := h16) (h17 := h17) (now := now) (kept := kept) (isKept := isKept) (found := found) (order := order) (doubts := doubts) (doubtMany := doubtMany) (weights := weights) (worn := worn) (pairs := pairs) (isTwice := isTwice) (doer := doer) (doneTo := doneTo) (doers := doers) (tape := tape) (taped := taped) (begins := u_13.1) (ends := u_13.2.1) (sort := u_13.2.2.1) (value := u_13.2.2.2.1) (isWrong := u_13.2.2.2.2) (items := items) (itemMany := itemMany) (bowThen := bowThen) (doubtThen := doubtThen) (deedThen := deedThen) (sayingThen := sayingThen) (widths := widths) (sizes := sizes) (numbers := numbers) (moved := moved) (by decide) e_16) (cwV 1 hts gX8_readItem_X8_isWord rfl rfl rfl hd_X8_isWord ⟨Nat.le_of_ble_eq_true rfl, Nat.le_of_ble_eq_true rfl⟩) hK hP hD hS hA hE (q0 := 0) (ci := 8) rfl rfl rfl rfl hl.1 rfl (Nat.le_of_ble_eq_true rfl) dX8_readItem_117 ⟨Nat.zero_le _, Nat.zero_le _⟩ (fun H locs hP hD hS => ?_)
              obtain ⟨u_17, e_17, h⟩ := bd_some h
              have J_17 : ∀ {H : Heap} {locs : List Loc} {ls : Array Slot}, va_P G vwCl (wM ca ev h0 h1 h2 h3 h4 h5 h6 h7 h8 h9 h10 h11 h12 h13 h14 h15 h16 h17 now kept isKept found order doubts doubtMany weights worn pairs isTwice doer doneTo doers tape taped u_13.1 u_13.2.1 u_13.2.2.1 u_13.2.2.2.1 u_13.2.2.2.2 items itemMany bowThen doubtThen deedThen sayingThen widths sizes numbers moved) H → va_D A (wM ca ev h0 h1 h2 h3 h4 h5 h6 h7 h8 h9 h10 h11 h12 h13 h14 h15 h16 h17 now kept isKept found order doubts doubtMany weights worn pairs isTwice doer doneTo doers tape taped u_13.1 u_13.2.1 u_13.2.2.1 u_13.2.2.2.1 u_13.2.2.2.2 items itemMany bowThen doubtThen deedThen sayingThen widths sizes numbers moved) → va_S A s.heap H locs → lv_has ls 4 [(0, .ref h0), (2, .int u_8), (3, .int u_15)] → (u_17 = 0 ∨ u_17 = 1) → W p l e rm_X8_readItem s m args below meth c H locs 0 0 Q (F0 m 138 ls [.int u_17, .ref h0]) := by
                intro H locs ls hP hD hS hl zj_17_0
                obtain ⟨u_20, e_20, h⟩ := bd_some h
                refine cm_Vv (As := [.int u_17]) (rest := []) ⟨hx, hb, hml, hown, hts⟩ (c_X8_must (ca := ca) (ev := ev) (h0 := h0) (h1 := h1) (h2 := h2) (h3 := h3) (h4 := h4) (h5 := h5) (h6 := h6) (h7 := h7) (h8 := h8) (h9 := h9) (h10 := h10) (h11 := h11) (h12 := h12) (h13 := h13) (h14 := h14) (h15 := h15) (h16 := h16) (h17 := h17) (now := now) (kept := kept) (isKept := isKept) (found := found) (order := order) (doubts := doubts) (doubtMany := doubtMany) (weights := weights) (worn := worn) (pairs := pairs) (isTwice := isTwice) (doer := doer) (doneTo := doneTo) (doers := doers) (tape := tape) (taped := taped) (begins := u_13.1) (ends := u_13.2.1) (sort := u_13.2.2.1) (value := u_13.2.2.2.1) (isWrong := u_13.2.2.2.2) (items := items) (itemMany := itemMany) (bowThen := bowThen) (doubtThen := doubtThen) (deedThen := deedThen) (sayingThen := sayingThen) (widths := widths) (sizes := sizes) (numbers := numbers) (moved := moved) e_20) (cwV 1 hts gX8_readItem_X8_must rfl rfl rfl hd_X8_must ⟨Nat.le_of_ble_eq_true rfl, Nat.le_of_ble_eq_true rfl⟩) hK hP hD hS hA hE (q0 := 0) (ci := 8) rfl rfl rfl rfl hl.1 rfl (Nat.le_of_ble_eq_true rfl) dX8_readItem_138 ⟨Nat.zero_le _, Nat.zero_le _⟩ (fun H locs hP hD hS => ?_)
                refine lv_aload_n hx hb dX8_readItem_141 rfl (lv_at hl 0 rfl) ?_
                refine lv_bipush (v := (12 : Int32)) hx hb dX8_readItem_142 (by decide) ?_
                refine lv_iload_n hx hb dX8_readItem_144 rfl (lv_at hl 1 rfl) ?_
                refine lv_iload_n hx hb dX8_readItem_145 rfl (lv_at hl 2 rfl) ?_
                refine lv_iconst (v := (0 : Int32)) hx hb dX8_readItem_146 (by decide) ?_
                refine lv_iconst (v := (0 : Int32)) hx hb dX8_readItem_147 (by decide) ?_
                refine lv_iconst (v := (0 : Int32)) hx hb dX8_readItem_148 (by decide) ?_
                obtain ⟨u_21, e_21, h⟩ := bd_some h
                refine cm_Vv (As := [.int (12 : Int32), .int u_8, .int u_15, .int (0 : Int32), .int (0 : Int32), .int (0 : Int32)]) (rest := []) ⟨hx, hb, hml, hown, hts⟩ (c_X8_item (ca := ca) (ev := ev) (h0 := h0) (h1 := h1) (h2 := h2) (h3 := h3) (h4 := h4) (h5 := h5) (h6 := h6) (h7 := h7) (h8 := h8) (h9 := h9) (h10 := h10) (h11 := h11) (h12 := h12) (h13 := h13) (h14 := h14) (h15 := h15) (h16 := h16) (h17 := h17) (now := now) (kept := kept) (isKept := isKept) (found := found) (order := order) (doubts := doubts) (doubtMany := doubtMany) (weights := weights) (worn := worn) (pairs := pairs) (isTwice := isTwice) (doer := doer) (doneTo := doneTo) (doers := doers) (tape := tape) (taped := taped) (begins := u_20.1) (ends := u_20.2.1) (sort := u_20.2.2.1) (value := u_20.2.2.2.1) (isWrong := u_20.2.2.2.2) (items := items) (itemMany := itemMany) (bowThen := bowThen) (doubtThen := doubtThen) (deedThen := deedThen) (sayingThen := sayingThen) (widths := widths) (sizes := sizes) (numbers := numbers) (moved := moved) e_21) (cwV 6 hts gX8_readItem_X8_item rfl rfl rfl hd_X8_item ⟨Nat.le_of_ble_eq_true rfl, Nat.le_of_ble_eq_true rfl⟩) hK hP hD hS hA hE (q0 := 0) (ci := 8) rfl rfl rfl rfl hl.1 rfl (Nat.le_of_ble_eq_true rfl) dX8_readItem_149 ⟨Nat.zero_le _, Nat.zero_le _⟩ (fun H locs hP hD hS => ?_)
                obtain rfl := Option.some.inj h
                exact hRet hP hD hS dX8_readItem_152
              have h := e_17
              clear e_17
              refine lv_if_ne (tgt := 133) hx hb dX8_readItem_120 (by decide) (fun c_17 => ?_) (fun c_17 => ?_)
              · have h := ifn c_17 h
                refine lv_iconst (v := (1 : Int32)) hx hb dX8_readItem_133 (by decide) ?_
                refine lv_goto (tgt := 138) hx hb dX8_readItem_134 (by decide) ?_
                obtain rfl := Option.some.inj h
                exact J_17 hP hD hS (lv_sub hl [1, 2, 0] rfl) zb_1
              · have h := ifp c_17 h
                refine lv_aload_n hx hb dX8_readItem_123 rfl (lv_at hl 1 rfl) ?_
                refine va_ldcwS hx hb hown (hE.2.2.2.1 ("MaskBowsModel", 301, "off", 6) (by decide +kernel)) dX8_readItem_124 ?_
                obtain ⟨u_18, e_18, h⟩ := bd_some h
                refine cm_Vi (As := [.ref (ev (1 + 2 * 6))]) (rest := [.ref h0]) ⟨hx, hb, hml, hown, hts⟩ (c_X8_isWord (ca := ca) (ev := ev) (h0 := h0) (h1 := h1) (h2 := h2) (h3 := h3) (h4 := h4) (h5 := h5) (h6 := h6) (h7 := h7) (h8 := h8) (h9 := h9) (h10 := h10) (h11 := h11) (h12 := h12) (h13 := h13) (h14 := h14) (h15 := h15) (h16 := h16) (h17 := h17) (now := now) (kept := kept) (isKept := isKept) (found := found) (order := order) (doubts := doubts) (doubtMany := doubtMany) (weights := weights) (worn := worn) (pairs := pairs) (isTwice := isTwice) (doer := doer) (doneTo := doneTo) (doers := doers) (tape := tape) (taped := taped) (begins := u_13.1) (ends := u_13.2.1) (sort := u_13.2.2.1) (value := u_13.2.2.2.1) (isWrong := u_13.2.2.2.2) (items := items) (itemMany := itemMany) (bowThen := bowThen) (doubtThen := doubtThen) (deedThen := deedThen) (sayingThen := sayingThen) (widths := widths) (sizes := sizes) (numbers := numbers) (moved := moved) (by decide) e_18) (cwV 1 hts gX8_readItem_X8_isWord rfl rfl rfl hd_X8_isWord ⟨Nat.le_of_ble_eq_true rfl, Nat.le_of_ble_eq_true rfl⟩) hK hP hD hS hA hE (q0 := 0) (ci := 8) rfl rfl rfl rfl hl.1 rfl (Nat.le_of_ble_eq_true rfl) dX8_readItem_127 ⟨Nat.zero_le _, Nat.zero_le _⟩ (fun H locs hP hD hS => ?_)
                refine lv_if_eq (tgt := 137) hx hb dX8_readItem_130 (by decide) (fun c_19 => ?_) (fun c_19 => ?_)
                · have h := ifp c_19 h
                  refine lv_iconst (v := (0 : Int32)) hx hb dX8_readItem_137 (by decide) ?_
                  obtain rfl := Option.some.inj h
                  exact J_17 hP hD hS (lv_sub hl [1, 2, 0] rfl) zb_0
                · have h := ifn c_19 h
                  refine lv_iconst (v := (1 : Int32)) hx hb dX8_readItem_133 (by decide) ?_
                  refine lv_goto (tgt := 138) hx hb dX8_readItem_134 (by decide) ?_
                  obtain rfl := Option.some.inj h
                  exact J_17 hP hD hS (lv_sub hl [1, 2, 0] rfl) zb_1
            have h := e_15
            clear e_15
            refine lv_if_eq (tgt := 110) hx hb dX8_readItem_103 (by decide) (fun c_15 => ?_) (fun c_15 => ?_)
            · have h := ifp c_15 h
              refine lv_iconst (v := (0 : Int32)) hx hb dX8_readItem_110 (by decide) ?_
              obtain rfl := Option.some.inj h
              exact J_15 hP hD hS (lv_sub hl [0, 1] rfl) zb_0
            · have h := ifn c_15 h
              refine lv_iconst (v := (1 : Int32)) hx hb dX8_readItem_106 (by decide) ?_
              refine lv_goto (tgt := 111) hx hb dX8_readItem_107 (by decide) ?_
              obtain rfl := Option.some.inj h
              exact J_15 hP hD hS (lv_sub hl [0, 1] rfl) zb_1
          have h := e_10
          clear e_10
          refine lv_if_ne (tgt := 88) hx hb dX8_readItem_75 (by decide) (fun c_10 => ?_) (fun c_10 => ?_)
          · have h := ifn c_10 h
            refine lv_iconst (v := (1 : Int32)) hx hb dX8_readItem_88 (by decide) ?_
            refine lv_goto (tgt := 93) hx hb dX8_readItem_89 (by decide) ?_
            obtain rfl := Option.some.inj h
            exact J_10 hP hD hS (lv_sub hl [1, 0] rfl) zb_1
          · have h := ifp c_10 h
            refine lv_aload_n hx hb dX8_readItem_78 rfl (lv_at hl 1 rfl) ?_
            refine va_ldcwS hx hb hown (hE.2.2.2.1 ("MaskBowsModel", 295, "believe", 8) (by decide +kernel)) dX8_readItem_79 ?_
            obtain ⟨u_11, e_11, h⟩ := bd_some h
            refine cm_Vi (As := [.ref (ev (1 + 2 * 8))]) (rest := [.ref h0]) ⟨hx, hb, hml, hown, hts⟩ (c_X8_isWord (ca := ca) (ev := ev) (h0 := h0) (h1 := h1) (h2 := h2) (h3 := h3) (h4 := h4) (h5 := h5) (h6 := h6) (h7 := h7) (h8 := h8) (h9 := h9) (h10 := h10) (h11 := h11) (h12 := h12) (h13 := h13) (h14 := h14) (h15 := h15) (h16 := h16) (h17 := h17) (now := now) (kept := kept) (isKept := isKept) (found := found) (order := order) (doubts := doubts) (doubtMany := doubtMany) (weights := weights) (worn := worn) (pairs := pairs) (isTwice := isTwice) (doer := doer) (doneTo := doneTo) (doers := doers) (tape := tape) (taped := taped) (begins := begins) (ends := ends) (sort := sort) (value := value) (isWrong := isWrong) (items := items) (itemMany := itemMany) (bowThen := bowThen) (doubtThen := doubtThen) (deedThen := deedThen) (sayingThen := sayingThen) (widths := widths) (sizes := sizes) (numbers := numbers) (moved := moved) (by decide) e_11) (cwV 1 hts gX8_readItem_X8_isWord rfl rfl rfl hd_X8_isWord ⟨Nat.le_of_ble_eq_true rfl, Nat.le_of_ble_eq_true rfl⟩) hK hP hD hS hA hE (q0 := 0) (ci := 8) rfl rfl rfl rfl hl.1 rfl (Nat.le_of_ble_eq_true rfl) dX8_readItem_82 ⟨Nat.zero_le _, Nat.zero_le _⟩ (fun H locs hP hD hS => ?_)
            refine lv_if_eq (tgt := 92) hx hb dX8_readItem_85 (by decide) (fun c_12 => ?_) (fun c_12 => ?_)
            · have h := ifp c_12 h
              refine lv_iconst (v := (0 : Int32)) hx hb dX8_readItem_92 (by decide) ?_
              obtain rfl := Option.some.inj h
              exact J_10 hP hD hS (lv_sub hl [1, 0] rfl) zb_0
            · have h := ifn c_12 h
              refine lv_iconst (v := (1 : Int32)) hx hb dX8_readItem_88 (by decide) ?_
              refine lv_goto (tgt := 93) hx hb dX8_readItem_89 (by decide) ?_
              obtain rfl := Option.some.inj h
              exact J_10 hP hD hS (lv_sub hl [1, 0] rfl) zb_1
        have h := e_8
        clear e_8
        refine lv_if_eq (tgt := 65) hx hb dX8_readItem_58 (by decide) (fun c_8 => ?_) (fun c_8 => ?_)
        · have h := ifp c_8 h
          refine lv_iconst (v := (0 : Int32)) hx hb dX8_readItem_65 (by decide) ?_
          obtain rfl := Option.some.inj h
          exact J_8 hP hD hS (lv_sub hl [1] rfl) zb_0
        · have h := ifn c_8 h
          refine lv_iconst (v := (1 : Int32)) hx hb dX8_readItem_61 (by decide) ?_
          refine lv_goto (tgt := 66) hx hb dX8_readItem_62 (by decide) ?_
          obtain rfl := Option.some.inj h
          exact J_8 hP hD hS (lv_sub hl [1] rfl) zb_1
      · have h := ifn c_6 h
        refine lv_aload_n hx hb dX8_readItem_44 rfl (lv_at hl 1 rfl) ?_
        obtain ⟨u_22, e_22, h⟩ := bd_some h
        refine cm_Vv (As := []) (rest := []) ⟨hx, hb, hml, hown, hts⟩ (c_X8_readSaying (ca := ca) (ev := ev) (h0 := h0) (h1 := h1) (h2 := h2) (h3 := h3) (h4 := h4) (h5 := h5) (h6 := h6) (h7 := h7) (h8 := h8) (h9 := h9) (h10 := h10) (h11 := h11) (h12 := h12) (h13 := h13) (h14 := h14) (h15 := h15) (h16 := h16) (h17 := h17) (now := now) (kept := kept) (isKept := isKept) (found := found) (order := order) (doubts := doubts) (doubtMany := doubtMany) (weights := weights) (worn := worn) (pairs := pairs) (isTwice := isTwice) (doer := doer) (doneTo := doneTo) (doers := doers) (tape := tape) (taped := taped) (begins := begins) (ends := ends) (sort := sort) (value := value) (isWrong := isWrong) (items := items) (itemMany := itemMany) (bowThen := bowThen) (doubtThen := doubtThen) (deedThen := deedThen) (sayingThen := sayingThen) (widths := widths) (sizes := sizes) (numbers := numbers) (moved := moved) e_22) (cwV 0 hts gX8_readItem_X8_readSaying rfl rfl rfl hd_X8_readSaying ⟨Nat.le_of_ble_eq_true rfl, Nat.le_of_ble_eq_true rfl⟩) hK hP hD hS hA hE (q0 := 0) (ci := 8) rfl rfl rfl rfl hl.1 rfl (Nat.le_of_ble_eq_true rfl) dX8_readItem_45 ⟨Nat.zero_le _, Nat.zero_le _⟩ (fun H locs hP hD hS => ?_)
        refine lv_goto (tgt := 152) hx hb dX8_readItem_48 (by decide) ?_
        obtain rfl := Option.some.inj h
        exact hRet hP hD hS dX8_readItem_152
    · have h := ifn c_4 h
      refine lv_aload_n hx hb dX8_readItem_27 rfl (lv_at hl 1 rfl) ?_
      obtain ⟨u_23, e_23, h⟩ := bd_some h
      refine cm_Vv (As := []) (rest := []) ⟨hx, hb, hml, hown, hts⟩ (c_X8_readBow (ca := ca) (ev := ev) (h0 := h0) (h1 := h1) (h2 := h2) (h3 := h3) (h4 := h4) (h5 := h5) (h6 := h6) (h7 := h7) (h8 := h8) (h9 := h9) (h10 := h10) (h11 := h11) (h12 := h12) (h13 := h13) (h14 := h14) (h15 := h15) (h16 := h16) (h17 := h17) (now := now) (kept := kept) (isKept := isKept) (found := found) (order := order) (doubts := doubts) (doubtMany := doubtMany) (weights := weights) (worn := worn) (pairs := pairs) (isTwice := isTwice) (doer := doer) (doneTo := doneTo) (doers := doers) (tape := tape) (taped := taped) (begins := begins) (ends := ends) (sort := sort) (value := value) (isWrong := isWrong) (items := items) (itemMany := itemMany) (bowThen := bowThen) (doubtThen := doubtThen) (deedThen := deedThen) (sayingThen := sayingThen) (widths := widths) (sizes := sizes) (numbers := numbers) (moved := moved) e_23) (cwV 0 hts gX8_readItem_X8_readBow rfl rfl rfl hd_X8_readBow ⟨Nat.le_of_ble_eq_true rfl, Nat.le_of_ble_eq_true rfl⟩) hK hP hD hS hA hE (q0 := 0) (ci := 8) rfl rfl rfl rfl hl.1 rfl (Nat.le_of_ble_eq_true rfl) dX8_readItem_28 ⟨Nat.zero_le _, Nat.zero_le _⟩ (fun H locs hP hD hS => ?_)
      refine lv_goto (tgt := 152) hx hb dX8_readItem_31 (by decide) ?_
      obtain rfl := Option.some.inj h
      exact hRet hP hD hS dX8_readItem_152
  · have h := ifn c_2 h
    refine lv_aload_n hx hb dX8_readItem_9 rfl (lv_at hl 1 rfl) ?_
    refine lv_iload_n hx hb dX8_readItem_10 rfl (lv_at hl 0 rfl) ?_
    obtain ⟨u_24, e_24, h⟩ := bd_some h
    refine cm_Vv (As := [.int u_1]) (rest := []) ⟨hx, hb, hml, hown, hts⟩ (c_X8_readDeed (ca := ca) (ev := ev) (h0 := h0) (h1 := h1) (h2 := h2) (h3 := h3) (h4 := h4) (h5 := h5) (h6 := h6) (h7 := h7) (h8 := h8) (h9 := h9) (h10 := h10) (h11 := h11) (h12 := h12) (h13 := h13) (h14 := h14) (h15 := h15) (h16 := h16) (h17 := h17) (now := now) (kept := kept) (isKept := isKept) (found := found) (order := order) (doubts := doubts) (doubtMany := doubtMany) (weights := weights) (worn := worn) (pairs := pairs) (isTwice := isTwice) (doer := doer) (doneTo := doneTo) (doers := doers) (tape := tape) (taped := taped) (begins := begins) (ends := ends) (sort := sort) (value := value) (isWrong := isWrong) (items := items) (itemMany := itemMany) (bowThen := bowThen) (doubtThen := doubtThen) (deedThen := deedThen) (sayingThen := sayingThen) (widths := widths) (sizes := sizes) (numbers := numbers) (moved := moved) e_24) (cwV 1 hts gX8_readItem_X8_readDeed rfl rfl rfl hd_X8_readDeed ⟨Nat.le_of_ble_eq_true rfl, Nat.le_of_ble_eq_true rfl⟩) hK hP hD hS hA hE (q0 := 0) (ci := 8) rfl rfl rfl rfl hl.1 rfl (Nat.le_of_ble_eq_true rfl) dX8_readItem_11 ⟨Nat.zero_le _, Nat.zero_le _⟩ (fun H locs hP hD hS => ?_)
    refine lv_goto (tgt := 152) hx hb dX8_readItem_14 (by decide) ?_
    obtain rfl := Option.some.inj h
    exact hRet hP hD hS dX8_readItem_152
abbrev rm_X8_carnival : Room := { frames := 7, cells := 0, slots := 0, locals := 156 }
theorem hd_X8_carnival : yX8_carnival.cls = RX8 ∧ yX8_carnival.cls ≠ "java/lang/invoke/MethodHandle" ∧ yX8_carnival.cls ≠ "java/lang/invoke/VarHandle" ∧ (parseMethodDescriptor yX8_carnival.desc).map (fun d => d.parameters.length) = some 0 := by decide +kernel
set_option maxHeartbeats 4000000 in
set_option maxRecDepth 100000 in
theorem c_X8_carnival {l : Launch} {G : va_G} {ca : Nat → ClassId} {ev : Nat → Nat} {h0 h1 h2 h3 h4 h5 h6 h7 h8 h9 h10 h11 h12 h13 h14 h15 h16 h17 : Nat} {now : (Nat → Int32)} {kept : (Nat → Int32)} {isKept : Int32} {found : (Nat → Int32)} {order : (Nat → Int32)} {doubts : (Nat → Int32)} {doubtMany : Int32} {weights : (Nat → Int64)} {worn : (Nat → Int32)} {pairs : Int64} {isTwice : Int32} {doer : (Nat → Int32)} {doneTo : (Nat → Int32)} {doers : (Nat → Int64)} {tape : (Nat → Int32)} {taped : Int32} {begins : Int32} {ends : Int32} {sort : Int32} {value : Int32} {isWrong : Int32} {items : (Nat → Int32)} {itemMany : Int32} {bowThen : Int32} {doubtThen : Int32} {deedThen : Int32} {sayingThen : Int32} {widths : (Nat → Int32)} {sizes : (Nat → Int32)} {numbers : (Nat → Int64)} {moved : (Nat → Int64)}  {N : Nat} {res : Int32 × (Nat → Int32) × Int32 × Int32 × Int32 × Int32 × Int32 × Int32 × (Nat → Int32) × Int32 × Int32 × Int32 × Int32 × Int32} (h : f_X8_carnival N now tape taped begins ends sort value isWrong items itemMany bowThen doubtThen deedThen sayingThen = some res) : CtI l yX8_carnival wsX8_carnival rm_X8_carnival G ca ev [.ref h0] (wM ca ev h0 h1 h2 h3 h4 h5 h6 h7 h8 h9 h10 h11 h12 h13 h14 h15 h16 h17 now kept isKept found order doubts doubtMany weights worn pairs isTwice doer doneTo doers tape taped begins ends sort value isWrong items itemMany bowThen doubtThen deedThen sayingThen widths sizes numbers moved) (wM ca ev h0 h1 h2 h3 h4 h5 h6 h7 h8 h9 h10 h11 h12 h13 h14 h15 h16 h17 res.2.1 kept isKept found order doubts doubtMany weights worn pairs isTwice doer doneTo doers tape res.2.2.1 res.2.2.2.1 res.2.2.2.2.1 res.2.2.2.2.2.1 res.2.2.2.2.2.2.1 res.2.2.2.2.2.2.2.1 res.2.2.2.2.2.2.2.2.1 res.2.2.2.2.2.2.2.2.2.1 res.2.2.2.2.2.2.2.2.2.2.1 res.2.2.2.2.2.2.2.2.2.2.2.1 res.2.2.2.2.2.2.2.2.2.2.2.2.1 res.2.2.2.2.2.2.2.2.2.2.2.2.2 widths sizes numbers moved) res.1 := by
  unfold f_X8_carnival at h
  refine en_i (by decide) rfl (Nat.le_of_ble_eq_true rfl) ?_
  intro p e s m args below meth c A Q H locs ls hx hb hml hown hts hA hP hK hD hE hS hl hRet
  have hown : s.vm.findClass RX8 = some m.cls := hown
  have hl : lv_has ls 2 [(0, .ref h0)] := hl
  have hin_X8 : ∀ w ∈ u_ws RX8 TX8 32, w ∈ wsX8_carnival := fun w h9 => List.mem_cons_of_mem _ (List.mem_append_right _ h9)
  have fk_234 := hts (.fieldLink RX8 234 "MaskBowsModel" "taped" "I") (by decide +kernel)
  have fk_237 := hts (.fieldLink RX8 237 "MaskBowsModel" "ends" "I") (by decide +kernel)
  have fk_240 := hts (.fieldLink RX8 240 "MaskBowsModel" "begins" "I") (by decide +kernel)
  have fk_249 := hts (.fieldLink RX8 249 "MaskBowsModel" "sort" "I") (by decide +kernel)
  have fk_259 := hts (.fieldLink RX8 259 "MaskBowsModel" "isWrong" "Z") (by decide +kernel)
  have fk_269 := hts (.fieldLink RX8 269 "MaskBowsModel" "itemMany" "I") (by decide +kernel)
  have fk_307 := hts (.fieldLink RX8 307 "MaskBowsModel" "bowThen" "I") (by decide +kernel)
  have fk_318 := hts (.fieldLink RX8 318 "MaskBowsModel" "doubtThen" "I") (by decide +kernel)
  have fk_321 := hts (.fieldLink RX8 321 "MaskBowsModel" "deedThen" "I") (by decide +kernel)
  have fk_328 := hts (.fieldLink RX8 328 "MaskBowsModel" "sayingThen" "I") (by decide +kernel)
  have fk_41 := hts (.fieldLink RX8 41 "MaskBowsModel" "tape" "[I") (by decide +kernel)
  have fk_9 := hts (.fieldLink RX8 9 "MaskBowsModel" "now" "[I") (by decide +kernel)
  refine lv_aload_n hx hb dX8_carnival_0 rfl (lv_at hl 0 rfl) ?_
  refine lv_iconst (v := (0 : Int32)) hx hb dX8_carnival_1 (by decide) ?_
  refine va_put (D := G) (ci := 8) (v := .int (0 : Int32)) (ty := .int) (C := RX8) (T := TX8) (N := 32) hx hb hts hin_X8 tyX8 tyX8_ok nmX8 hown hK hP hD hS 0 rfl rfl 17 (by decide) fk_237 (fun _ h9 => h9) rfl (tyX8_ok 17 (by decide)) rfl rfl (Nat.le_of_ble_eq_true rfl) dX8_carnival_2 (fun H locs hP hD hS => ?_)
  have hP : va_P G vwCl (wM ca ev h0 h1 h2 h3 h4 h5 h6 h7 h8 h9 h10 h11 h12 h13 h14 h15 h16 h17 now kept isKept found order doubts doubtMany weights worn pairs isTwice doer doneTo doers tape taped begins (0 : Int32) sort value isWrong items itemMany bowThen doubtThen deedThen sayingThen widths sizes numbers moved) H := hP
  have hD : va_D A (wM ca ev h0 h1 h2 h3 h4 h5 h6 h7 h8 h9 h10 h11 h12 h13 h14 h15 h16 h17 now kept isKept found order doubts doubtMany weights worn pairs isTwice doer doneTo doers tape taped begins (0 : Int32) sort value isWrong items itemMany bowThen doubtThen deedThen sayingThen widths sizes numbers moved) := hD
  refine lv_aload_n hx hb dX8_carnival_5 rfl (lv_at hl 0 rfl) ?_
  refine lv_iconst (v := (0 : Int32)) hx hb dX8_carnival_6 (by decide) ?_
  refine va_put (D := G) (ci := 8) (v := .int (0 : Int32)) (ty := .boolean) (C := RX8) (T := TX8) (N := 32) hx hb hts hin_X8 tyX8 tyX8_ok nmX8 hown hK hP hD hS 0 rfl rfl 20 (by decide) fk_259 (fun _ h9 => h9) rfl (tyX8_ok 20 (by decide)) (zb_nar zb_0) (zb_fit zb_0) (Nat.le_of_ble_eq_true rfl) dX8_carnival_7 (fun H locs hP hD hS => ?_)
  have hP : va_P G vwCl (wM ca ev h0 h1 h2 h3 h4 h5 h6 h7 h8 h9 h10 h11 h12 h13 h14 h15 h16 h17 now kept isKept found order doubts doubtMany weights worn pairs isTwice doer doneTo doers tape taped begins (0 : Int32) sort value (0 : Int32) items itemMany bowThen doubtThen deedThen sayingThen widths sizes numbers moved) H := hP
  have hD : va_D A (wM ca ev h0 h1 h2 h3 h4 h5 h6 h7 h8 h9 h10 h11 h12 h13 h14 h15 h16 h17 now kept isKept found order doubts doubtMany weights worn pairs isTwice doer doneTo doers tape taped begins (0 : Int32) sort value (0 : Int32) items itemMany bowThen doubtThen deedThen sayingThen widths sizes numbers moved) := hD
  refine lv_aload_n hx hb dX8_carnival_10 rfl (lv_at hl 0 rfl) ?_
  refine lv_iconst (v := (0 : Int32)) hx hb dX8_carnival_11 (by decide) ?_
  refine va_put (D := G) (ci := 8) (v := .int (0 : Int32)) (ty := .int) (C := RX8) (T := TX8) (N := 32) hx hb hts hin_X8 tyX8 tyX8_ok nmX8 hown hK hP hD hS 0 rfl rfl 23 (by decide) fk_269 (fun _ h9 => h9) rfl (tyX8_ok 23 (by decide)) rfl rfl (Nat.le_of_ble_eq_true rfl) dX8_carnival_12 (fun H locs hP hD hS => ?_)
  have hP : va_P G vwCl (wM ca ev h0 h1 h2 h3 h4 h5 h6 h7 h8 h9 h10 h11 h12 h13 h14 h15 h16 h17 now kept isKept found order doubts doubtMany weights worn pairs isTwice doer doneTo doers tape taped begins (0 : Int32) sort value (0 : Int32) items (0 : Int32) bowThen doubtThen deedThen sayingThen widths sizes numbers moved) H := hP
  have hD : va_D A (wM ca ev h0 h1 h2 h3 h4 h5 h6 h7 h8 h9 h10 h11 h12 h13 h14 h15 h16 h17 now kept isKept found order doubts doubtMany weights worn pairs isTwice doer doneTo doers tape taped begins (0 : Int32) sort value (0 : Int32) items (0 : Int32) bowThen doubtThen deedThen sayingThen widths sizes numbers moved) := hD
  refine lv_aload_n hx hb dX8_carnival_15 rfl (lv_at hl 0 rfl) ?_
  refine lv_aload_n hx hb dX8_carnival_16 rfl (lv_at hl 0 rfl) ?_
  refine va_get (D := G) (ci := 8) (v := .ref h1) (C := RX8) (T := TX8) (N := 32) hx hb hts hin_X8 hown hK hP 0 rfl rfl 0 (by decide) fk_9 (fun _ h9 => h9) rfl dX8_carnival_17 ?_
  refine lv_iconst (v := (3 : Int32)) hx hb dX8_carnival_20 (by decide) ?_
  refine va_iald hx hb hK hP 1 0 rfl rfl (ix_in (by decide)) dX8_carnival_21 ?_
  refine va_put (D := G) (ci := 8) (v := .int (now (3 : Int32).toNatClampNeg)) (ty := .int) (C := RX8) (T := TX8) (N := 32) hx hb hts hin_X8 tyX8 tyX8_ok nmX8 hown hK hP hD hS 0 rfl rfl 24 (by decide) fk_307 (fun _ h9 => h9) rfl (tyX8_ok 24 (by decide)) rfl rfl (Nat.le_of_ble_eq_true rfl) dX8_carnival_22 (fun H locs hP hD hS => ?_)
  have hP : va_P G vwCl (wM ca ev h0 h1 h2 h3 h4 h5 h6 h7 h8 h9 h10 h11 h12 h13 h14 h15 h16 h17 now kept isKept found order doubts doubtMany weights worn pairs isTwice doer doneTo doers tape taped begins (0 : Int32) sort value (0 : Int32) items (0 : Int32) (now (3 : Int32).toNatClampNeg) doubtThen deedThen sayingThen widths sizes numbers moved) H := hP
  have hD : va_D A (wM ca ev h0 h1 h2 h3 h4 h5 h6 h7 h8 h9 h10 h11 h12 h13 h14 h15 h16 h17 now kept isKept found order doubts doubtMany weights worn pairs isTwice doer doneTo doers tape taped begins (0 : Int32) sort value (0 : Int32) items (0 : Int32) (now (3 : Int32).toNatClampNeg) doubtThen deedThen sayingThen widths sizes numbers moved) := hD
  refine lv_aload_n hx hb dX8_carnival_25 rfl (lv_at hl 0 rfl) ?_
  refine lv_aload_n hx hb dX8_carnival_26 rfl (lv_at hl 0 rfl) ?_
  obtain ⟨u_1, e_1, h⟩ := bd_some h
  refine cm_Vi (As := []) (rest := [.ref h0]) ⟨hx, hb, hml, hown, hts⟩ (c_X8_doubtedOnes (ca := ca) (ev := ev) (h0 := h0) (h1 := h1) (h2 := h2) (h3 := h3) (h4 := h4) (h5 := h5) (h6 := h6) (h7 := h7) (h8 := h8) (h9 := h9) (h10 := h10) (h11 := h11) (h12 := h12) (h13 := h13) (h14 := h14) (h15 := h15) (h16 := h16) (h17 := h17) (now := now) (kept := kept) (isKept := isKept) (found := found) (order := order) (doubts := doubts) (doubtMany := doubtMany) (weights := weights) (worn := worn) (pairs := pairs) (isTwice := isTwice) (doer := doer) (doneTo := doneTo) (doers := doers) (tape := tape) (taped := taped) (begins := begins) (ends := (0 : Int32)) (sort := sort) (value := value) (isWrong := (0 : Int32)) (items := items) (itemMany := (0 : Int32)) (bowThen := (now (3 : Int32).toNatClampNeg)) (doubtThen := doubtThen) (deedThen := deedThen) (sayingThen := sayingThen) (widths := widths) (sizes := sizes) (numbers := numbers) (moved := moved) e_1) (cwV 0 hts gX8_carnival_X8_doubtedOnes rfl rfl rfl hd_X8_doubtedOnes ⟨Nat.le_of_ble_eq_true rfl, Nat.le_of_ble_eq_true rfl⟩) hK hP hD hS hA hE (q0 := 0) (ci := 8) rfl rfl rfl rfl hl.1 rfl (Nat.le_of_ble_eq_true rfl) dX8_carnival_27 ⟨Nat.zero_le _, Nat.zero_le _⟩ (fun H locs hP hD hS => ?_)
  refine va_put (D := G) (ci := 8) (v := .int u_1) (ty := .int) (C := RX8) (T := TX8) (N := 32) hx hb hts hin_X8 tyX8 tyX8_ok nmX8 hown hK hP hD hS 0 rfl rfl 25 (by decide) fk_318 (fun _ h9 => h9) rfl (tyX8_ok 25 (by decide)) rfl rfl (Nat.le_of_ble_eq_true rfl) dX8_carnival_30 (fun H locs hP hD hS => ?_)
  have hP : va_P G vwCl (wM ca ev h0 h1 h2 h3 h4 h5 h6 h7 h8 h9 h10 h11 h12 h13 h14 h15 h16 h17 now kept isKept found order doubts doubtMany weights worn pairs isTwice doer doneTo doers tape taped begins (0 : Int32) sort value (0 : Int32) items (0 : Int32) (now (3 : Int32).toNatClampNeg) u_1 deedThen sayingThen widths sizes numbers moved) H := hP
  have hD : va_D A (wM ca ev h0 h1 h2 h3 h4 h5 h6 h7 h8 h9 h10 h11 h12 h13 h14 h15 h16 h17 now kept isKept found order doubts doubtMany weights worn pairs isTwice doer doneTo doers tape taped begins (0 : Int32) sort value (0 : Int32) items (0 : Int32) (now (3 : Int32).toNatClampNeg) u_1 deedThen sayingThen widths sizes numbers moved) := hD
  refine lv_aload_n hx hb dX8_carnival_33 rfl (lv_at hl 0 rfl) ?_
  refine lv_aload_n hx hb dX8_carnival_34 rfl (lv_at hl 0 rfl) ?_
  refine va_get (D := G) (ci := 8) (v := .ref h1) (C := RX8) (T := TX8) (N := 32) hx hb hts hin_X8 hown hK hP 0 rfl rfl 0 (by decide) fk_9 (fun _ h9 => h9) rfl dX8_carnival_35 ?_
  refine lv_iconst (v := (4 : Int32)) hx hb dX8_carnival_38 (by decide) ?_
  refine va_iald hx hb hK hP 1 0 rfl rfl (ix_in (by decide)) dX8_carnival_39 ?_
  refine va_put (D := G) (ci := 8) (v := .int (now (4 : Int32).toNatClampNeg)) (ty := .int) (C := RX8) (T := TX8) (N := 32) hx hb hts hin_X8 tyX8 tyX8_ok nmX8 hown hK hP hD hS 0 rfl rfl 26 (by decide) fk_321 (fun _ h9 => h9) rfl (tyX8_ok 26 (by decide)) rfl rfl (Nat.le_of_ble_eq_true rfl) dX8_carnival_40 (fun H locs hP hD hS => ?_)
  have hP : va_P G vwCl (wM ca ev h0 h1 h2 h3 h4 h5 h6 h7 h8 h9 h10 h11 h12 h13 h14 h15 h16 h17 now kept isKept found order doubts doubtMany weights worn pairs isTwice doer doneTo doers tape taped begins (0 : Int32) sort value (0 : Int32) items (0 : Int32) (now (3 : Int32).toNatClampNeg) u_1 (now (4 : Int32).toNatClampNeg) sayingThen widths sizes numbers moved) H := hP
  have hD : va_D A (wM ca ev h0 h1 h2 h3 h4 h5 h6 h7 h8 h9 h10 h11 h12 h13 h14 h15 h16 h17 now kept isKept found order doubts doubtMany weights worn pairs isTwice doer doneTo doers tape taped begins (0 : Int32) sort value (0 : Int32) items (0 : Int32) (now (3 : Int32).toNatClampNeg) u_1 (now (4 : Int32).toNatClampNeg) sayingThen widths sizes numbers moved) := hD
  refine lv_aload_n hx hb dX8_carnival_43 rfl (lv_at hl 0 rfl) ?_
  refine lv_aload_n hx hb dX8_carnival_44 rfl (lv_at hl 0 rfl) ?_
  refine va_get (D := G) (ci := 8) (v := .ref h1) (C := RX8) (T := TX8) (N := 32) hx hb hts hin_X8 hown hK hP 0 rfl rfl 0 (by decide) fk_9 (fun _ h9 => h9) rfl dX8_carnival_45 ?_
  refine lv_iconst (v := (5 : Int32)) hx hb dX8_carnival_48 (by decide) ?_
  refine va_iald hx hb hK hP 1 0 rfl rfl (ix_in (by decide)) dX8_carnival_49 ?_
  refine va_put (D := G) (ci := 8) (v := .int (now (5 : Int32).toNatClampNeg)) (ty := .int) (C := RX8) (T := TX8) (N := 32) hx hb hts hin_X8 tyX8 tyX8_ok nmX8 hown hK hP hD hS 0 rfl rfl 27 (by decide) fk_328 (fun _ h9 => h9) rfl (tyX8_ok 27 (by decide)) rfl rfl (Nat.le_of_ble_eq_true rfl) dX8_carnival_50 (fun H locs hP hD hS => ?_)
  have hP : va_P G vwCl (wM ca ev h0 h1 h2 h3 h4 h5 h6 h7 h8 h9 h10 h11 h12 h13 h14 h15 h16 h17 now kept isKept found order doubts doubtMany weights worn pairs isTwice doer doneTo doers tape taped begins (0 : Int32) sort value (0 : Int32) items (0 : Int32) (now (3 : Int32).toNatClampNeg) u_1 (now (4 : Int32).toNatClampNeg) (now (5 : Int32).toNatClampNeg) widths sizes numbers moved) H := hP
  have hD : va_D A (wM ca ev h0 h1 h2 h3 h4 h5 h6 h7 h8 h9 h10 h11 h12 h13 h14 h15 h16 h17 now kept isKept found order doubts doubtMany weights worn pairs isTwice doer doneTo doers tape taped begins (0 : Int32) sort value (0 : Int32) items (0 : Int32) (now (3 : Int32).toNatClampNeg) u_1 (now (4 : Int32).toNatClampNeg) (now (5 : Int32).toNatClampNeg) widths sizes numbers moved) := hD
  refine lv_aload_n hx hb dX8_carnival_53 rfl (lv_at hl 0 rfl) ?_
  obtain ⟨u_2, e_2, h⟩ := bd_some h
  refine cm_Vv (As := []) (rest := []) ⟨hx, hb, hml, hown, hts⟩ (c_X8_next (ca := ca) (ev := ev) (h0 := h0) (h1 := h1) (h2 := h2) (h3 := h3) (h4 := h4) (h5 := h5) (h6 := h6) (h7 := h7) (h8 := h8) (h9 := h9) (h10 := h10) (h11 := h11) (h12 := h12) (h13 := h13) (h14 := h14) (h15 := h15) (h16 := h16) (h17 := h17) (now := now) (kept := kept) (isKept := isKept) (found := found) (order := order) (doubts := doubts) (doubtMany := doubtMany) (weights := weights) (worn := worn) (pairs := pairs) (isTwice := isTwice) (doer := doer) (doneTo := doneTo) (doers := doers) (tape := tape) (taped := taped) (begins := begins) (ends := (0 : Int32)) (sort := sort) (value := value) (isWrong := (0 : Int32)) (items := items) (itemMany := (0 : Int32)) (bowThen := (now (3 : Int32).toNatClampNeg)) (doubtThen := u_1) (deedThen := (now (4 : Int32).toNatClampNeg)) (sayingThen := (now (5 : Int32).toNatClampNeg)) (widths := widths) (sizes := sizes) (numbers := numbers) (moved := moved) e_2) (cwV 0 hts gX8_carnival_X8_next rfl rfl rfl hd_X8_next ⟨Nat.le_of_ble_eq_true rfl, Nat.le_of_ble_eq_true rfl⟩) hK hP hD hS hA hE (q0 := 0) (ci := 8) rfl rfl rfl rfl hl.1 rfl (Nat.le_of_ble_eq_true rfl) dX8_carnival_54 ⟨Nat.zero_le _, Nat.zero_le _⟩ (fun H locs hP hD hS => ?_)
  refine lv_aload_n hx hb dX8_carnival_57 rfl (lv_at hl 0 rfl) ?_
  obtain ⟨u_3, e_3, h⟩ := bd_some h
  refine cm_Vv (As := []) (rest := []) ⟨hx, hb, hml, hown, hts⟩ (c_X8_readItem (ca := ca) (ev := ev) (h0 := h0) (h1 := h1) (h2 := h2) (h3 := h3) (h4 := h4) (h5 := h5) (h6 := h6) (h7 := h7) (h8 := h8) (h9 := h9) (h10 := h10) (h11 := h11) (h12 := h12) (h13 := h13) (h14 := h14) (h15 := h15) (h16 := h16) (h17 := h17) (now := now) (kept := kept) (isKept := isKept) (found := found) (order := order) (doubts := doubts) (doubtMany := doubtMany) (weights := weights) (worn := worn) (pairs := pairs) (isTwice := isTwice) (doer := doer) (doneTo := doneTo) (doers := doers) (tape := tape) (taped := taped) (begins := u_2.1) (ends := u_2.2.1) (sort := u_2.2.2.1) (value := u_2.2.2.2) (isWrong := (0 : Int32)) (items := items) (itemMany := (0 : Int32)) (bowThen := (now (3 : Int32).toNatClampNeg)) (doubtThen := u_1) (deedThen := (now (4 : Int32).toNatClampNeg)) (sayingThen := (now (5 : Int32).toNatClampNeg)) (widths := widths) (sizes := sizes) (numbers := numbers) (moved := moved) e_3) (cwV 0 hts gX8_carnival_X8_readItem rfl rfl rfl hd_X8_readItem ⟨Nat.le_of_ble_eq_true rfl, Nat.le_of_ble_eq_true rfl⟩) hK hP hD hS hA hE (q0 := 0) (ci := 8) rfl rfl rfl rfl hl.1 rfl (Nat.le_of_ble_eq_true rfl) dX8_carnival_58 ⟨Nat.zero_le _, Nat.zero_le _⟩ (fun H locs hP hD hS => ?_)
  have L_61 : ∀  {now_61 : (Nat → Int32)} {tape_61 : (Nat → Int32)} {taped_61 : Int32} (n_61 : Nat) {begins_61 : Int32} {ends_61 : Int32} {sort_61 : Int32} {value_61 : Int32} {isWrong_61 : Int32} {items_61 : (Nat → Int32)} {itemMany_61 : Int32} {bowThen_61 : Int32} {doubtThen_61 : Int32} {deedThen_61 : Int32} {sayingThen_61 : Int32} {uL_61 : Int32 × Int32 × Int32 × Int32 × Int32 × (Nat → Int32) × Int32 × Int32 × Int32 × Int32 × Int32} {H : Heap} {locs : List Loc} {ls : Array Slot}, f_X8_carnival_61 N now_61 tape_61 taped_61  n_61 begins_61 ends_61 sort_61 value_61 isWrong_61 items_61 itemMany_61 bowThen_61 doubtThen_61 deedThen_61 sayingThen_61 = some uL_61 → va_P G vwCl (wM ca ev h0 h1 h2 h3 h4 h5 h6 h7 h8 h9 h10 h11 h12 h13 h14 h15 h16 h17 now_61 kept isKept found order doubts doubtMany weights worn pairs isTwice doer doneTo doers tape_61 taped_61 begins_61 ends_61 sort_61 value_61 isWrong_61 items_61 itemMany_61 bowThen_61 doubtThen_61 deedThen_61 sayingThen_61 widths sizes numbers moved) H → va_D A (wM ca ev h0 h1 h2 h3 h4 h5 h6 h7 h8 h9 h10 h11 h12 h13 h14 h15 h16 h17 now_61 kept isKept found order doubts doubtMany weights worn pairs isTwice doer doneTo doers tape_61 taped_61 begins_61 ends_61 sort_61 value_61 isWrong_61 items_61 itemMany_61 bowThen_61 doubtThen_61 deedThen_61 sayingThen_61 widths sizes numbers moved) → va_S A s.heap H locs → lv_has ls 2 [(0, .ref h0)] → (∀ {H : Heap} {locs : List Loc} {ls : Array Slot}, va_P G vwCl (wM ca ev h0 h1 h2 h3 h4 h5 h6 h7 h8 h9 h10 h11 h12 h13 h14 h15 h16 h17 now_61 kept isKept found order doubts doubtMany weights worn pairs isTwice doer doneTo doers tape_61 taped_61 uL_61.1 uL_61.2.1 uL_61.2.2.1 uL_61.2.2.2.1 uL_61.2.2.2.2.1 uL_61.2.2.2.2.2.1 uL_61.2.2.2.2.2.2.1 uL_61.2.2.2.2.2.2.2.1 uL_61.2.2.2.2.2.2.2.2.1 uL_61.2.2.2.2.2.2.2.2.2.1 uL_61.2.2.2.2.2.2.2.2.2.2 widths sizes numbers moved) H → va_D A (wM ca ev h0 h1 h2 h3 h4 h5 h6 h7 h8 h9 h10 h11 h12 h13 h14 h15 h16 h17 now_61 kept isKept found order doubts doubtMany weights worn pairs isTwice doer doneTo doers tape_61 taped_61 uL_61.1 uL_61.2.1 uL_61.2.2.1 uL_61.2.2.2.1 uL_61.2.2.2.2.1 uL_61.2.2.2.2.2.1 uL_61.2.2.2.2.2.2.1 uL_61.2.2.2.2.2.2.2.1 uL_61.2.2.2.2.2.2.2.2.1 uL_61.2.2.2.2.2.2.2.2.2.1 uL_61.2.2.2.2.2.2.2.2.2.2 widths sizes numbers moved) → va_S A s.heap H locs → lv_has ls 2 [(0, .ref h0)] → W p l e rm_X8_carnival s m args below meth c H locs 0 0 Q (F0 m 102 ls [])) → W p l e rm_X8_carnival s m args below meth c H locs 0 0 Q (F0 m 61 ls []) := by
    intro now_61 tape_61 taped_61 n_61
    induction n_61 with
    | zero => intro begins_61 ends_61 sort_61 value_61 isWrong_61 items_61 itemMany_61 bowThen_61 doubtThen_61 deedThen_61 sayingThen_61 uL_61 H locs ls h; exact absurd h (by rw [f_X8_carnival_61]; exact fun z => nomatch z)
    | succ n_61 ih =>
      intro begins_61 ends_61 sort_61 value_61 isWrong_61 items_61 itemMany_61 bowThen_61 doubtThen_61 deedThen_61 sayingThen_61 uL_61 H locs ls h hP hD hS hl JK_61
      rw [f_X8_carnival_61] at h
      refine lv_aload_n hx hb dX8_carnival_61 rfl (lv_at hl 0 rfl) ?_
      refine va_get (D := G) (ci := 8) (v := .int isWrong_61) (C := RX8) (T := TX8) (N := 32) hx hb hts hin_X8 hown hK hP 0 rfl rfl 20 (by decide) fk_259 (fun _ h9 => h9) rfl dX8_carnival_62 ?_
      refine lv_if_ne (tgt := 102) hx hb dX8_carnival_65 (by decide) (fun c_4 => ?_) (fun c_4 => ?_)
      · have h := ifn c_4 h
        obtain rfl := Option.some.inj h
        exact JK_61 hP hD hS (lv_sub hl [0] rfl)
      · have h := ifp c_4 h
        refine lv_aload_n hx hb dX8_carnival_68 rfl (lv_at hl 0 rfl) ?_
        refine va_get (D := G) (ci := 8) (v := .int sort_61) (C := RX8) (T := TX8) (N := 32) hx hb hts hin_X8 hown hK hP 0 rfl rfl 18 (by decide) fk_249 (fun _ h9 => h9) rfl dX8_carnival_69 ?_
        refine lv_iconst (v := (3 : Int32)) hx hb dX8_carnival_72 (by decide) ?_
        refine lv_icmp_ne (tgt := 102) hx hb dX8_carnival_73 (by decide) (fun c_5 => ?_) (fun c_5 => ?_)
        · have h := ifn c_5 h
          obtain rfl := Option.some.inj h
          exact JK_61 hP hD hS (lv_sub hl [0] rfl)
        · have h := ifp c_5 h
          refine lv_aload_n hx hb dX8_carnival_76 rfl (lv_at hl 0 rfl) ?_
          refine va_get (D := G) (ci := 8) (v := .ref h11) (C := RX8) (T := TX8) (N := 32) hx hb hts hin_X8 hown hK hP 0 rfl rfl 14 (by decide) fk_41 (fun _ h9 => h9) rfl dX8_carnival_77 ?_
          refine lv_aload_n hx hb dX8_carnival_80 rfl (lv_at hl 0 rfl) ?_
          refine va_get (D := G) (ci := 8) (v := .int begins_61) (C := RX8) (T := TX8) (N := 32) hx hb hts hin_X8 hown hK hP 0 rfl rfl 16 (by decide) fk_240 (fun _ h9 => h9) rfl dX8_carnival_81 ?_
          obtain ⟨i_6, h⟩ := gd_some h
          refine va_iald hx hb hK hP 11 0 rfl rfl (ix_in i_6) dX8_carnival_84 ?_
          refine lv_bipush (v := (59 : Int32)) hx hb dX8_carnival_85 (by decide) ?_
          refine lv_icmp_ne (tgt := 102) hx hb dX8_carnival_87 (by decide) (fun c_7 => ?_) (fun c_7 => ?_)
          · have h := ifn c_7 h
            obtain rfl := Option.some.inj h
            exact JK_61 hP hD hS (lv_sub hl [0] rfl)
          · have h := ifp c_7 h
            refine lv_aload_n hx hb dX8_carnival_90 rfl (lv_at hl 0 rfl) ?_
            refine lv_iconst (v := (1 : Int32)) hx hb dX8_carnival_91 (by decide) ?_
            obtain ⟨u_8, e_8, h⟩ := bd_some h
            refine cm_Vv (As := [.int (1 : Int32)]) (rest := []) ⟨hx, hb, hml, hown, hts⟩ (c_X8_must (ca := ca) (ev := ev) (h0 := h0) (h1 := h1) (h2 := h2) (h3 := h3) (h4 := h4) (h5 := h5) (h6 := h6) (h7 := h7) (h8 := h8) (h9 := h9) (h10 := h10) (h11 := h11) (h12 := h12) (h13 := h13) (h14 := h14) (h15 := h15) (h16 := h16) (h17 := h17) (now := now_61) (kept := kept) (isKept := isKept) (found := found) (order := order) (doubts := doubts) (doubtMany := doubtMany) (weights := weights) (worn := worn) (pairs := pairs) (isTwice := isTwice) (doer := doer) (doneTo := doneTo) (doers := doers) (tape := tape_61) (taped := taped_61) (begins := begins_61) (ends := ends_61) (sort := sort_61) (value := value_61) (isWrong := isWrong_61) (items := items_61) (itemMany := itemMany_61) (bowThen := bowThen_61) (doubtThen := doubtThen_61) (deedThen := deedThen_61) (sayingThen := sayingThen_61) (widths := widths) (sizes := sizes) (numbers := numbers) (moved := moved) e_8) (cwV 1 hts gX8_carnival_X8_must rfl rfl rfl hd_X8_must ⟨Nat.le_of_ble_eq_true rfl, Nat.le_of_ble_eq_true rfl⟩) hK hP hD hS hA hE (q0 := 0) (ci := 8) rfl rfl rfl rfl hl.1 rfl (Nat.le_of_ble_eq_true rfl) dX8_carnival_92 ⟨Nat.zero_le _, Nat.zero_le _⟩ (fun H locs hP hD hS => ?_)
            refine lv_aload_n hx hb dX8_carnival_95 rfl (lv_at hl 0 rfl) ?_
            obtain ⟨u_9, e_9, h⟩ := bd_some h
            refine cm_Vv (As := []) (rest := []) ⟨hx, hb, hml, hown, hts⟩ (c_X8_readItem (ca := ca) (ev := ev) (h0 := h0) (h1 := h1) (h2 := h2) (h3 := h3) (h4 := h4) (h5 := h5) (h6 := h6) (h7 := h7) (h8 := h8) (h9 := h9) (h10 := h10) (h11 := h11) (h12 := h12) (h13 := h13) (h14 := h14) (h15 := h15) (h16 := h16) (h17 := h17) (now := now_61) (kept := kept) (isKept := isKept) (found := found) (order := order) (doubts := doubts) (doubtMany := doubtMany) (weights := weights) (worn := worn) (pairs := pairs) (isTwice := isTwice) (doer := doer) (doneTo := doneTo) (doers := doers) (tape := tape_61) (taped := taped_61) (begins := u_8.1) (ends := u_8.2.1) (sort := u_8.2.2.1) (value := u_8.2.2.2.1) (isWrong := u_8.2.2.2.2) (items := items_61) (itemMany := itemMany_61) (bowThen := bowThen_61) (doubtThen := doubtThen_61) (deedThen := deedThen_61) (sayingThen := sayingThen_61) (widths := widths) (sizes := sizes) (numbers := numbers) (moved := moved) e_9) (cwV 0 hts gX8_carnival_X8_readItem rfl rfl rfl hd_X8_readItem ⟨Nat.le_of_ble_eq_true rfl, Nat.le_of_ble_eq_true rfl⟩) hK hP hD hS hA hE (q0 := 0) (ci := 8) rfl rfl rfl rfl hl.1 rfl (Nat.le_of_ble_eq_true rfl) dX8_carnival_96 ⟨Nat.zero_le _, Nat.zero_le _⟩ (fun H locs hP hD hS => ?_)
            refine lv_goto (tgt := 61) hx hb dX8_carnival_99 (by decide) ?_
            exact ih h hP hD hS (lv_sub hl [0] rfl) JK_61
  obtain ⟨u_10, e_10, h⟩ := bd_some h
  refine L_61 _ e_10 hP hD hS (lv_sub hl [0] rfl) ?_
  intro H locs ls hP hD hS hl
  refine lv_aload_n hx hb dX8_carnival_102 rfl (lv_at hl 0 rfl) ?_
  refine lv_aload_n hx hb dX8_carnival_103 rfl (lv_at hl 0 rfl) ?_
  refine va_get (D := G) (ci := 8) (v := .int u_10.2.2.1) (C := RX8) (T := TX8) (N := 32) hx hb hts hin_X8 hown hK hP 0 rfl rfl 18 (by decide) fk_249 (fun _ h9 => h9) rfl dX8_carnival_104 ?_
  obtain ⟨u_11, e_11, h⟩ := bd_some h
  have J_11 : ∀ {H : Heap} {locs : List Loc} {ls : Array Slot}, va_P G vwCl (wM ca ev h0 h1 h2 h3 h4 h5 h6 h7 h8 h9 h10 h11 h12 h13 h14 h15 h16 h17 now kept isKept found order doubts doubtMany weights worn pairs isTwice doer doneTo doers tape taped u_10.1 u_10.2.1 u_10.2.2.1 u_10.2.2.2.1 u_10.2.2.2.2.1 u_10.2.2.2.2.2.1 u_10.2.2.2.2.2.2.1 u_10.2.2.2.2.2.2.2.1 u_10.2.2.2.2.2.2.2.2.1 u_10.2.2.2.2.2.2.2.2.2.1 u_10.2.2.2.2.2.2.2.2.2.2 widths sizes numbers moved) H → va_D A (wM ca ev h0 h1 h2 h3 h4 h5 h6 h7 h8 h9 h10 h11 h12 h13 h14 h15 h16 h17 now kept isKept found order doubts doubtMany weights worn pairs isTwice doer doneTo doers tape taped u_10.1 u_10.2.1 u_10.2.2.1 u_10.2.2.2.1 u_10.2.2.2.2.1 u_10.2.2.2.2.2.1 u_10.2.2.2.2.2.2.1 u_10.2.2.2.2.2.2.2.1 u_10.2.2.2.2.2.2.2.2.1 u_10.2.2.2.2.2.2.2.2.2.1 u_10.2.2.2.2.2.2.2.2.2.2 widths sizes numbers moved) → va_S A s.heap H locs → lv_has ls 2 [(0, .ref h0)] → (u_11 = 0 ∨ u_11 = 1) → W p l e rm_X8_carnival s m args below meth c H locs 0 0 Q (F0 m 115 ls [.int u_11, .ref h0]) := by
    intro H locs ls hP hD hS hl zj_11_0
    obtain ⟨u_12, e_12, h⟩ := bd_some h
    refine cm_Vv (As := [.int u_11]) (rest := []) ⟨hx, hb, hml, hown, hts⟩ (c_X8_must (ca := ca) (ev := ev) (h0 := h0) (h1 := h1) (h2 := h2) (h3 := h3) (h4 := h4) (h5 := h5) (h6 := h6) (h7 := h7) (h8 := h8) (h9 := h9) (h10 := h10) (h11 := h11) (h12 := h12) (h13 := h13) (h14 := h14) (h15 := h15) (h16 := h16) (h17 := h17) (now := now) (kept := kept) (isKept := isKept) (found := found) (order := order) (doubts := doubts) (doubtMany := doubtMany) (weights := weights) (worn := worn) (pairs := pairs) (isTwice := isTwice) (doer := doer) (doneTo := doneTo) (doers := doers) (tape := tape) (taped := taped) (begins := u_10.1) (ends := u_10.2.1) (sort := u_10.2.2.1) (value := u_10.2.2.2.1) (isWrong := u_10.2.2.2.2.1) (items := u_10.2.2.2.2.2.1) (itemMany := u_10.2.2.2.2.2.2.1) (bowThen := u_10.2.2.2.2.2.2.2.1) (doubtThen := u_10.2.2.2.2.2.2.2.2.1) (deedThen := u_10.2.2.2.2.2.2.2.2.2.1) (sayingThen := u_10.2.2.2.2.2.2.2.2.2.2) (widths := widths) (sizes := sizes) (numbers := numbers) (moved := moved) e_12) (cwV 1 hts gX8_carnival_X8_must rfl rfl rfl hd_X8_must ⟨Nat.le_of_ble_eq_true rfl, Nat.le_of_ble_eq_true rfl⟩) hK hP hD hS hA hE (q0 := 0) (ci := 8) rfl rfl rfl rfl hl.1 rfl (Nat.le_of_ble_eq_true rfl) dX8_carnival_115 ⟨Nat.zero_le _, Nat.zero_le _⟩ (fun H locs hP hD hS => ?_)
    refine lv_aload_n hx hb dX8_carnival_118 rfl (lv_at hl 0 rfl) ?_
    refine lv_iconst (v := (0 : Int32)) hx hb dX8_carnival_119 (by decide) ?_
    refine va_put (D := G) (ci := 8) (v := .int (0 : Int32)) (ty := .int) (C := RX8) (T := TX8) (N := 32) hx hb hts hin_X8 tyX8 tyX8_ok nmX8 hown hK hP hD hS 0 rfl rfl 15 (by decide) fk_234 (fun _ h9 => h9) rfl (tyX8_ok 15 (by decide)) rfl rfl (Nat.le_of_ble_eq_true rfl) dX8_carnival_120 (fun H locs hP hD hS => ?_)
    have hP : va_P G vwCl (wM ca ev h0 h1 h2 h3 h4 h5 h6 h7 h8 h9 h10 h11 h12 h13 h14 h15 h16 h17 now kept isKept found order doubts doubtMany weights worn pairs isTwice doer doneTo doers tape (0 : Int32) u_12.1 u_12.2.1 u_12.2.2.1 u_12.2.2.2.1 u_12.2.2.2.2 u_10.2.2.2.2.2.1 u_10.2.2.2.2.2.2.1 u_10.2.2.2.2.2.2.2.1 u_10.2.2.2.2.2.2.2.2.1 u_10.2.2.2.2.2.2.2.2.2.1 u_10.2.2.2.2.2.2.2.2.2.2 widths sizes numbers moved) H := hP
    have hD : va_D A (wM ca ev h0 h1 h2 h3 h4 h5 h6 h7 h8 h9 h10 h11 h12 h13 h14 h15 h16 h17 now kept isKept found order doubts doubtMany weights worn pairs isTwice doer doneTo doers tape (0 : Int32) u_12.1 u_12.2.1 u_12.2.2.1 u_12.2.2.2.1 u_12.2.2.2.2 u_10.2.2.2.2.2.1 u_10.2.2.2.2.2.2.1 u_10.2.2.2.2.2.2.2.1 u_10.2.2.2.2.2.2.2.2.1 u_10.2.2.2.2.2.2.2.2.2.1 u_10.2.2.2.2.2.2.2.2.2.2 widths sizes numbers moved) := hD
    refine lv_aload_n hx hb dX8_carnival_123 rfl (lv_at hl 0 rfl) ?_
    refine va_get (D := G) (ci := 8) (v := .int u_12.2.2.2.2) (C := RX8) (T := TX8) (N := 32) hx hb hts hin_X8 hown hK hP 0 rfl rfl 20 (by decide) fk_259 (fun _ h9 => h9) rfl dX8_carnival_124 ?_
    refine lv_if_eq (tgt := 137) hx hb dX8_carnival_127 (by decide) (fun c_13 => ?_) (fun c_13 => ?_)
    · have h := ifp c_13 h
      refine lv_iconst (v := (0 : Int32)) hx hb dX8_carnival_137 (by decide) ?_
      refine lv_istore_n (lv' := [(1, .int (0 : Int32)), (0, .ref h0)]) hx hb dX8_carnival_138 rfl hl (by decide) rfl (fun ls hl => ?_)
      have L_139 : ∀  {items_139 : (Nat → Int32)} {itemMany_139 : Int32} (n_139 : Nat) {x1_139 : Int32} {now_139 : (Nat → Int32)} {uL_139 : (Nat → Int32)} {H : Heap} {locs : List Loc} {ls : Array Slot}, f_X8_carnival_139 items_139 itemMany_139  n_139 x1_139 now_139 = some uL_139 → va_P G vwCl (wM ca ev h0 h1 h2 h3 h4 h5 h6 h7 h8 h9 h10 h11 h12 h13 h14 h15 h16 h17 now_139 kept isKept found order doubts doubtMany weights worn pairs isTwice doer doneTo doers tape (0 : Int32) u_12.1 u_12.2.1 u_12.2.2.1 u_12.2.2.2.1 u_12.2.2.2.2 items_139 itemMany_139 u_10.2.2.2.2.2.2.2.1 u_10.2.2.2.2.2.2.2.2.1 u_10.2.2.2.2.2.2.2.2.2.1 u_10.2.2.2.2.2.2.2.2.2.2 widths sizes numbers moved) H → va_D A (wM ca ev h0 h1 h2 h3 h4 h5 h6 h7 h8 h9 h10 h11 h12 h13 h14 h15 h16 h17 now_139 kept isKept found order doubts doubtMany weights worn pairs isTwice doer doneTo doers tape (0 : Int32) u_12.1 u_12.2.1 u_12.2.2.1 u_12.2.2.2.1 u_12.2.2.2.2 items_139 itemMany_139 u_10.2.2.2.2.2.2.2.1 u_10.2.2.2.2.2.2.2.2.1 u_10.2.2.2.2.2.2.2.2.2.1 u_10.2.2.2.2.2.2.2.2.2.2 widths sizes numbers moved) → va_S A s.heap H locs → lv_has ls 2 [(0, .ref h0), (1, .int x1_139)] → (∀ {H : Heap} {locs : List Loc} {ls : Array Slot}, va_P G vwCl (wM ca ev h0 h1 h2 h3 h4 h5 h6 h7 h8 h9 h10 h11 h12 h13 h14 h15 h16 h17 uL_139 kept isKept found order doubts doubtMany weights worn pairs isTwice doer doneTo doers tape (0 : Int32) u_12.1 u_12.2.1 u_12.2.2.1 u_12.2.2.2.1 u_12.2.2.2.2 items_139 itemMany_139 u_10.2.2.2.2.2.2.2.1 u_10.2.2.2.2.2.2.2.2.1 u_10.2.2.2.2.2.2.2.2.2.1 u_10.2.2.2.2.2.2.2.2.2.2 widths sizes numbers moved) H → va_D A (wM ca ev h0 h1 h2 h3 h4 h5 h6 h7 h8 h9 h10 h11 h12 h13 h14 h15 h16 h17 uL_139 kept isKept found order doubts doubtMany weights worn pairs isTwice doer doneTo doers tape (0 : Int32) u_12.1 u_12.2.1 u_12.2.2.1 u_12.2.2.2.1 u_12.2.2.2.2 items_139 itemMany_139 u_10.2.2.2.2.2.2.2.1 u_10.2.2.2.2.2.2.2.2.1 u_10.2.2.2.2.2.2.2.2.2.1 u_10.2.2.2.2.2.2.2.2.2.2 widths sizes numbers moved) → va_S A s.heap H locs → lv_has ls 2 [(0, .ref h0)] → W p l e rm_X8_carnival s m args below meth c H locs 0 0 Q (F0 m 161 ls [])) → W p l e rm_X8_carnival s m args below meth c H locs 0 0 Q (F0 m 139 ls []) := by
        intro items_139 itemMany_139 n_139
        induction n_139 with
        | zero => intro x1_139 now_139 uL_139 H locs ls h; exact absurd h (by rw [f_X8_carnival_139]; exact fun z => nomatch z)
        | succ n_139 ih =>
          intro x1_139 now_139 uL_139 H locs ls h hP hD hS hl JK_139
          rw [f_X8_carnival_139] at h
          refine lv_iload_n hx hb dX8_carnival_139 rfl (lv_at hl 1 rfl) ?_
          refine lv_aload_n hx hb dX8_carnival_140 rfl (lv_at hl 0 rfl) ?_
          refine va_get (D := G) (ci := 8) (v := .int itemMany_139) (C := RX8) (T := TX8) (N := 32) hx hb hts hin_X8 hown hK hP 0 rfl rfl 23 (by decide) fk_269 (fun _ h9 => h9) rfl dX8_carnival_141 ?_
          refine lv_icmp_ge (tgt := 161) hx hb dX8_carnival_144 (by decide) (fun c_14 => ?_) (fun c_14 => ?_)
          · have h := ifp c_14 h
            obtain rfl := Option.some.inj h
            exact JK_139 hP hD hS (lv_sub hl [0] rfl)
          · have h := ifn c_14 h
            refine lv_aload_n hx hb dX8_carnival_147 rfl (lv_at hl 0 rfl) ?_
            refine lv_bipush (v := (6 : Int32)) hx hb dX8_carnival_148 (by decide) ?_
            refine lv_iload_n hx hb dX8_carnival_150 rfl (lv_at hl 1 rfl) ?_
            refine lv_imul hx hb dX8_carnival_151 ?_
            obtain ⟨u_15, e_15, h⟩ := bd_some h
            refine cm_Vv (As := [.int ((6 : Int32) * x1_139)]) (rest := []) ⟨hx, hb, hml, hown, hts⟩ (c_X8_isSo (ca := ca) (ev := ev) (h0 := h0) (h1 := h1) (h2 := h2) (h3 := h3) (h4 := h4) (h5 := h5) (h6 := h6) (h7 := h7) (h8 := h8) (h9 := h9) (h10 := h10) (h11 := h11) (h12 := h12) (h13 := h13) (h14 := h14) (h15 := h15) (h16 := h16) (h17 := h17) (now := now_139) (kept := kept) (isKept := isKept) (found := found) (order := order) (doubts := doubts) (doubtMany := doubtMany) (weights := weights) (worn := worn) (pairs := pairs) (isTwice := isTwice) (doer := doer) (doneTo := doneTo) (doers := doers) (tape := tape) (taped := (0 : Int32)) (begins := u_12.1) (ends := u_12.2.1) (sort := u_12.2.2.1) (value := u_12.2.2.2.1) (isWrong := u_12.2.2.2.2) (items := items_139) (itemMany := itemMany_139) (bowThen := u_10.2.2.2.2.2.2.2.1) (doubtThen := u_10.2.2.2.2.2.2.2.2.1) (deedThen := u_10.2.2.2.2.2.2.2.2.2.1) (sayingThen := u_10.2.2.2.2.2.2.2.2.2.2) (widths := widths) (sizes := sizes) (numbers := numbers) (moved := moved) e_15) (cwV 1 hts gX8_carnival_X8_isSo rfl rfl rfl hd_X8_isSo ⟨Nat.le_of_ble_eq_true rfl, Nat.le_of_ble_eq_true rfl⟩) hK hP hD hS hA hE (q0 := 0) (ci := 8) rfl rfl rfl rfl hl.1 rfl (Nat.le_of_ble_eq_true rfl) dX8_carnival_152 ⟨Nat.zero_le _, Nat.zero_le _⟩ (fun H locs hP hD hS => ?_)
            refine lv_iinc (v := (x1_139 + (1 : Int32))) (lv' := [(1, .int (x1_139 + (1 : Int32))), (0, .ref h0)]) hx hb dX8_carnival_155 hl (k := 1) rfl rfl (by decide) rfl (fun ls hl => ?_)
            refine lv_goto (tgt := 139) hx hb dX8_carnival_158 (by decide) ?_
            exact ih h hP hD hS (lv_sub hl [1, 0] rfl) JK_139
      obtain ⟨u_16, e_16, h⟩ := bd_some h
      refine L_139 _ e_16 hP hD hS (lv_sub hl [1, 0] rfl) ?_
      intro H locs ls hP hD hS hl
      refine lv_aload_n hx hb dX8_carnival_161 rfl (lv_at hl 0 rfl) ?_
      refine va_get (D := G) (ci := 8) (v := .int u_10.2.2.2.2.2.2.1) (C := RX8) (T := TX8) (N := 32) hx hb hts hin_X8 hown hK hP 0 rfl rfl 23 (by decide) fk_269 (fun _ h9 => h9) rfl dX8_carnival_162 ?_
      obtain rfl := Option.some.inj h
      exact hRet hP hD hS dX8_carnival_165
    · have h := ifn c_13 h
      refine lv_iconst (v := (-1 : Int32)) hx hb dX8_carnival_130 (by decide) ?_
      refine lv_aload_n hx hb dX8_carnival_131 rfl (lv_at hl 0 rfl) ?_
      refine va_get (D := G) (ci := 8) (v := .int u_12.1) (C := RX8) (T := TX8) (N := 32) hx hb hts hin_X8 hown hK hP 0 rfl rfl 16 (by decide) fk_240 (fun _ h9 => h9) rfl dX8_carnival_132 ?_
      refine lv_isub hx hb dX8_carnival_135 ?_
      obtain rfl := Option.some.inj h
      exact hRet hP hD hS dX8_carnival_136
  have h := e_11
  clear e_11
  refine lv_if_ne (tgt := 114) hx hb dX8_carnival_107 (by decide) (fun c_11 => ?_) (fun c_11 => ?_)
  · have h := ifn c_11 h
    refine lv_iconst (v := (0 : Int32)) hx hb dX8_carnival_114 (by decide) ?_
    obtain rfl := Option.some.inj h
    exact J_11 hP hD hS (lv_sub hl [0] rfl) zb_0
  · have h := ifp c_11 h
    refine lv_iconst (v := (1 : Int32)) hx hb dX8_carnival_110 (by decide) ?_
    refine lv_goto (tgt := 115) hx hb dX8_carnival_111 (by decide) ?_
    obtain rfl := Option.some.inj h
    exact J_11 hP hD hS (lv_sub hl [0] rfl) zb_1
abbrev rm_X8_image : Room := { frames := 1, cells := 0, slots := 0, locals := 22 }
theorem hd_X8_image : yX8_image.cls = RX8 ∧ yX8_image.cls ≠ "java/lang/invoke/MethodHandle" ∧ yX8_image.cls ≠ "java/lang/invoke/VarHandle" ∧ (parseMethodDescriptor yX8_image.desc).map (fun d => d.parameters.length) = some 0 := by decide +kernel
set_option maxHeartbeats 4000000 in
set_option maxRecDepth 100000 in
theorem c_X8_image {l : Launch} {G : va_G} {ca : Nat → ClassId} {ev : Nat → Nat} {h0 h1 h2 h3 h4 h5 h6 h7 h8 h9 h10 h11 h12 h13 h14 h15 h16 h17 : Nat} {now : (Nat → Int32)} {kept : (Nat → Int32)} {isKept : Int32} {found : (Nat → Int32)} {order : (Nat → Int32)} {doubts : (Nat → Int32)} {doubtMany : Int32} {weights : (Nat → Int64)} {worn : (Nat → Int32)} {pairs : Int64} {isTwice : Int32} {doer : (Nat → Int32)} {doneTo : (Nat → Int32)} {doers : (Nat → Int64)} {tape : (Nat → Int32)} {taped : Int32} {begins : Int32} {ends : Int32} {sort : Int32} {value : Int32} {isWrong : Int32} {items : (Nat → Int32)} {itemMany : Int32} {bowThen : Int32} {doubtThen : Int32} {deedThen : Int32} {sayingThen : Int32} {widths : (Nat → Int32)} {sizes : (Nat → Int32)} {numbers : (Nat → Int64)} {moved : (Nat → Int64)}  {N : Nat} {res : Int32 × (Nat → Int32) × Int32} (h : f_X8_image N now kept isKept = some res) : CtI l yX8_image wsX8_image rm_X8_image G ca ev [.ref h0] (wM ca ev h0 h1 h2 h3 h4 h5 h6 h7 h8 h9 h10 h11 h12 h13 h14 h15 h16 h17 now kept isKept found order doubts doubtMany weights worn pairs isTwice doer doneTo doers tape taped begins ends sort value isWrong items itemMany bowThen doubtThen deedThen sayingThen widths sizes numbers moved) (wM ca ev h0 h1 h2 h3 h4 h5 h6 h7 h8 h9 h10 h11 h12 h13 h14 h15 h16 h17 now res.2.1 res.2.2 found order doubts doubtMany weights worn pairs isTwice doer doneTo doers tape taped begins ends sort value isWrong items itemMany bowThen doubtThen deedThen sayingThen widths sizes numbers moved) res.1 := by
  unfold f_X8_image at h
  refine en_i (by decide) rfl (Nat.le_of_ble_eq_true rfl) ?_
  intro p e s m args below meth c A Q H locs ls hx hb hml hown hts hA hP hK hD hE hS hl hRet
  have hown : s.vm.findClass RX8 = some m.cls := hown
  have hl : lv_has ls 1 [(0, .ref h0)] := hl
  have hin_X8 : ∀ w ∈ u_ws RX8 TX8 32, w ∈ wsX8_image := fun w h9 => List.mem_cons_of_mem _ (List.mem_append_right _ h9)
  have fk_13 := hts (.fieldLink RX8 13 "MaskBowsModel" "kept" "[I") (by decide +kernel)
  have fk_359 := hts (.fieldLink RX8 359 "MaskBowsModel" "isKept" "Z") (by decide +kernel)
  have fk_9 := hts (.fieldLink RX8 9 "MaskBowsModel" "now" "[I") (by decide +kernel)
  refine lv_aload_n hx hb dX8_image_0 rfl (lv_at hl 0 rfl) ?_
  refine va_get (D := G) (ci := 8) (v := .ref h1) (C := RX8) (T := TX8) (N := 32) hx hb hts hin_X8 hown hK hP 0 rfl rfl 0 (by decide) fk_9 (fun _ h9 => h9) rfl dX8_image_1 ?_
  refine lv_aload_n hx hb dX8_image_4 rfl (lv_at hl 0 rfl) ?_
  refine va_get (D := G) (ci := 8) (v := .ref h2) (C := RX8) (T := TX8) (N := 32) hx hb hts hin_X8 hown hK hP 0 rfl rfl 1 (by decide) fk_13 (fun _ h9 => h9) rfl dX8_image_5 ?_
  obtain ⟨u_1, e_1, h⟩ := bd_some h
  refine cl_Sv (As := [.ref h1, .ref h2]) (rest := []) (Wn := (wM ca ev h0 h1 h2 h3 h4 h5 h6 h7 h8 h9 h10 h11 h12 h13 h14 h15 h16 h17 now u_1 isKept found order doubts doubtMany weights worn pairs isTwice doer doneTo doers tape taped begins ends sort value isWrong items itemMany bowThen doubtThen deedThen sayingThen widths sizes numbers moved)) ⟨hx, hb, hml, hown, hts⟩ (c_X8_copyRow (ca := ca) (ev := ev) (p0 := h1) (p1 := h2) (src := now) (dst := kept) e_1) (va_cwS 2 hts gX8_image_X8_copyRow rfl rfl rfl hd_X8_copyRow ⟨Nat.le_of_ble_eq_true rfl, Nat.le_of_ble_eq_true rfl⟩) hK hP hD hS hA hE wp_0 rfl hl.1 rfl (Nat.le_of_ble_eq_true rfl) dX8_image_8 ⟨Nat.zero_le _, Nat.zero_le _⟩ (fun H locs hP hD hS => ?_)
  refine lv_aload_n hx hb dX8_image_11 rfl (lv_at hl 0 rfl) ?_
  refine lv_iconst (v := (1 : Int32)) hx hb dX8_image_12 (by decide) ?_
  refine va_put (D := G) (ci := 8) (v := .int (1 : Int32)) (ty := .boolean) (C := RX8) (T := TX8) (N := 32) hx hb hts hin_X8 tyX8 tyX8_ok nmX8 hown hK hP hD hS 0 rfl rfl 2 (by decide) fk_359 (fun _ h9 => h9) rfl (tyX8_ok 2 (by decide)) (zb_nar zb_1) (zb_fit zb_1) (Nat.le_of_ble_eq_true rfl) dX8_image_13 (fun H locs hP hD hS => ?_)
  have hP : va_P G vwCl (wM ca ev h0 h1 h2 h3 h4 h5 h6 h7 h8 h9 h10 h11 h12 h13 h14 h15 h16 h17 now u_1 (1 : Int32) found order doubts doubtMany weights worn pairs isTwice doer doneTo doers tape taped begins ends sort value isWrong items itemMany bowThen doubtThen deedThen sayingThen widths sizes numbers moved) H := hP
  have hD : va_D A (wM ca ev h0 h1 h2 h3 h4 h5 h6 h7 h8 h9 h10 h11 h12 h13 h14 h15 h16 h17 now u_1 (1 : Int32) found order doubts doubtMany weights worn pairs isTwice doer doneTo doers tape taped begins ends sort value isWrong items itemMany bowThen doubtThen deedThen sayingThen widths sizes numbers moved) := hD
  refine lv_iconst (v := (1 : Int32)) hx hb dX8_image_16 (by decide) ?_
  obtain rfl := Option.some.inj h
  exact hRet hP hD hS dX8_image_17
abbrev rm_X8_undo : Room := { frames := 1, cells := 0, slots := 0, locals := 22 }
theorem hd_X8_undo : yX8_undo.cls = RX8 ∧ yX8_undo.cls ≠ "java/lang/invoke/MethodHandle" ∧ yX8_undo.cls ≠ "java/lang/invoke/VarHandle" ∧ (parseMethodDescriptor yX8_undo.desc).map (fun d => d.parameters.length) = some 0 := by decide +kernel
set_option maxHeartbeats 4000000 in
set_option maxRecDepth 100000 in
theorem c_X8_undo {l : Launch} {G : va_G} {ca : Nat → ClassId} {ev : Nat → Nat} {h0 h1 h2 h3 h4 h5 h6 h7 h8 h9 h10 h11 h12 h13 h14 h15 h16 h17 : Nat} {now : (Nat → Int32)} {kept : (Nat → Int32)} {isKept : Int32} {found : (Nat → Int32)} {order : (Nat → Int32)} {doubts : (Nat → Int32)} {doubtMany : Int32} {weights : (Nat → Int64)} {worn : (Nat → Int32)} {pairs : Int64} {isTwice : Int32} {doer : (Nat → Int32)} {doneTo : (Nat → Int32)} {doers : (Nat → Int64)} {tape : (Nat → Int32)} {taped : Int32} {begins : Int32} {ends : Int32} {sort : Int32} {value : Int32} {isWrong : Int32} {items : (Nat → Int32)} {itemMany : Int32} {bowThen : Int32} {doubtThen : Int32} {deedThen : Int32} {sayingThen : Int32} {widths : (Nat → Int32)} {sizes : (Nat → Int32)} {numbers : (Nat → Int64)} {moved : (Nat → Int64)}  {N : Nat} {res : Int32 × (Nat → Int32) × (Nat → Int32)} (h : f_X8_undo N now kept isKept found = some res) : CtI l yX8_undo wsX8_undo rm_X8_undo G ca ev [.ref h0] (wM ca ev h0 h1 h2 h3 h4 h5 h6 h7 h8 h9 h10 h11 h12 h13 h14 h15 h16 h17 now kept isKept found order doubts doubtMany weights worn pairs isTwice doer doneTo doers tape taped begins ends sort value isWrong items itemMany bowThen doubtThen deedThen sayingThen widths sizes numbers moved) (wM ca ev h0 h1 h2 h3 h4 h5 h6 h7 h8 h9 h10 h11 h12 h13 h14 h15 h16 h17 res.2.1 kept isKept res.2.2 order doubts doubtMany weights worn pairs isTwice doer doneTo doers tape taped begins ends sort value isWrong items itemMany bowThen doubtThen deedThen sayingThen widths sizes numbers moved) res.1 := by
  unfold f_X8_undo at h
  refine en_i (by decide) rfl (Nat.le_of_ble_eq_true rfl) ?_
  intro p e s m args below meth c A Q H locs ls hx hb hml hown hts hA hP hK hD hE hS hl hRet
  have hown : s.vm.findClass RX8 = some m.cls := hown
  have hl : lv_has ls 1 [(0, .ref h0)] := hl
  have hin_X8 : ∀ w ∈ u_ws RX8 TX8 32, w ∈ wsX8_undo := fun w h9 => List.mem_cons_of_mem _ (List.mem_append_right _ h9)
  have fk_13 := hts (.fieldLink RX8 13 "MaskBowsModel" "kept" "[I") (by decide +kernel)
  have fk_359 := hts (.fieldLink RX8 359 "MaskBowsModel" "isKept" "Z") (by decide +kernel)
  have fk_9 := hts (.fieldLink RX8 9 "MaskBowsModel" "now" "[I") (by decide +kernel)
  refine lv_aload_n hx hb dX8_undo_0 rfl (lv_at hl 0 rfl) ?_
  refine va_get (D := G) (ci := 8) (v := .int isKept) (C := RX8) (T := TX8) (N := 32) hx hb hts hin_X8 hown hK hP 0 rfl rfl 2 (by decide) fk_359 (fun _ h9 => h9) rfl dX8_undo_1 ?_
  refine lv_if_ne (tgt := 14) hx hb dX8_undo_4 (by decide) (fun c_1 => ?_) (fun c_1 => ?_)
  · have h := ifn c_1 h
    refine lv_aload_n hx hb dX8_undo_14 rfl (lv_at hl 0 rfl) ?_
    refine va_get (D := G) (ci := 8) (v := .ref h2) (C := RX8) (T := TX8) (N := 32) hx hb hts hin_X8 hown hK hP 0 rfl rfl 1 (by decide) fk_13 (fun _ h9 => h9) rfl dX8_undo_15 ?_
    refine lv_aload_n hx hb dX8_undo_18 rfl (lv_at hl 0 rfl) ?_
    refine va_get (D := G) (ci := 8) (v := .ref h1) (C := RX8) (T := TX8) (N := 32) hx hb hts hin_X8 hown hK hP 0 rfl rfl 0 (by decide) fk_9 (fun _ h9 => h9) rfl dX8_undo_19 ?_
    obtain ⟨u_2, e_2, h⟩ := bd_some h
    refine cl_Sv (As := [.ref h2, .ref h1]) (rest := []) (Wn := (wM ca ev h0 h1 h2 h3 h4 h5 h6 h7 h8 h9 h10 h11 h12 h13 h14 h15 h16 h17 u_2 kept isKept found order doubts doubtMany weights worn pairs isTwice doer doneTo doers tape taped begins ends sort value isWrong items itemMany bowThen doubtThen deedThen sayingThen widths sizes numbers moved)) ⟨hx, hb, hml, hown, hts⟩ (c_X8_copyRow (ca := ca) (ev := ev) (p0 := h2) (p1 := h1) (src := kept) (dst := now) e_2) (va_cwS 2 hts gX8_undo_X8_copyRow rfl rfl rfl hd_X8_copyRow ⟨Nat.le_of_ble_eq_true rfl, Nat.le_of_ble_eq_true rfl⟩) hK hP hD hS hA hE wp_1 rfl hl.1 rfl (Nat.le_of_ble_eq_true rfl) dX8_undo_22 ⟨Nat.zero_le _, Nat.zero_le _⟩ (fun H locs hP hD hS => ?_)
    refine lv_aload_n hx hb dX8_undo_25 rfl (lv_at hl 0 rfl) ?_
    refine va_get (D := G) (ci := 8) (v := .ref h1) (C := RX8) (T := TX8) (N := 32) hx hb hts hin_X8 hown hK hP 0 rfl rfl 0 (by decide) fk_9 (fun _ h9 => h9) rfl dX8_undo_26 ?_
    refine lv_iconst (v := (3 : Int32)) hx hb dX8_undo_29 (by decide) ?_
    refine va_iald hx hb hK hP 1 0 rfl rfl (ix_in (by decide)) dX8_undo_30 ?_
    obtain rfl := Option.some.inj h
    exact hRet hP hD hS dX8_undo_31
  · have h := ifp c_1 h
    refine lv_aload_n hx hb dX8_undo_7 rfl (lv_at hl 0 rfl) ?_
    refine lv_ldc (v := (-1000000004 : Int32)) hx hb hown (hts (.constant RX8 179 (-1000000004)) (by decide +kernel)) dX8_undo_8 ?_
    obtain ⟨u_3, e_3, h⟩ := bd_some h
    refine cm_Vi (As := [.int (-1000000004 : Int32)]) (rest := []) ⟨hx, hb, hml, hown, hts⟩ (c_X8_finding (ca := ca) (ev := ev) (h0 := h0) (h1 := h1) (h2 := h2) (h3 := h3) (h4 := h4) (h5 := h5) (h6 := h6) (h7 := h7) (h8 := h8) (h9 := h9) (h10 := h10) (h11 := h11) (h12 := h12) (h13 := h13) (h14 := h14) (h15 := h15) (h16 := h16) (h17 := h17) (now := now) (kept := kept) (isKept := isKept) (found := found) (order := order) (doubts := doubts) (doubtMany := doubtMany) (weights := weights) (worn := worn) (pairs := pairs) (isTwice := isTwice) (doer := doer) (doneTo := doneTo) (doers := doers) (tape := tape) (taped := taped) (begins := begins) (ends := ends) (sort := sort) (value := value) (isWrong := isWrong) (items := items) (itemMany := itemMany) (bowThen := bowThen) (doubtThen := doubtThen) (deedThen := deedThen) (sayingThen := sayingThen) (widths := widths) (sizes := sizes) (numbers := numbers) (moved := moved) e_3) (cwV 1 hts gX8_undo_X8_finding rfl rfl rfl hd_X8_finding ⟨Nat.le_of_ble_eq_true rfl, Nat.le_of_ble_eq_true rfl⟩) hK hP hD hS hA hE (q0 := 0) (ci := 8) rfl rfl rfl rfl hl.1 rfl (Nat.le_of_ble_eq_true rfl) dX8_undo_10 ⟨Nat.zero_le _, Nat.zero_le _⟩ (fun H locs hP hD hS => ?_)
    obtain rfl := Option.some.inj h
    exact hRet hP hD hS dX8_undo_13
