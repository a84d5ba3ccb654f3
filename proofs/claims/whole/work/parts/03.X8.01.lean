abbrev rm_X8_goes : Room := { frames := 2, cells := 0, slots := 0, locals := 49 }
theorem hd_X8_goes : yX8_goes.cls = RX8 ∧ yX8_goes.cls ≠ "java/lang/invoke/MethodHandle" ∧ yX8_goes.cls ≠ "java/lang/invoke/VarHandle" ∧ (parseMethodDescriptor yX8_goes.desc).map (fun d => d.parameters.length) = some 2 := by decide +kernel
set_option maxHeartbeats 4000000 in
set_option maxRecDepth 100000 in
theorem c_X8_goes {l : Launch} {G : va_G} {ca : Nat → ClassId} {ev : Nat → Nat} {h0 h1 h2 h3 h4 h5 h6 h7 h8 h9 h10 h11 h12 h13 h14 h15 h16 h17 : Nat} {now : (Nat → Int32)} {kept : (Nat → Int32)} {isKept : Int32} {found : (Nat → Int32)} {order : (Nat → Int32)} {doubts : (Nat → Int32)} {doubtMany : Int32} {weights : (Nat → Int64)} {worn : (Nat → Int32)} {pairs : Int64} {isTwice : Int32} {doer : (Nat → Int32)} {doneTo : (Nat → Int32)} {doers : (Nat → Int64)} {tape : (Nat → Int32)} {taped : Int32} {begins : Int32} {ends : Int32} {sort : Int32} {value : Int32} {isWrong : Int32} {items : (Nat → Int32)} {itemMany : Int32} {bowThen : Int32} {doubtThen : Int32} {deedThen : Int32} {sayingThen : Int32} {widths : (Nat → Int32)} {sizes : (Nat → Int32)} {numbers : (Nat → Int64)} {moved : (Nat → Int64)} {a1 : Int32} {a2 : Int32} {N : Nat} {res : (Nat → Int32) × Int64 × Int32} (h : f_X8_goes N now order doubts doubtMany worn pairs isTwice a1 a2 = some res) : CtV l yX8_goes wsX8_goes rm_X8_goes G ca ev [.ref h0, .int a1, .int a2] (wM ca ev h0 h1 h2 h3 h4 h5 h6 h7 h8 h9 h10 h11 h12 h13 h14 h15 h16 h17 now kept isKept found order doubts doubtMany weights worn pairs isTwice doer doneTo doers tape taped begins ends sort value isWrong items itemMany bowThen doubtThen deedThen sayingThen widths sizes numbers moved) (wM ca ev h0 h1 h2 h3 h4 h5 h6 h7 h8 h9 h10 h11 h12 h13 h14 h15 h16 h17 now kept isKept found order doubts doubtMany weights res.1 res.2.1 res.2.2 doer doneTo doers tape taped begins ends sort value isWrong items itemMany bowThen doubtThen deedThen sayingThen widths sizes numbers moved) := by
  unfold f_X8_goes at h
  refine en_v (by decide) rfl (Nat.le_of_ble_eq_true rfl) ?_
  intro p e s m args below meth c A Q H locs ls hx hb hml hown hts hA hP hK hD hE hS hl hRet
  have hown : s.vm.findClass RX8 = some m.cls := hown
  have hl : lv_has ls 4 [(0, .ref h0), (1, .int a1), (2, .int a2)] := hl
  have hin_X8 : ∀ w ∈ u_ws RX8 TX8 32, w ∈ wsX8_goes := fun w h9 => List.mem_cons_of_mem _ (List.mem_append_right _ h9)
  have fk_130 := hts (.fieldLink RX8 130 "MaskBowsModel" "pairs" "J") (by decide +kernel)
  have fk_134 := hts (.fieldLink RX8 134 "MaskBowsModel" "isTwice" "Z") (by decide +kernel)
  have fk_19 := hts (.fieldLink RX8 19 "MaskBowsModel" "order" "[I") (by decide +kernel)
  have fk_29 := hts (.fieldLink RX8 29 "MaskBowsModel" "worn" "[I") (by decide +kernel)
  have fk_9 := hts (.fieldLink RX8 9 "MaskBowsModel" "now" "[I") (by decide +kernel)
  refine lv_iconst (v := (0 : Int32)) hx hb dX8_goes_0 (by decide) ?_
  refine lv_istore_n (lv' := [(3, .int (0 : Int32)), (0, .ref h0), (1, .int a1), (2, .int a2)]) hx hb dX8_goes_1 rfl hl (by decide) rfl (fun ls hl => ?_)
  have L_2 : ∀   (n_2 : Nat) {x3_2 : Int32} {worn_2 : (Nat → Int32)} {uL_2 : (Nat → Int32)} {H : Heap} {locs : List Loc} {ls : Array Slot}, f_X8_goes_2   n_2 x3_2 worn_2 = some uL_2 → va_P G vwCl (wM ca ev h0 h1 h2 h3 h4 h5 h6 h7 h8 h9 h10 h11 h12 h13 h14 h15 h16 h17 now kept isKept found order doubts doubtMany weights worn_2 pairs isTwice doer doneTo doers tape taped begins ends sort value isWrong items itemMany bowThen doubtThen deedThen sayingThen widths sizes numbers moved) H → va_D A (wM ca ev h0 h1 h2 h3 h4 h5 h6 h7 h8 h9 h10 h11 h12 h13 h14 h15 h16 h17 now kept isKept found order doubts doubtMany weights worn_2 pairs isTwice doer doneTo doers tape taped begins ends sort value isWrong items itemMany bowThen doubtThen deedThen sayingThen widths sizes numbers moved) → va_S A s.heap H locs → lv_has ls 4 [(0, .ref h0), (1, .int a1), (2, .int a2), (3, .int x3_2)] → (∀ {H : Heap} {locs : List Loc} {ls : Array Slot}, va_P G vwCl (wM ca ev h0 h1 h2 h3 h4 h5 h6 h7 h8 h9 h10 h11 h12 h13 h14 h15 h16 h17 now kept isKept found order doubts doubtMany weights uL_2 pairs isTwice doer doneTo doers tape taped begins ends sort value isWrong items itemMany bowThen doubtThen deedThen sayingThen widths sizes numbers moved) H → va_D A (wM ca ev h0 h1 h2 h3 h4 h5 h6 h7 h8 h9 h10 h11 h12 h13 h14 h15 h16 h17 now kept isKept found order doubts doubtMany weights uL_2 pairs isTwice doer doneTo doers tape taped begins ends sort value isWrong items itemMany bowThen doubtThen deedThen sayingThen widths sizes numbers moved) → va_S A s.heap H locs → lv_has ls 4 [(0, .ref h0), (1, .int a1), (2, .int a2)] → W p l e rm_X8_goes s m args below meth c H locs 0 0 Q (F0 m 21 ls [])) → W p l e rm_X8_goes s m args below meth c H locs 0 0 Q (F0 m 2 ls []) := by
    intro n_2
    induction n_2 with
    | zero => intro x3_2 worn_2 uL_2 H locs ls h; exact absurd h (by rw [f_X8_goes_2]; exact fun z => nomatch z)
    | succ n_2 ih =>
      intro x3_2 worn_2 uL_2 H locs ls h hP hD hS hl JK_2
      rw [f_X8_goes_2] at h
      refine lv_iload_n hx hb dX8_goes_2 rfl (lv_at hl 3 rfl) ?_
      refine lv_bipush (v := (8 : Int32)) hx hb dX8_goes_3 (by decide) ?_
      refine lv_icmp_ge (tgt := 21) hx hb dX8_goes_5 (by decide) (fun c_1 => ?_) (fun c_1 => ?_)
      · have h := ifp c_1 h
        obtain rfl := Option.some.inj h
        exact JK_2 hP hD hS (lv_sub hl [0, 1, 2] rfl)
      · have h := ifn c_1 h
        refine lv_aload_n hx hb dX8_goes_8 rfl (lv_at hl 0 rfl) ?_
        refine va_get (D := G) (ci := 8) (v := .ref h7) (C := RX8) (T := TX8) (N := 32) hx hb hts hin_X8 hown hK hP 0 rfl rfl 8 (by decide) fk_29 (fun _ h9 => h9) rfl dX8_goes_9 ?_
        refine lv_iload_n hx hb dX8_goes_12 rfl (lv_at hl 3 rfl) ?_
        refine lv_iload_n hx hb dX8_goes_13 rfl (lv_at hl 3 rfl) ?_
        obtain ⟨i_2, h⟩ := gd_some h
        refine va_iast hx hb hK hP hD hS 7 0 rfl rfl (ix_in i_2) dX8_goes_14 (fun H locs hP hD hS => ?_)
        have hP : va_P G vwCl (wM ca ev h0 h1 h2 h3 h4 h5 h6 h7 h8 h9 h10 h11 h12 h13 h14 h15 h16 h17 now kept isKept found order doubts doubtMany weights (upd worn_2 x3_2.toNatClampNeg x3_2) pairs isTwice doer doneTo doers tape taped begins ends sort value isWrong items itemMany bowThen doubtThen deedThen sayingThen widths sizes numbers moved) H := hP
        have hD : va_D A (wM ca ev h0 h1 h2 h3 h4 h5 h6 h7 h8 h9 h10 h11 h12 h13 h14 h15 h16 h17 now kept isKept found order doubts doubtMany weights (upd worn_2 x3_2.toNatClampNeg x3_2) pairs isTwice doer doneTo doers tape taped begins ends sort value isWrong items itemMany bowThen doubtThen deedThen sayingThen widths sizes numbers moved) := hD
        refine lv_iinc (v := (x3_2 + (1 : Int32))) (lv' := [(3, .int (x3_2 + (1 : Int32))), (0, .ref h0), (1, .int a1), (2, .int a2)]) hx hb dX8_goes_15 hl (k := 3) rfl rfl (by decide) rfl (fun ls hl => ?_)
        refine lv_goto (tgt := 2) hx hb dX8_goes_18 (by decide) ?_
        exact ih h hP hD hS (lv_sub hl [1, 2, 3, 0] rfl) JK_2
  obtain ⟨u_3, e_3, h⟩ := bd_some h
  refine L_2 _ e_3 hP hD hS (lv_sub hl [1, 2, 3, 0] rfl) ?_
  intro H locs ls hP hD hS hl
  refine lv_aload_n hx hb dX8_goes_21 rfl (lv_at hl 0 rfl) ?_
  refine lv_lconst (v := (0 : Int64)) hx hb dX8_goes_22 (by decide) ?_
  refine va_put (D := G) (ci := 8) (v := .long (0 : Int64)) (ty := .long) (C := RX8) (T := TX8) (N := 32) hx hb hts hin_X8 tyX8 tyX8_ok nmX8 hown hK hP hD hS 0 rfl rfl 9 (by decide) fk_130 (fun _ h9 => h9) rfl (tyX8_ok 9 (by decide)) rfl rfl (Nat.le_of_ble_eq_true rfl) dX8_goes_23 (fun H locs hP hD hS => ?_)
  have hP : va_P G vwCl (wM ca ev h0 h1 h2 h3 h4 h5 h6 h7 h8 h9 h10 h11 h12 h13 h14 h15 h16 h17 now kept isKept found order doubts doubtMany weights u_3 (0 : Int64) isTwice doer doneTo doers tape taped begins ends sort value isWrong items itemMany bowThen doubtThen deedThen sayingThen widths sizes numbers moved) H := hP
  have hD : va_D A (wM ca ev h0 h1 h2 h3 h4 h5 h6 h7 h8 h9 h10 h11 h12 h13 h14 h15 h16 h17 now kept isKept found order doubts doubtMany weights u_3 (0 : Int64) isTwice doer doneTo doers tape taped begins ends sort value isWrong items itemMany bowThen doubtThen deedThen sayingThen widths sizes numbers moved) := hD
  refine lv_aload_n hx hb dX8_goes_26 rfl (lv_at hl 0 rfl) ?_
  refine lv_iconst (v := (0 : Int32)) hx hb dX8_goes_27 (by decide) ?_
  refine va_put (D := G) (ci := 8) (v := .int (0 : Int32)) (ty := .boolean) (C := RX8) (T := TX8) (N := 32) hx hb hts hin_X8 tyX8 tyX8_ok nmX8 hown hK hP hD hS 0 rfl rfl 10 (by decide) fk_134 (fun _ h9 => h9) rfl (tyX8_ok 10 (by decide)) (zb_nar zb_0) (zb_fit zb_0) (Nat.le_of_ble_eq_true rfl) dX8_goes_28 (fun H locs hP hD hS => ?_)
  have hP : va_P G vwCl (wM ca ev h0 h1 h2 h3 h4 h5 h6 h7 h8 h9 h10 h11 h12 h13 h14 h15 h16 h17 now kept isKept found order doubts doubtMany weights u_3 (0 : Int64) (0 : Int32) doer doneTo doers tape taped begins ends sort value isWrong items itemMany bowThen doubtThen deedThen sayingThen widths sizes numbers moved) H := hP
  have hD : va_D A (wM ca ev h0 h1 h2 h3 h4 h5 h6 h7 h8 h9 h10 h11 h12 h13 h14 h15 h16 h17 now kept isKept found order doubts doubtMany weights u_3 (0 : Int64) (0 : Int32) doer doneTo doers tape taped begins ends sort value isWrong items itemMany bowThen doubtThen deedThen sayingThen widths sizes numbers moved) := hD
  refine lv_iconst (v := (0 : Int32)) hx hb dX8_goes_31 (by decide) ?_
  refine lv_istore_n (lv' := [(3, .int (0 : Int32)), (0, .ref h0), (1, .int a1), (2, .int a2)]) hx hb dX8_goes_32 rfl hl (by decide) rfl (fun ls hl => ?_)
  have L_33 : ∀ {x1_33 : Int32} {x2_33 : Int32} {now_33 : (Nat → Int32)} {order_33 : (Nat → Int32)} {doubts_33 : (Nat → Int32)} {doubtMany_33 : Int32} (n_33 : Nat) {x3_33 : Int32} {worn_33 : (Nat → Int32)} {pairs_33 : Int64} {isTwice_33 : Int32} {uL_33 : (Nat → Int32) × Int64 × Int32} {H : Heap} {locs : List Loc} {ls : Array Slot}, f_X8_goes_33 N x1_33 x2_33 now_33 order_33 doubts_33 doubtMany_33  n_33 x3_33 worn_33 pairs_33 isTwice_33 = some uL_33 → va_P G vwCl (wM ca ev h0 h1 h2 h3 h4 h5 h6 h7 h8 h9 h10 h11 h12 h13 h14 h15 h16 h17 now_33 kept isKept found order_33 doubts_33 doubtMany_33 weights worn_33 pairs_33 isTwice_33 doer doneTo doers tape taped begins ends sort value isWrong items itemMany bowThen doubtThen deedThen sayingThen widths sizes numbers moved) H → va_D A (wM ca ev h0 h1 h2 h3 h4 h5 h6 h7 h8 h9 h10 h11 h12 h13 h14 h15 h16 h17 now_33 kept isKept found order_33 doubts_33 doubtMany_33 weights worn_33 pairs_33 isTwice_33 doer doneTo doers tape taped begins ends sort value isWrong items itemMany bowThen doubtThen deedThen sayingThen widths sizes numbers moved) → va_S A s.heap H locs → lv_has ls 4 [(0, .ref h0), (1, .int x1_33), (2, .int x2_33), (3, .int x3_33)] → (∀ {H : Heap} {locs : List Loc} {ls : Array Slot}, va_P G vwCl (wM ca ev h0 h1 h2 h3 h4 h5 h6 h7 h8 h9 h10 h11 h12 h13 h14 h15 h16 h17 now_33 kept isKept found order_33 doubts_33 doubtMany_33 weights uL_33.1 uL_33.2.1 uL_33.2.2 doer doneTo doers tape taped begins ends sort value isWrong items itemMany bowThen doubtThen deedThen sayingThen widths sizes numbers moved) H → va_D A (wM ca ev h0 h1 h2 h3 h4 h5 h6 h7 h8 h9 h10 h11 h12 h13 h14 h15 h16 h17 now_33 kept isKept found order_33 doubts_33 doubtMany_33 weights uL_33.1 uL_33.2.1 uL_33.2.2 doer doneTo doers tape taped begins ends sort value isWrong items itemMany bowThen doubtThen deedThen sayingThen widths sizes numbers moved) → va_S A s.heap H locs → lv_has ls 4 [] → W p l e rm_X8_goes s m args below meth c H locs 0 0 Q (F0 m 104 ls [])) → W p l e rm_X8_goes s m args below meth c H locs 0 0 Q (F0 m 33 ls []) := by
    intro x1_33 x2_33 now_33 order_33 doubts_33 doubtMany_33 n_33
    induction n_33 with
    | zero => intro x3_33 worn_33 pairs_33 isTwice_33 uL_33 H locs ls h; exact absurd h (by rw [f_X8_goes_33]; exact fun z => nomatch z)
    | succ n_33 ih =>
      intro x3_33 worn_33 pairs_33 isTwice_33 uL_33 H locs ls h hP hD hS hl JK_33
      rw [f_X8_goes_33] at h
      refine lv_iload_n hx hb dX8_goes_33 rfl (lv_at hl 3 rfl) ?_
      refine lv_aload_n hx hb dX8_goes_34 rfl (lv_at hl 0 rfl) ?_
      refine va_get (D := G) (ci := 8) (v := .ref h1) (C := RX8) (T := TX8) (N := 32) hx hb hts hin_X8 hown hK hP 0 rfl rfl 0 (by decide) fk_9 (fun _ h9 => h9) rfl dX8_goes_35 ?_
      refine lv_iconst (v := (3 : Int32)) hx hb dX8_goes_38 (by decide) ?_
      refine va_iald hx hb hK hP 1 0 rfl rfl (ix_in (by decide)) dX8_goes_39 ?_
      refine lv_icmp_ge (tgt := 104) hx hb dX8_goes_40 (by decide) (fun c_4 => ?_) (fun c_4 => ?_)
      · have h := ifp c_4 h
        obtain rfl := Option.some.inj h
        exact JK_33 hP hD hS (lv_sub hl [] rfl)
      · have h := ifn c_4 h
        refine lv_aload_n hx hb dX8_goes_43 rfl (lv_at hl 0 rfl) ?_
        refine lv_aload_n hx hb dX8_goes_44 rfl (lv_at hl 0 rfl) ?_
        refine va_get (D := G) (ci := 8) (v := .ref h4) (C := RX8) (T := TX8) (N := 32) hx hb hts hin_X8 hown hK hP 0 rfl rfl 4 (by decide) fk_19 (fun _ h9 => h9) rfl dX8_goes_45 ?_
        refine lv_iload_n hx hb dX8_goes_48 rfl (lv_at hl 3 rfl) ?_
        obtain ⟨i_5, h⟩ := gd_some h
        refine va_iald hx hb hK hP 4 0 rfl rfl (ix_in i_5) dX8_goes_49 ?_
        refine lv_iconst (v := (0 : Int32)) hx hb dX8_goes_50 (by decide) ?_
        obtain ⟨u_6, e_6, h⟩ := bd_some h
        refine cm_Vi (As := [.int (order_33 x3_33.toNatClampNeg), .int (0 : Int32)]) (rest := []) ⟨hx, hb, hml, hown, hts⟩ (c_X8_bowIs (ca := ca) (ev := ev) (h0 := h0) (h1 := h1) (h2 := h2) (h3 := h3) (h4 := h4) (h5 := h5) (h6 := h6) (h7 := h7) (h8 := h8) (h9 := h9) (h10 := h10) (h11 := h11) (h12 := h12) (h13 := h13) (h14 := h14) (h15 := h15) (h16 := h16) (h17 := h17) (now := now_33) (kept := kept) (isKept := isKept) (found := found) (order := order_33) (doubts := doubts_33) (doubtMany := doubtMany_33) (weights := weights) (worn := worn_33) (pairs := pairs_33) (isTwice := isTwice_33) (doer := doer) (doneTo := doneTo) (doers := doers) (tape := tape) (taped := taped) (begins := begins) (ends := ends) (sort := sort) (value := value) (isWrong := isWrong) (items := items) (itemMany := itemMany) (bowThen := bowThen) (doubtThen := doubtThen) (deedThen := deedThen) (sayingThen := sayingThen) (widths := widths) (sizes := sizes) (numbers := numbers) (moved := moved) e_6) (cwV 2 hts gX8_goes_X8_bowIs rfl rfl rfl hd_X8_bowIs ⟨Nat.le_of_ble_eq_true rfl, Nat.le_of_ble_eq_true rfl⟩) hK hP hD hS hA hE (q0 := 0) (ci := 8) rfl rfl rfl rfl hl.1 rfl (Nat.le_of_ble_eq_true rfl) dX8_goes_51 ⟨Nat.zero_le _, Nat.zero_le _⟩ (fun H locs hP hD hS => ?_)
        refine lv_iload_n hx hb dX8_goes_54 rfl (lv_at hl 2 rfl) ?_
        refine lv_icmp_gt (tgt := 104) hx hb dX8_goes_55 (by decide) (fun c_7 => ?_) (fun c_7 => ?_)
        · have h := ifp c_7 h
          obtain rfl := Option.some.inj h
          exact JK_33 hP hD hS (lv_sub hl [] rfl)
        · have h := ifn c_7 h
          refine lv_aload_n hx hb dX8_goes_58 rfl (lv_at hl 0 rfl) ?_
          refine lv_aload_n hx hb dX8_goes_59 rfl (lv_at hl 0 rfl) ?_
          refine va_get (D := G) (ci := 8) (v := .ref h4) (C := RX8) (T := TX8) (N := 32) hx hb hts hin_X8 hown hK hP 0 rfl rfl 4 (by decide) fk_19 (fun _ h9 => h9) rfl dX8_goes_60 ?_
          refine lv_iload_n hx hb dX8_goes_63 rfl (lv_at hl 3 rfl) ?_
          refine va_iald hx hb hK hP 4 0 rfl rfl (ix_in i_5) dX8_goes_64 ?_
          refine lv_iload_n hx hb dX8_goes_65 rfl (lv_at hl 1 rfl) ?_
          obtain ⟨u_8, e_8, h⟩ := bd_some h
          refine cm_Vi (As := [.int (order_33 x3_33.toNatClampNeg), .int x1_33]) (rest := []) ⟨hx, hb, hml, hown, hts⟩ (c_X8_isMade (ca := ca) (ev := ev) (h0 := h0) (h1 := h1) (h2 := h2) (h3 := h3) (h4 := h4) (h5 := h5) (h6 := h6) (h7 := h7) (h8 := h8) (h9 := h9) (h10 := h10) (h11 := h11) (h12 := h12) (h13 := h13) (h14 := h14) (h15 := h15) (h16 := h16) (h17 := h17) (now := now_33) (kept := kept) (isKept := isKept) (found := found) (order := order_33) (doubts := doubts_33) (doubtMany := doubtMany_33) (weights := weights) (worn := worn_33) (pairs := pairs_33) (isTwice := isTwice_33) (doer := doer) (doneTo := doneTo) (doers := doers) (tape := tape) (taped := taped) (begins := begins) (ends := ends) (sort := sort) (value := value) (isWrong := isWrong) (items := items) (itemMany := itemMany) (bowThen := bowThen) (doubtThen := doubtThen) (deedThen := deedThen) (sayingThen := sayingThen) (widths := widths) (sizes := sizes) (numbers := numbers) (moved := moved) e_8) (cwV 2 hts gX8_goes_X8_isMade rfl rfl rfl hd_X8_isMade ⟨Nat.le_of_ble_eq_true rfl, Nat.le_of_ble_eq_true rfl⟩) hK hP hD hS hA hE (q0 := 0) (ci := 8) rfl rfl rfl rfl hl.1 rfl (Nat.le_of_ble_eq_true rfl) dX8_goes_66 ⟨Nat.zero_le _, Nat.zero_le _⟩ (fun H locs hP hD hS => ?_)
          obtain ⟨u_9, e_9, h⟩ := bd_some h
          have J_9 : ∀ {H : Heap} {locs : List Loc} {ls : Array Slot}, va_P G vwCl (wM ca ev h0 h1 h2 h3 h4 h5 h6 h7 h8 h9 h10 h11 h12 h13 h14 h15 h16 h17 now_33 kept isKept found order_33 doubts_33 doubtMany_33 weights u_9.1 u_9.2.1 u_9.2.2 doer doneTo doers tape taped begins ends sort value isWrong items itemMany bowThen doubtThen deedThen sayingThen widths sizes numbers moved) H → va_D A (wM ca ev h0 h1 h2 h3 h4 h5 h6 h7 h8 h9 h10 h11 h12 h13 h14 h15 h16 h17 now_33 kept isKept found order_33 doubts_33 doubtMany_33 weights u_9.1 u_9.2.1 u_9.2.2 doer doneTo doers tape taped begins ends sort value isWrong items itemMany bowThen doubtThen deedThen sayingThen widths sizes numbers moved) → va_S A s.heap H locs → lv_has ls 4 [(0, .ref h0), (1, .int x1_33), (2, .int x2_33), (3, .int x3_33)] → W p l e rm_X8_goes s m args below meth c H locs 0 0 Q (F0 m 98 ls []) := by
            intro H locs ls hP hD hS hl 
            refine lv_iinc (v := (x3_33 + (1 : Int32))) (lv' := [(3, .int (x3_33 + (1 : Int32))), (0, .ref h0), (1, .int x1_33), (2, .int x2_33)]) hx hb dX8_goes_98 hl (k := 3) rfl rfl (by decide) rfl (fun ls hl => ?_)
            refine lv_goto (tgt := 33) hx hb dX8_goes_101 (by decide) ?_
            exact ih h hP hD hS (lv_sub hl [1, 2, 3, 0] rfl) JK_33
          have h := e_9
          clear e_9
          refine lv_if_eq (tgt := 98) hx hb dX8_goes_69 (by decide) (fun c_9 => ?_) (fun c_9 => ?_)
          · have h := ifp c_9 h
            obtain rfl := Option.some.inj h
            exact J_9 hP hD hS (lv_sub hl [0, 1, 2, 3] rfl)
          · have h := ifn c_9 h
            refine lv_aload_n hx hb dX8_goes_72 rfl (lv_at hl 0 rfl) ?_
            refine lv_aload_n hx hb dX8_goes_73 rfl (lv_at hl 0 rfl) ?_
            refine lv_aload_n hx hb dX8_goes_74 rfl (lv_at hl 0 rfl) ?_
            refine va_get (D := G) (ci := 8) (v := .ref h4) (C := RX8) (T := TX8) (N := 32) hx hb hts hin_X8 hown hK hP 0 rfl rfl 4 (by decide) fk_19 (fun _ h9 => h9) rfl dX8_goes_75 ?_
            refine lv_iload_n hx hb dX8_goes_78 rfl (lv_at hl 3 rfl) ?_
            refine va_iald hx hb hK hP 4 0 rfl rfl (ix_in i_5) dX8_goes_79 ?_
            refine lv_iconst (v := (1 : Int32)) hx hb dX8_goes_80 (by decide) ?_
            obtain ⟨u_10, e_10, h⟩ := bd_some h
            refine cm_Vi (As := [.int (order_33 x3_33.toNatClampNeg), .int (1 : Int32)]) (rest := [.ref h0]) ⟨hx, hb, hml, hown, hts⟩ (c_X8_bowIs (ca := ca) (ev := ev) (h0 := h0) (h1 := h1) (h2 := h2) (h3 := h3) (h4 := h4) (h5 := h5) (h6 := h6) (h7 := h7) (h8 := h8) (h9 := h9) (h10 := h10) (h11 := h11) (h12 := h12) (h13 := h13) (h14 := h14) (h15 := h15) (h16 := h16) (h17 := h17) (now := now_33) (kept := kept) (isKept := isKept) (found := found) (order := order_33) (doubts := doubts_33) (doubtMany := doubtMany_33) (weights := weights) (worn := worn_33) (pairs := pairs_33) (isTwice := isTwice_33) (doer := doer) (doneTo := doneTo) (doers := doers) (tape := tape) (taped := taped) (begins := begins) (ends := ends) (sort := sort) (value := value) (isWrong := isWrong) (items := items) (itemMany := itemMany) (bowThen := bowThen) (doubtThen := doubtThen) (deedThen := deedThen) (sayingThen := sayingThen) (widths := widths) (sizes := sizes) (numbers := numbers) (moved := moved) e_10) (cwV 2 hts gX8_goes_X8_bowIs rfl rfl rfl hd_X8_bowIs ⟨Nat.le_of_ble_eq_true rfl, Nat.le_of_ble_eq_true rfl⟩) hK hP hD hS hA hE (q0 := 0) (ci := 8) rfl rfl rfl rfl hl.1 rfl (Nat.le_of_ble_eq_true rfl) dX8_goes_81 ⟨Nat.zero_le _, Nat.zero_le _⟩ (fun H locs hP hD hS => ?_)
            refine lv_aload_n hx hb dX8_goes_84 rfl (lv_at hl 0 rfl) ?_
            refine lv_aload_n hx hb dX8_goes_85 rfl (lv_at hl 0 rfl) ?_
            refine va_get (D := G) (ci := 8) (v := .ref h4) (C := RX8) (T := TX8) (N := 32) hx hb hts hin_X8 hown hK hP 0 rfl rfl 4 (by decide) fk_19 (fun _ h9 => h9) rfl dX8_goes_86 ?_
            refine lv_iload_n hx hb dX8_goes_89 rfl (lv_at hl 3 rfl) ?_
            refine va_iald hx hb hK hP 4 0 rfl rfl (ix_in i_5) dX8_goes_90 ?_
            refine lv_iconst (v := (2 : Int32)) hx hb dX8_goes_91 (by decide) ?_
            obtain ⟨u_11, e_11, h⟩ := bd_some h
            refine cm_Vi (As := [.int (order_33 x3_33.toNatClampNeg), .int (2 : Int32)]) (rest := [.int u_10, .ref h0]) ⟨hx, hb, hml, hown, hts⟩ (c_X8_bowIs (ca := ca) (ev := ev) (h0 := h0) (h1 := h1) (h2 := h2) (h3 := h3) (h4 := h4) (h5 := h5) (h6 := h6) (h7 := h7) (h8 := h8) (h9 := h9) (h10 := h10) (h11 := h11) (h12 := h12) (h13 := h13) (h14 := h14) (h15 := h15) (h16 := h16) (h17 := h17) (now := now_33) (kept := kept) (isKept := isKept) (found := found) (order := order_33) (doubts := doubts_33) (doubtMany := doubtMany_33) (weights := weights) (worn := worn_33) (pairs := pairs_33) (isTwice := isTwice_33) (doer := doer) (doneTo := doneTo) (doers := doers) (tape := tape) (taped := taped) (begins := begins) (ends := ends) (sort := sort) (value := value) (isWrong := isWrong) (items := items) (itemMany := itemMany) (bowThen := bowThen) (doubtThen := doubtThen) (deedThen := deedThen) (sayingThen := sayingThen) (widths := widths) (sizes := sizes) (numbers := numbers) (moved := moved) e_11) (cwV 2 hts gX8_goes_X8_bowIs rfl rfl rfl hd_X8_bowIs ⟨Nat.le_of_ble_eq_true rfl, Nat.le_of_ble_eq_true rfl⟩) hK hP hD hS hA hE (q0 := 0) (ci := 8) rfl rfl rfl rfl hl.1 rfl (Nat.le_of_ble_eq_true rfl) dX8_goes_92 ⟨Nat.zero_le _, Nat.zero_le _⟩ (fun H locs hP hD hS => ?_)
            obtain ⟨u_12, e_12, h⟩ := bd_some h
            refine cm_Vv (As := [.int u_10, .int u_11]) (rest := []) ⟨hx, hb, hml, hown, hts⟩ (c_X8_change (ca := ca) (ev := ev) (h0 := h0) (h1 := h1) (h2 := h2) (h3 := h3) (h4 := h4) (h5 := h5) (h6 := h6) (h7 := h7) (h8 := h8) (h9 := h9) (h10 := h10) (h11 := h11) (h12 := h12) (h13 := h13) (h14 := h14) (h15 := h15) (h16 := h16) (h17 := h17) (now := now_33) (kept := kept) (isKept := isKept) (found := found) (order := order_33) (doubts := doubts_33) (doubtMany := doubtMany_33) (weights := weights) (worn := worn_33) (pairs := pairs_33) (isTwice := isTwice_33) (doer := doer) (doneTo := doneTo) (doers := doers) (tape := tape) (taped := taped) (begins := begins) (ends := ends) (sort := sort) (value := value) (isWrong := isWrong) (items := items) (itemMany := itemMany) (bowThen := bowThen) (doubtThen := doubtThen) (deedThen := deedThen) (sayingThen := sayingThen) (widths := widths) (sizes := sizes) (numbers := numbers) (moved := moved) e_12) (cwV 2 hts gX8_goes_X8_change rfl rfl rfl hd_X8_change ⟨Nat.le_of_ble_eq_true rfl, Nat.le_of_ble_eq_true rfl⟩) hK hP hD hS hA hE (q0 := 0) (ci := 8) rfl rfl rfl rfl hl.1 rfl (Nat.le_of_ble_eq_true rfl) dX8_goes_95 ⟨Nat.zero_le _, Nat.zero_le _⟩ (fun H locs hP hD hS => ?_)
            obtain rfl := Option.some.inj h
            exact J_9 hP hD hS (lv_sub hl [0, 1, 2, 3] rfl)
  obtain ⟨u_13, e_13, h⟩ := bd_some h
  refine L_33 _ e_13 hP hD hS (lv_sub hl [1, 2, 3, 0] rfl) ?_
  intro H locs ls hP hD hS hl
  obtain rfl := Option.some.inj h
  exact hRet hP hD hS dX8_goes_104
abbrev rm_X8_weightOf : Room := { frames := 1, cells := 0, slots := 0, locals := 22 }
theorem hd_X8_weightOf : yX8_weightOf.cls = RX8 ∧ yX8_weightOf.cls ≠ "java/lang/invoke/MethodHandle" ∧ yX8_weightOf.cls ≠ "java/lang/invoke/VarHandle" ∧ (parseMethodDescriptor yX8_weightOf.desc).map (fun d => d.parameters.length) = some 1 := by decide +kernel
set_option maxHeartbeats 4000000 in
set_option maxRecDepth 100000 in
theorem c_X8_weightOf {l : Launch} {G : va_G} {ca : Nat → ClassId} {ev : Nat → Nat} {h0 h1 h2 h3 h4 h5 h6 h7 h8 h9 h10 h11 h12 h13 h14 h15 h16 h17 : Nat} {now : (Nat → Int32)} {kept : (Nat → Int32)} {isKept : Int32} {found : (Nat → Int32)} {order : (Nat → Int32)} {doubts : (Nat → Int32)} {doubtMany : Int32} {weights : (Nat → Int64)} {worn : (Nat → Int32)} {pairs : Int64} {isTwice : Int32} {doer : (Nat → Int32)} {doneTo : (Nat → Int32)} {doers : (Nat → Int64)} {tape : (Nat → Int32)} {taped : Int32} {begins : Int32} {ends : Int32} {sort : Int32} {value : Int32} {isWrong : Int32} {items : (Nat → Int32)} {itemMany : Int32} {bowThen : Int32} {doubtThen : Int32} {deedThen : Int32} {sayingThen : Int32} {widths : (Nat → Int32)} {sizes : (Nat → Int32)} {numbers : (Nat → Int64)} {moved : (Nat → Int64)} {a1 : Int32} {N : Nat} {res : Int64} (h : f_X8_weightOf N now doubts doubtMany a1 = some res) : CtL l yX8_weightOf wsX8_weightOf rm_X8_weightOf G ca ev [.ref h0, .int a1] (wM ca ev h0 h1 h2 h3 h4 h5 h6 h7 h8 h9 h10 h11 h12 h13 h14 h15 h16 h17 now kept isKept found order doubts doubtMany weights worn pairs isTwice doer doneTo doers tape taped begins ends sort value isWrong items itemMany bowThen doubtThen deedThen sayingThen widths sizes numbers moved) (wM ca ev h0 h1 h2 h3 h4 h5 h6 h7 h8 h9 h10 h11 h12 h13 h14 h15 h16 h17 now kept isKept found order doubts doubtMany weights worn pairs isTwice doer doneTo doers tape taped begins ends sort value isWrong items itemMany bowThen doubtThen deedThen sayingThen widths sizes numbers moved) res := by
  unfold f_X8_weightOf at h
  refine en_l (by decide) rfl (Nat.le_of_ble_eq_true rfl) ?_
  intro p e s m args below meth c A Q H locs ls hx hb hml hown hts hA hP hK hD hE hS hl hRet
  have hown : s.vm.findClass RX8 = some m.cls := hown
  have hl : lv_has ls 6 [(0, .ref h0), (1, .int a1)] := hl
  have hin_X8 : ∀ w ∈ u_ws RX8 TX8 32, w ∈ wsX8_weightOf := fun w h9 => List.mem_cons_of_mem _ (List.mem_append_right _ h9)
  have fk_126 := hts (.fieldLink RX8 126 "MaskBowsModel" "doubtMany" "I") (by decide +kernel)
  have fk_22 := hts (.fieldLink RX8 22 "MaskBowsModel" "doubts" "[I") (by decide +kernel)
  refine lv_lconst (v := (1 : Int64)) hx hb dX8_weightOf_0 (by decide) ?_
  refine lv_lstore_n (lv' := [(2, .long (1 : Int64)), (0, .ref h0), (1, .int a1)]) hx hb dX8_weightOf_1 rfl hl (by decide) rfl (fun ls hl => ?_)
  refine lv_iconst (v := (0 : Int32)) hx hb dX8_weightOf_2 (by decide) ?_
  refine lv_istore (lv' := [(4, .int (0 : Int32)), (2, .long (1 : Int64)), (0, .ref h0), (1, .int a1)]) hx hb dX8_weightOf_3 hl (by decide) rfl (fun ls hl => ?_)
  have L_5 : ∀ {x1_5 : Int32} {now_5 : (Nat → Int32)} {doubts_5 : (Nat → Int32)} {doubtMany_5 : Int32} (n_5 : Nat) {x2_5 : Int64} {x4_5 : Int32} {uL_5 : Int64} {H : Heap} {locs : List Loc} {ls : Array Slot}, f_X8_weightOf_5 x1_5 now_5 doubts_5 doubtMany_5  n_5 x2_5 x4_5 = some uL_5 → va_P G vwCl (wM ca ev h0 h1 h2 h3 h4 h5 h6 h7 h8 h9 h10 h11 h12 h13 h14 h15 h16 h17 now_5 kept isKept found order doubts_5 doubtMany_5 weights worn pairs isTwice doer doneTo doers tape taped begins ends sort value isWrong items itemMany bowThen doubtThen deedThen sayingThen widths sizes numbers moved) H → va_D A (wM ca ev h0 h1 h2 h3 h4 h5 h6 h7 h8 h9 h10 h11 h12 h13 h14 h15 h16 h17 now_5 kept isKept found order doubts_5 doubtMany_5 weights worn pairs isTwice doer doneTo doers tape taped begins ends sort value isWrong items itemMany bowThen doubtThen deedThen sayingThen widths sizes numbers moved) → va_S A s.heap H locs → lv_has ls 6 [(0, .ref h0), (1, .int x1_5), (2, .long x2_5), (4, .int x4_5)] → (∀ {H : Heap} {locs : List Loc} {ls : Array Slot}, va_P G vwCl (wM ca ev h0 h1 h2 h3 h4 h5 h6 h7 h8 h9 h10 h11 h12 h13 h14 h15 h16 h17 now_5 kept isKept found order doubts_5 doubtMany_5 weights worn pairs isTwice doer doneTo doers tape taped begins ends sort value isWrong items itemMany bowThen doubtThen deedThen sayingThen widths sizes numbers moved) H → va_D A (wM ca ev h0 h1 h2 h3 h4 h5 h6 h7 h8 h9 h10 h11 h12 h13 h14 h15 h16 h17 now_5 kept isKept found order doubts_5 doubtMany_5 weights worn pairs isTwice doer doneTo doers tape taped begins ends sort value isWrong items itemMany bowThen doubtThen deedThen sayingThen widths sizes numbers moved) → va_S A s.heap H locs → lv_has ls 6 [(2, .long uL_5)] → W p l e rm_X8_weightOf s m args below meth c H locs 0 0 Q (F0 m 59 ls [])) → W p l e rm_X8_weightOf s m args below meth c H locs 0 0 Q (F0 m 5 ls []) := by
    intro x1_5 now_5 doubts_5 doubtMany_5 n_5
    induction n_5 with
    | zero => intro x2_5 x4_5 uL_5 H locs ls h; exact absurd h (by rw [f_X8_weightOf_5]; exact fun z => nomatch z)
    | succ n_5 ih =>
      intro x2_5 x4_5 uL_5 H locs ls h hP hD hS hl JK_5
      rw [f_X8_weightOf_5] at h
      refine lv_iload hx hb dX8_weightOf_5 (lv_at hl 3 rfl) ?_
      refine lv_aload_n hx hb dX8_weightOf_7 rfl (lv_at hl 0 rfl) ?_
      refine va_get (D := G) (ci := 8) (v := .int doubtMany_5) (C := RX8) (T := TX8) (N := 32) hx hb hts hin_X8 hown hK hP 0 rfl rfl 6 (by decide) fk_126 (fun _ h9 => h9) rfl dX8_weightOf_8 ?_
      refine lv_icmp_ge (tgt := 59) hx hb dX8_weightOf_11 (by decide) (fun c_1 => ?_) (fun c_1 => ?_)
      · have h := ifp c_1 h
        obtain rfl := Option.some.inj h
        exact JK_5 hP hD hS (lv_sub hl [2] rfl)
      · have h := ifn c_1 h
        refine lv_aload_n hx hb dX8_weightOf_14 rfl (lv_at hl 0 rfl) ?_
        refine lv_aload_n hx hb dX8_weightOf_15 rfl (lv_at hl 0 rfl) ?_
        refine va_get (D := G) (ci := 8) (v := .ref h5) (C := RX8) (T := TX8) (N := 32) hx hb hts hin_X8 hown hK hP 0 rfl rfl 5 (by decide) fk_22 (fun _ h9 => h9) rfl dX8_weightOf_16 ?_
        refine lv_iload hx hb dX8_weightOf_19 (lv_at hl 3 rfl) ?_
        obtain ⟨i_2, h⟩ := gd_some h
        refine va_iald hx hb hK hP 5 0 rfl rfl (ix_in i_2) dX8_weightOf_21 ?_
        refine lv_iconst (v := (3 : Int32)) hx hb dX8_weightOf_22 (by decide) ?_
        obtain ⟨u_3, e_3, h⟩ := bd_some h
        refine cm_Vi (As := [.int (doubts_5 x4_5.toNatClampNeg), .int (3 : Int32)]) (rest := []) ⟨hx, hb, hml, hown, hts⟩ (c_X8_bowIs (ca := ca) (ev := ev) (h0 := h0) (h1 := h1) (h2 := h2) (h3 := h3) (h4 := h4) (h5 := h5) (h6 := h6) (h7 := h7) (h8 := h8) (h9 := h9) (h10 := h10) (h11 := h11) (h12 := h12) (h13 := h13) (h14 := h14) (h15 := h15) (h16 := h16) (h17 := h17) (now := now_5) (kept := kept) (isKept := isKept) (found := found) (order := order) (doubts := doubts_5) (doubtMany := doubtMany_5) (weights := weights) (worn := worn) (pairs := pairs) (isTwice := isTwice) (doer := doer) (doneTo := doneTo) (doers := doers) (tape := tape) (taped := taped) (begins := begins) (ends := ends) (sort := sort) (value := value) (isWrong := isWrong) (items := items) (itemMany := itemMany) (bowThen := bowThen) (doubtThen := doubtThen) (deedThen := deedThen) (sayingThen := sayingThen) (widths := widths) (sizes := sizes) (numbers := numbers) (moved := moved) e_3) (cwV 2 hts gX8_weightOf_X8_bowIs rfl rfl rfl hd_X8_bowIs ⟨Nat.le_of_ble_eq_true rfl, Nat.le_of_ble_eq_true rfl⟩) hK hP hD hS hA hE (q0 := 0) (ci := 8) rfl rfl rfl rfl hl.1 rfl (Nat.le_of_ble_eq_true rfl) dX8_weightOf_23 ⟨Nat.zero_le _, Nat.zero_le _⟩ (fun H locs hP hD hS => ?_)
        refine lv_istore (lv' := [(5, .int u_3), (0, .ref h0), (1, .int x1_5), (2, .long x2_5), (4, .int x4_5)]) hx hb dX8_weightOf_26 hl (by decide) rfl (fun ls hl => ?_)
        refine lv_lload_n hx hb dX8_weightOf_28 rfl (lv_at hl 3 rfl) ?_
        refine lv_iload_n hx hb dX8_weightOf_29 rfl (lv_at hl 2 rfl) ?_
        refine lv_iload hx hb dX8_weightOf_30 (lv_at hl 4 rfl) ?_
        refine lv_ishr hx hb dX8_weightOf_32 ?_
        refine lv_iconst (v := (1 : Int32)) hx hb dX8_weightOf_33 (by decide) ?_
        refine lv_iand hx hb dX8_weightOf_34 ?_
        refine lv_iconst (v := (1 : Int32)) hx hb dX8_weightOf_35 (by decide) ?_
        obtain ⟨u_4, e_4, h⟩ := bd_some h
        have J_4 : ∀ {H : Heap} {locs : List Loc} {ls : Array Slot}, va_P G vwCl (wM ca ev h0 h1 h2 h3 h4 h5 h6 h7 h8 h9 h10 h11 h12 h13 h14 h15 h16 h17 now_5 kept isKept found order doubts_5 doubtMany_5 weights worn pairs isTwice doer doneTo doers tape taped begins ends sort value isWrong items itemMany bowThen doubtThen deedThen sayingThen widths sizes numbers moved) H → va_D A (wM ca ev h0 h1 h2 h3 h4 h5 h6 h7 h8 h9 h10 h11 h12 h13 h14 h15 h16 h17 now_5 kept isKept found order doubts_5 doubtMany_5 weights worn pairs isTwice doer doneTo doers tape taped begins ends sort value isWrong items itemMany bowThen doubtThen deedThen sayingThen widths sizes numbers moved) → va_S A s.heap H locs → lv_has ls 6 [(0, .ref h0), (1, .int x1_5), (4, .int x4_5)] → W p l e rm_X8_weightOf s m args below meth c H locs 0 0 Q (F0 m 51 ls [.long u_4, .long x2_5]) := by
          intro H locs ls hP hD hS hl 
          refine lv_lmul hx hb dX8_weightOf_51 ?_
          refine lv_lstore_n (lv' := [(2, .long (x2_5 * u_4)), (0, .ref h0), (1, .int x1_5), (4, .int x4_5)]) hx hb dX8_weightOf_52 rfl hl (by decide) rfl (fun ls hl => ?_)
          refine lv_iinc (v := (x4_5 + (1 : Int32))) (lv' := [(4, .int (x4_5 + (1 : Int32))), (2, .long (x2_5 * u_4)), (0, .ref h0), (1, .int x1_5)]) hx hb dX8_weightOf_53 hl (k := 3) rfl rfl (by decide) rfl (fun ls hl => ?_)
          refine lv_goto (tgt := 5) hx hb dX8_weightOf_56 (by decide) ?_
          exact ih h hP hD hS (lv_sub hl [2, 3, 1, 0] rfl) JK_5
        have h := e_4
        clear e_4
        refine lv_icmp_ne (tgt := 45) hx hb dX8_weightOf_36 (by decide) (fun c_4 => ?_) (fun c_4 => ?_)
        · have h := ifn c_4 h
          refine lv_bipush (v := (10 : Int32)) hx hb dX8_weightOf_45 (by decide) ?_
          refine lv_iload hx hb dX8_weightOf_47 (lv_at hl 0 rfl) ?_
          refine lv_isub hx hb dX8_weightOf_49 ?_
          refine lv_i2l (v := ((10 : Int32) - u_3).toInt64) hx hb dX8_weightOf_50 rfl ?_
          obtain rfl := Option.some.inj h
          exact J_4 hP hD hS (lv_sub hl [1, 2, 4] rfl)
        · have h := ifp c_4 h
          refine lv_iload hx hb dX8_weightOf_39 (lv_at hl 0 rfl) ?_
          refine lv_i2l (v := u_3.toInt64) hx hb dX8_weightOf_41 rfl ?_
          refine lv_goto (tgt := 51) hx hb dX8_weightOf_42 (by decide) ?_
          obtain rfl := Option.some.inj h
          exact J_4 hP hD hS (lv_sub hl [1, 2, 4] rfl)
  obtain ⟨u_5, e_5, h⟩ := bd_some h
  refine L_5 _ e_5 hP hD hS (lv_sub hl [2, 3, 1, 0] rfl) ?_
  intro H locs ls hP hD hS hl
  refine lv_lload_n hx hb dX8_weightOf_59 rfl (lv_at hl 0 rfl) ?_
  obtain rfl := Option.some.inj h
  exact hRet hP hD hS dX8_weightOf_60
abbrev rm_X8_breaksRule : Room := { frames := 3, cells := 0, slots := 0, locals := 72 }
theorem hd_X8_breaksRule : yX8_breaksRule.cls = RX8 ∧ yX8_breaksRule.cls ≠ "java/lang/invoke/MethodHandle" ∧ yX8_breaksRule.cls ≠ "java/lang/invoke/VarHandle" ∧ (parseMethodDescriptor yX8_breaksRule.desc).map (fun d => d.parameters.length) = some 1 := by decide +kernel
set_option maxHeartbeats 4000000 in
set_option maxRecDepth 100000 in
theorem c_X8_breaksRule {l : Launch} {G : va_G} {ca : Nat → ClassId} {ev : Nat → Nat} {h0 h1 h2 h3 h4 h5 h6 h7 h8 h9 h10 h11 h12 h13 h14 h15 h16 h17 : Nat} {now : (Nat → Int32)} {kept : (Nat → Int32)} {isKept : Int32} {found : (Nat → Int32)} {order : (Nat → Int32)} {doubts : (Nat → Int32)} {doubtMany : Int32} {weights : (Nat → Int64)} {worn : (Nat → Int32)} {pairs : Int64} {isTwice : Int32} {doer : (Nat → Int32)} {doneTo : (Nat → Int32)} {doers : (Nat → Int64)} {tape : (Nat → Int32)} {taped : Int32} {begins : Int32} {ends : Int32} {sort : Int32} {value : Int32} {isWrong : Int32} {items : (Nat → Int32)} {itemMany : Int32} {bowThen : Int32} {doubtThen : Int32} {deedThen : Int32} {sayingThen : Int32} {widths : (Nat → Int32)} {sizes : (Nat → Int32)} {numbers : (Nat → Int64)} {moved : (Nat → Int64)} {a1 : Int32} {N : Nat} {res : Int32 × (Nat → Int32) × Int64 × Int32} (h : f_X8_breaksRule N now order doubts doubtMany worn pairs isTwice a1 = some res) : CtI l yX8_breaksRule wsX8_breaksRule rm_X8_breaksRule G ca ev [.ref h0, .int a1] (wM ca ev h0 h1 h2 h3 h4 h5 h6 h7 h8 h9 h10 h11 h12 h13 h14 h15 h16 h17 now kept isKept found order doubts doubtMany weights worn pairs isTwice doer doneTo doers tape taped begins ends sort value isWrong items itemMany bowThen doubtThen deedThen sayingThen widths sizes numbers moved) (wM ca ev h0 h1 h2 h3 h4 h5 h6 h7 h8 h9 h10 h11 h12 h13 h14 h15 h16 h17 now kept isKept found order doubts doubtMany weights res.2.1 res.2.2.1 res.2.2.2 doer doneTo doers tape taped begins ends sort value isWrong items itemMany bowThen doubtThen deedThen sayingThen widths sizes numbers moved) res.1 := by
  unfold f_X8_breaksRule at h
  refine en_z (by decide) rfl (Nat.le_of_ble_eq_true rfl) ?_
  intro p e s m args below meth c A Q H locs ls hx hb hml hown hts hA hP hK hD hE hS hl hRet
  have hown : s.vm.findClass RX8 = some m.cls := hown
  have hl : lv_has ls 2 [(0, .ref h0), (1, .int a1)] := hl
  have hin_X8 : ∀ w ∈ u_ws RX8 TX8 32, w ∈ wsX8_breaksRule := fun w h9 => List.mem_cons_of_mem _ (List.mem_append_right _ h9)
  have fk_134 := hts (.fieldLink RX8 134 "MaskBowsModel" "isTwice" "Z") (by decide +kernel)
  have fk_9 := hts (.fieldLink RX8 9 "MaskBowsModel" "now" "[I") (by decide +kernel)
  refine lv_aload_n hx hb dX8_breaksRule_0 rfl (lv_at hl 0 rfl) ?_
  refine lv_iload_n hx hb dX8_breaksRule_1 rfl (lv_at hl 1 rfl) ?_
  refine lv_bipush (v := (99 : Int32)) hx hb dX8_breaksRule_2 (by decide) ?_
  obtain ⟨u_1, e_1, h⟩ := bd_some h
  refine cm_Vv (As := [.int a1, .int (99 : Int32)]) (rest := []) ⟨hx, hb, hml, hown, hts⟩ (c_X8_goes (ca := ca) (ev := ev) (h0 := h0) (h1 := h1) (h2 := h2) (h3 := h3) (h4 := h4) (h5 := h5) (h6 := h6) (h7 := h7) (h8 := h8) (h9 := h9) (h10 := h10) (h11 := h11) (h12 := h12) (h13 := h13) (h14 := h14) (h15 := h15) (h16 := h16) (h17 := h17) (now := now) (kept := kept) (isKept := isKept) (found := found) (order := order) (doubts := doubts) (doubtMany := doubtMany) (weights := weights) (worn := worn) (pairs := pairs) (isTwice := isTwice) (doer := doer) (doneTo := doneTo) (doers := doers) (tape := tape) (taped := taped) (begins := begins) (ends := ends) (sort := sort) (value := value) (isWrong := isWrong) (items := items) (itemMany := itemMany) (bowThen := bowThen) (doubtThen := doubtThen) (deedThen := deedThen) (sayingThen := sayingThen) (widths := widths) (sizes := sizes) (numbers := numbers) (moved := moved) e_1) (cwV 2 hts gX8_breaksRule_X8_goes rfl rfl rfl hd_X8_goes ⟨Nat.le_of_ble_eq_true rfl, Nat.le_of_ble_eq_true rfl⟩) hK hP hD hS hA hE (q0 := 0) (ci := 8) rfl rfl rfl rfl hl.1 rfl (Nat.le_of_ble_eq_true rfl) dX8_breaksRule_4 ⟨Nat.zero_le _, Nat.zero_le _⟩ (fun H locs hP hD hS => ?_)
  refine lv_aload_n hx hb dX8_breaksRule_7 rfl (lv_at hl 0 rfl) ?_
  refine va_get (D := G) (ci := 8) (v := .ref h1) (C := RX8) (T := TX8) (N := 32) hx hb hts hin_X8 hown hK hP 0 rfl rfl 0 (by decide) fk_9 (fun _ h9 => h9) rfl dX8_breaksRule_8 ?_
  refine lv_iconst (v := (1 : Int32)) hx hb dX8_breaksRule_11 (by decide) ?_
  refine va_iald hx hb hK hP 1 0 rfl rfl (ix_in (by decide)) dX8_breaksRule_12 ?_
  refine lv_iconst (v := (1 : Int32)) hx hb dX8_breaksRule_13 (by decide) ?_
  refine lv_icmp_ne (tgt := 28) hx hb dX8_breaksRule_14 (by decide) (fun c_2 => ?_) (fun c_2 => ?_)
  · have h := ifn c_2 h
    refine lv_iconst (v := (0 : Int32)) hx hb dX8_breaksRule_28 (by decide) ?_
    obtain rfl := Option.some.inj h
    exact hRet hP hD hS zb_0 dX8_breaksRule_29
  · have h := ifp c_2 h
    refine lv_aload_n hx hb dX8_breaksRule_17 rfl (lv_at hl 0 rfl) ?_
    refine va_get (D := G) (ci := 8) (v := .int u_1.2.2) (C := RX8) (T := TX8) (N := 32) hx hb hts hin_X8 hown hK hP 0 rfl rfl 10 (by decide) fk_134 (fun _ h9 => h9) rfl dX8_breaksRule_18 ?_
    refine lv_if_eq (tgt := 28) hx hb dX8_breaksRule_21 (by decide) (fun c_3 => ?_) (fun c_3 => ?_)
    · have h := ifp c_3 h
      refine lv_iconst (v := (0 : Int32)) hx hb dX8_breaksRule_28 (by decide) ?_
      obtain rfl := Option.some.inj h
      exact hRet hP hD hS zb_0 dX8_breaksRule_29
    · have h := ifn c_3 h
      refine lv_iconst (v := (1 : Int32)) hx hb dX8_breaksRule_24 (by decide) ?_
      refine lv_goto (tgt := 29) hx hb dX8_breaksRule_25 (by decide) ?_
      obtain rfl := Option.some.inj h
      exact hRet hP hD hS zb_1 dX8_breaksRule_29
abbrev rm_X8_areSo : Room := { frames := 3, cells := 0, slots := 0, locals := 72 }
theorem hd_X8_areSo : yX8_areSo.cls = RX8 ∧ yX8_areSo.cls ≠ "java/lang/invoke/MethodHandle" ∧ yX8_areSo.cls ≠ "java/lang/invoke/VarHandle" ∧ (parseMethodDescriptor yX8_areSo.desc).map (fun d => d.parameters.length) = some 2 := by decide +kernel
set_option maxHeartbeats 4000000 in
set_option maxRecDepth 100000 in
theorem c_X8_areSo {l : Launch} {G : va_G} {ca : Nat → ClassId} {ev : Nat → Nat} {h0 h1 h2 h3 h4 h5 h6 h7 h8 h9 h10 h11 h12 h13 h14 h15 h16 h17 : Nat} {now : (Nat → Int32)} {kept : (Nat → Int32)} {isKept : Int32} {found : (Nat → Int32)} {order : (Nat → Int32)} {doubts : (Nat → Int32)} {doubtMany : Int32} {weights : (Nat → Int64)} {worn : (Nat → Int32)} {pairs : Int64} {isTwice : Int32} {doer : (Nat → Int32)} {doneTo : (Nat → Int32)} {doers : (Nat → Int64)} {tape : (Nat → Int32)} {taped : Int32} {begins : Int32} {ends : Int32} {sort : Int32} {value : Int32} {isWrong : Int32} {items : (Nat → Int32)} {itemMany : Int32} {bowThen : Int32} {doubtThen : Int32} {deedThen : Int32} {sayingThen : Int32} {widths : (Nat → Int32)} {sizes : (Nat → Int32)} {numbers : (Nat → Int64)} {moved : (Nat → Int64)} {a1 : Int32} {a2 : Int32} {N : Nat} {res : Int32 × (Nat → Int32) × Int64 × Int32} (h : f_X8_areSo N now order doubts doubtMany worn pairs isTwice a1 a2 = some res) : CtI l yX8_areSo wsX8_areSo rm_X8_areSo G ca ev [.ref h0, .int a1, .int a2] (wM ca ev h0 h1 h2 h3 h4 h5 h6 h7 h8 h9 h10 h11 h12 h13 h14 h15 h16 h17 now kept isKept found order doubts doubtMany weights worn pairs isTwice doer doneTo doers tape taped begins ends sort value isWrong items itemMany bowThen doubtThen deedThen sayingThen widths sizes numbers moved) (wM ca ev h0 h1 h2 h3 h4 h5 h6 h7 h8 h9 h10 h11 h12 h13 h14 h15 h16 h17 now kept isKept found order doubts doubtMany weights res.2.1 res.2.2.1 res.2.2.2 doer doneTo doers tape taped begins ends sort value isWrong items itemMany bowThen doubtThen deedThen sayingThen widths sizes numbers moved) res.1 := by
  unfold f_X8_areSo at h
  refine en_z (by decide) rfl (Nat.le_of_ble_eq_true rfl) ?_
  intro p e s m args below meth c A Q H locs ls hx hb hml hown hts hA hP hK hD hE hS hl hRet
  have hown : s.vm.findClass RX8 = some m.cls := hown
  have hl : lv_has ls 5 [(0, .ref h0), (1, .int a1), (2, .int a2)] := hl
  have hin_X8 : ∀ w ∈ u_ws RX8 TX8 32, w ∈ wsX8_areSo := fun w h9 => List.mem_cons_of_mem _ (List.mem_append_right _ h9)
  have fk_29 := hts (.fieldLink RX8 29 "MaskBowsModel" "worn" "[I") (by decide +kernel)
  refine lv_iconst (v := (1 : Int32)) hx hb dX8_areSo_0 (by decide) ?_
  refine lv_istore_n (lv' := [(3, .int (1 : Int32)), (0, .ref h0), (1, .int a1), (2, .int a2)]) hx hb dX8_areSo_1 rfl hl (by decide) rfl (fun ls hl => ?_)
  refine lv_iconst (v := (0 : Int32)) hx hb dX8_areSo_2 (by decide) ?_
  refine lv_istore (lv' := [(4, .int (0 : Int32)), (3, .int (1 : Int32)), (0, .ref h0), (1, .int a1), (2, .int a2)]) hx hb dX8_areSo_3 hl (by decide) rfl (fun ls hl => ?_)
  have L_5 : ∀ {x1_5 : Int32} {x2_5 : Int32} {now_5 : (Nat → Int32)} {order_5 : (Nat → Int32)} {doubts_5 : (Nat → Int32)} {doubtMany_5 : Int32} (n_5 : Nat) {x3_5 : Int32} {x4_5 : Int32} {worn_5 : (Nat → Int32)} {pairs_5 : Int64} {isTwice_5 : Int32} {uL_5 : Int32 × (Nat → Int32) × Int64 × Int32} {H : Heap} {locs : List Loc} {ls : Array Slot}, f_X8_areSo_5 N x1_5 x2_5 now_5 order_5 doubts_5 doubtMany_5  n_5 x3_5 x4_5 worn_5 pairs_5 isTwice_5 = some uL_5 → va_P G vwCl (wM ca ev h0 h1 h2 h3 h4 h5 h6 h7 h8 h9 h10 h11 h12 h13 h14 h15 h16 h17 now_5 kept isKept found order_5 doubts_5 doubtMany_5 weights worn_5 pairs_5 isTwice_5 doer doneTo doers tape taped begins ends sort value isWrong items itemMany bowThen doubtThen deedThen sayingThen widths sizes numbers moved) H → va_D A (wM ca ev h0 h1 h2 h3 h4 h5 h6 h7 h8 h9 h10 h11 h12 h13 h14 h15 h16 h17 now_5 kept isKept found order_5 doubts_5 doubtMany_5 weights worn_5 pairs_5 isTwice_5 doer doneTo doers tape taped begins ends sort value isWrong items itemMany bowThen doubtThen deedThen sayingThen widths sizes numbers moved) → va_S A s.heap H locs → lv_has ls 5 [(0, .ref h0), (1, .int x1_5), (2, .int x2_5), (3, .int x3_5), (4, .int x4_5)] → (∀ {H : Heap} {locs : List Loc} {ls : Array Slot}, va_P G vwCl (wM ca ev h0 h1 h2 h3 h4 h5 h6 h7 h8 h9 h10 h11 h12 h13 h14 h15 h16 h17 now_5 kept isKept found order_5 doubts_5 doubtMany_5 weights uL_5.2.1 uL_5.2.2.1 uL_5.2.2.2 doer doneTo doers tape taped begins ends sort value isWrong items itemMany bowThen doubtThen deedThen sayingThen widths sizes numbers moved) H → va_D A (wM ca ev h0 h1 h2 h3 h4 h5 h6 h7 h8 h9 h10 h11 h12 h13 h14 h15 h16 h17 now_5 kept isKept found order_5 doubts_5 doubtMany_5 weights uL_5.2.1 uL_5.2.2.1 uL_5.2.2.2 doer doneTo doers tape taped begins ends sort value isWrong items itemMany bowThen doubtThen deedThen sayingThen widths sizes numbers moved) → va_S A s.heap H locs → lv_has ls 5 [(3, .int uL_5.1)] → W p l e rm_X8_areSo s m args below meth c H locs 0 0 Q (F0 m 85 ls [])) → W p l e rm_X8_areSo s m args below meth c H locs 0 0 Q (F0 m 5 ls []) := by
    intro x1_5 x2_5 now_5 order_5 doubts_5 doubtMany_5 n_5
    induction n_5 with
    | zero => intro x3_5 x4_5 worn_5 pairs_5 isTwice_5 uL_5 H locs ls h; exact absurd h (by rw [f_X8_areSo_5]; exact fun z => nomatch z)
    | succ n_5 ih =>
      intro x3_5 x4_5 worn_5 pairs_5 isTwice_5 uL_5 H locs ls h hP hD hS hl JK_5
      rw [f_X8_areSo_5] at h
      refine lv_iload hx hb dX8_areSo_5 (lv_at hl 4 rfl) ?_
      refine lv_iload_n hx hb dX8_areSo_7 rfl (lv_at hl 2 rfl) ?_
      refine lv_icmp_ge (tgt := 85) hx hb dX8_areSo_8 (by decide) (fun c_1 => ?_) (fun c_1 => ?_)
      · have h := ifp c_1 h
        obtain rfl := Option.some.inj h
        exact JK_5 hP hD hS (lv_sub hl [3] rfl)
      · have h := ifn c_1 h
        refine lv_iload_n hx hb dX8_areSo_11 rfl (lv_at hl 3 rfl) ?_
        refine lv_if_eq (tgt := 85) hx hb dX8_areSo_12 (by decide) (fun c_2 => ?_) (fun c_2 => ?_)
        · have h := ifp c_2 h
          obtain rfl := Option.some.inj h
          exact JK_5 hP hD hS (lv_sub hl [3] rfl)
        · have h := ifn c_2 h
          refine lv_aload_n hx hb dX8_areSo_15 rfl (lv_at hl 0 rfl) ?_
          refine lv_iload_n hx hb dX8_areSo_16 rfl (lv_at hl 1 rfl) ?_
          refine lv_aload_n hx hb dX8_areSo_17 rfl (lv_at hl 0 rfl) ?_
          refine lv_iload hx hb dX8_areSo_18 (lv_at hl 4 rfl) ?_
          refine lv_iconst (v := (0 : Int32)) hx hb dX8_areSo_20 (by decide) ?_
          obtain ⟨u_3, e_3, h⟩ := bd_some h
          refine cm_Vi (As := [.int x4_5, .int (0 : Int32)]) (rest := [.int x1_5, .ref h0]) ⟨hx, hb, hml, hown, hts⟩ (c_X8_sayingIs (ca := ca) (ev := ev) (h0 := h0) (h1 := h1) (h2 := h2) (h3 := h3) (h4 := h4) (h5 := h5) (h6 := h6) (h7 := h7) (h8 := h8) (h9 := h9) (h10 := h10) (h11 := h11) (h12 := h12) (h13 := h13) (h14 := h14) (h15 := h15) (h16 := h16) (h17 := h17) (now := now_5) (kept := kept) (isKept := isKept) (found := found) (order := order_5) (doubts := doubts_5) (doubtMany := doubtMany_5) (weights := weights) (worn := worn_5) (pairs := pairs_5) (isTwice := isTwice_5) (doer := doer) (doneTo := doneTo) (doers := doers) (tape := tape) (taped := taped) (begins := begins) (ends := ends) (sort := sort) (value := value) (isWrong := isWrong) (items := items) (itemMany := itemMany) (bowThen := bowThen) (doubtThen := doubtThen) (deedThen := deedThen) (sayingThen := sayingThen) (widths := widths) (sizes := sizes) (numbers := numbers) (moved := moved) e_3) (cwV 2 hts gX8_areSo_X8_sayingIs rfl rfl rfl hd_X8_sayingIs ⟨Nat.le_of_ble_eq_true rfl, Nat.le_of_ble_eq_true rfl⟩) hK hP hD hS hA hE (q0 := 0) (ci := 8) rfl rfl rfl rfl hl.1 rfl (Nat.le_of_ble_eq_true rfl) dX8_areSo_21 ⟨Nat.zero_le _, Nat.zero_le _⟩ (fun H locs hP hD hS => ?_)
          obtain ⟨u_4, e_4, h⟩ := bd_some h
          refine cm_Vv (As := [.int x1_5, .int u_3]) (rest := []) ⟨hx, hb, hml, hown, hts⟩ (c_X8_goes (ca := ca) (ev := ev) (h0 := h0) (h1 := h1) (h2 := h2) (h3 := h3) (h4 := h4) (h5 := h5) (h6 := h6) (h7 := h7) (h8 := h8) (h9 := h9) (h10 := h10) (h11 := h11) (h12 := h12) (h13 := h13) (h14 := h14) (h15 := h15) (h16 := h16) (h17 := h17) (now := now_5) (kept := kept) (isKept := isKept) (found := found) (order := order_5) (doubts := doubts_5) (doubtMany := doubtMany_5) (weights := weights) (worn := worn_5) (pairs := pairs_5) (isTwice := isTwice_5) (doer := doer) (doneTo := doneTo) (doers := doers) (tape := tape) (taped := taped) (begins := begins) (ends := ends) (sort := sort) (value := value) (isWrong := isWrong) (items := items) (itemMany := itemMany) (bowThen := bowThen) (doubtThen := doubtThen) (deedThen := deedThen) (sayingThen := sayingThen) (widths := widths) (sizes := sizes) (numbers := numbers) (moved := moved) e_4) (cwV 2 hts gX8_areSo_X8_goes rfl rfl rfl hd_X8_goes ⟨Nat.le_of_ble_eq_true rfl, Nat.le_of_ble_eq_true rfl⟩) hK hP hD hS hA hE (q0 := 0) (ci := 8) rfl rfl rfl rfl hl.1 rfl (Nat.le_of_ble_eq_true rfl) dX8_areSo_24 ⟨Nat.zero_le _, Nat.zero_le _⟩ (fun H locs hP hD hS => ?_)
          refine lv_aload_n hx hb dX8_areSo_27 rfl (lv_at hl 0 rfl) ?_
          refine va_get (D := G) (ci := 8) (v := .ref h7) (C := RX8) (T := TX8) (N := 32) hx hb hts hin_X8 hown hK hP 0 rfl rfl 8 (by decide) fk_29 (fun _ h9 => h9) rfl dX8_areSo_28 ?_
          refine lv_aload_n hx hb dX8_areSo_31 rfl (lv_at hl 0 rfl) ?_
          refine lv_iload hx hb dX8_areSo_32 (lv_at hl 4 rfl) ?_
          refine lv_iconst (v := (1 : Int32)) hx hb dX8_areSo_34 (by decide) ?_
          obtain ⟨u_5, e_5, h⟩ := bd_some h
          refine cm_Vi (As := [.int x4_5, .int (1 : Int32)]) (rest := [.ref h7]) ⟨hx, hb, hml, hown, hts⟩ (c_X8_sayingIs (ca := ca) (ev := ev) (h0 := h0) (h1 := h1) (h2 := h2) (h3 := h3) (h4 := h4) (h5 := h5) (h6 := h6) (h7 := h7) (h8 := h8) (h9 := h9) (h10 := h10) (h11 := h11) (h12 := h12) (h13 := h13) (h14 := h14) (h15 := h15) (h16 := h16) (h17 := h17) (now := now_5) (kept := kept) (isKept := isKept) (found := found) (order := order_5) (doubts := doubts_5) (doubtMany := doubtMany_5) (weights := weights) (worn := u_4.1) (pairs := u_4.2.1) (isTwice := u_4.2.2) (doer := doer) (doneTo := doneTo) (doers := doers) (tape := tape) (taped := taped) (begins := begins) (ends := ends) (sort := sort) (value := value) (isWrong := isWrong) (items := items) (itemMany := itemMany) (bowThen := bowThen) (doubtThen := doubtThen) (deedThen := deedThen) (sayingThen := sayingThen) (widths := widths) (sizes := sizes) (numbers := numbers) (moved := moved) e_5) (cwV 2 hts gX8_areSo_X8_sayingIs rfl rfl rfl hd_X8_sayingIs ⟨Nat.le_of_ble_eq_true rfl, Nat.le_of_ble_eq_true rfl⟩) hK hP hD hS hA hE (q0 := 0) (ci := 8) rfl rfl rfl rfl hl.1 rfl (Nat.le_of_ble_eq_true rfl) dX8_areSo_35 ⟨Nat.zero_le _, Nat.zero_le _⟩ (fun H locs hP hD hS => ?_)
          obtain ⟨i_6, h⟩ := gd_some h
          refine va_iald hx hb hK hP 7 0 rfl rfl (ix_in i_6) dX8_areSo_38 ?_
          refine lv_aload_n hx hb dX8_areSo_39 rfl (lv_at hl 0 rfl) ?_
          refine lv_iload hx hb dX8_areSo_40 (lv_at hl 4 rfl) ?_
          refine lv_iconst (v := (2 : Int32)) hx hb dX8_areSo_42 (by decide) ?_
          obtain ⟨u_7, e_7, h⟩ := bd_some h
          refine cm_Vi (As := [.int x4_5, .int (2 : Int32)]) (rest := [.int (u_4.1 u_5.toNatClampNeg)]) ⟨hx, hb, hml, hown, hts⟩ (c_X8_sayingIs (ca := ca) (ev := ev) (h0 := h0) (h1 := h1) (h2 := h2) (h3 := h3) (h4 := h4) (h5 := h5) (h6 := h6) (h7 := h7) (h8 := h8) (h9 := h9) (h10 := h10) (h11 := h11) (h12 := h12) (h13 := h13) (h14 := h14) (h15 := h15) (h16 := h16) (h17 := h17) (now := now_5) (kept := kept) (isKept := isKept) (found := found) (order := order_5) (doubts := doubts_5) (doubtMany := doubtMany_5) (weights := weights) (worn := u_4.1) (pairs := u_4.2.1) (isTwice := u_4.2.2) (doer := doer) (doneTo := doneTo) (doers := doers) (tape := tape) (taped := taped) (begins := begins) (ends := ends) (sort := sort) (value := value) (isWrong := isWrong) (items := items) (itemMany := itemMany) (bowThen := bowThen) (doubtThen := doubtThen) (deedThen := deedThen) (sayingThen := sayingThen) (widths := widths) (sizes := sizes) (numbers := numbers) (moved := moved) e_7) (cwV 2 hts gX8_areSo_X8_sayingIs rfl rfl rfl hd_X8_sayingIs ⟨Nat.le_of_ble_eq_true rfl, Nat.le_of_ble_eq_true rfl⟩) hK hP hD hS hA hE (q0 := 0) (ci := 8) rfl rfl rfl rfl hl.1 rfl (Nat.le_of_ble_eq_true rfl) dX8_areSo_43 ⟨Nat.zero_le _, Nat.zero_le _⟩ (fun H locs hP hD hS => ?_)
          obtain ⟨u_8, e_8, h⟩ := bd_some h
          have J_8 : ∀ {H : Heap} {locs : List Loc} {ls : Array Slot}, va_P G vwCl (wM ca ev h0 h1 h2 h3 h4 h5 h6 h7 h8 h9 h10 h11 h12 h13 h14 h15 h16 h17 now_5 kept isKept found order_5 doubts_5 doubtMany_5 weights u_4.1 u_4.2.1 u_4.2.2 doer doneTo doers tape taped begins ends sort value isWrong items itemMany bowThen doubtThen deedThen sayingThen widths sizes numbers moved) H → va_D A (wM ca ev h0 h1 h2 h3 h4 h5 h6 h7 h8 h9 h10 h11 h12 h13 h14 h15 h16 h17 now_5 kept isKept found order_5 doubts_5 doubtMany_5 weights u_4.1 u_4.2.1 u_4.2.2 doer doneTo doers tape taped begins ends sort value isWrong items itemMany bowThen doubtThen deedThen sayingThen widths sizes numbers moved) → va_S A s.heap H locs → lv_has ls 5 [(0, .ref h0), (1, .int x1_5), (2, .int x2_5), (4, .int x4_5)] → (u_8 = 0 ∨ u_8 = 1) → W p l e rm_X8_areSo s m args below meth c H locs 0 0 Q (F0 m 54 ls [.int u_8]) := by
            intro H locs ls hP hD hS hl zj_8_0
            refine lv_aload_n hx hb dX8_areSo_54 rfl (lv_at hl 0 rfl) ?_
            refine lv_iload hx hb dX8_areSo_55 (lv_at hl 3 rfl) ?_
            refine lv_iconst (v := (3 : Int32)) hx hb dX8_areSo_57 (by decide) ?_
            obtain ⟨u_9, e_9, h⟩ := bd_some h
            refine cm_Vi (As := [.int x4_5, .int (3 : Int32)]) (rest := [.int u_8]) ⟨hx, hb, hml, hown, hts⟩ (c_X8_sayingIs (ca := ca) (ev := ev) (h0 := h0) (h1 := h1) (h2 := h2) (h3 := h3) (h4 := h4) (h5 := h5) (h6 := h6) (h7 := h7) (h8 := h8) (h9 := h9) (h10 := h10) (h11 := h11) (h12 := h12) (h13 := h13) (h14 := h14) (h15 := h15) (h16 := h16) (h17 := h17) (now := now_5) (kept := kept) (isKept := isKept) (found := found) (order := order_5) (doubts := doubts_5) (doubtMany := doubtMany_5) (weights := weights) (worn := u_4.1) (pairs := u_4.2.1) (isTwice := u_4.2.2) (doer := doer) (doneTo := doneTo) (doers := doers) (tape := tape) (taped := taped) (begins := begins) (ends := ends) (sort := sort) (value := value) (isWrong := isWrong) (items := items) (itemMany := itemMany) (bowThen := bowThen) (doubtThen := doubtThen) (deedThen := deedThen) (sayingThen := sayingThen) (widths := widths) (sizes := sizes) (numbers := numbers) (moved := moved) e_9) (cwV 2 hts gX8_areSo_X8_sayingIs rfl rfl rfl hd_X8_sayingIs ⟨Nat.le_of_ble_eq_true rfl, Nat.le_of_ble_eq_true rfl⟩) hK hP hD hS hA hE (q0 := 0) (ci := 8) rfl rfl rfl rfl hl.1 rfl (Nat.le_of_ble_eq_true rfl) dX8_areSo_58 ⟨Nat.zero_le _, Nat.zero_le _⟩ (fun H locs hP hD hS => ?_)
            refine lv_iconst (v := (1 : Int32)) hx hb dX8_areSo_61 (by decide) ?_
            obtain ⟨u_10, e_10, h⟩ := bd_some h
            have J_10 : ∀ {H : Heap} {locs : List Loc} {ls : Array Slot}, va_P G vwCl (wM ca ev h0 h1 h2 h3 h4 h5 h6 h7 h8 h9 h10 h11 h12 h13 h14 h15 h16 h17 now_5 kept isKept found order_5 doubts_5 doubtMany_5 weights u_4.1 u_4.2.1 u_4.2.2 doer doneTo doers tape taped begins ends sort value isWrong items itemMany bowThen doubtThen deedThen sayingThen widths sizes numbers moved) H → va_D A (wM ca ev h0 h1 h2 h3 h4 h5 h6 h7 h8 h9 h10 h11 h12 h13 h14 h15 h16 h17 now_5 kept isKept found order_5 doubts_5 doubtMany_5 weights u_4.1 u_4.2.1 u_4.2.2 doer doneTo doers tape taped begins ends sort value isWrong items itemMany bowThen doubtThen deedThen sayingThen widths sizes numbers moved) → va_S A s.heap H locs → lv_has ls 5 [(0, .ref h0), (1, .int x1_5), (2, .int x2_5), (4, .int x4_5)] → (u_10 = 0 ∨ u_10 = 1) → W p l e rm_X8_areSo s m args below meth c H locs 0 0 Q (F0 m 70 ls [.int u_10, .int u_8]) := by
              intro H locs ls hP hD hS hl zj_10_0
              obtain ⟨u_11, e_11, h⟩ := bd_some h
              have J_11 : ∀ {H : Heap} {locs : List Loc} {ls : Array Slot}, va_P G vwCl (wM ca ev h0 h1 h2 h3 h4 h5 h6 h7 h8 h9 h10 h11 h12 h13 h14 h15 h16 h17 now_5 kept isKept found order_5 doubts_5 doubtMany_5 weights u_4.1 u_4.2.1 u_4.2.2 doer doneTo doers tape taped begins ends sort value isWrong items itemMany bowThen doubtThen deedThen sayingThen widths sizes numbers moved) H → va_D A (wM ca ev h0 h1 h2 h3 h4 h5 h6 h7 h8 h9 h10 h11 h12 h13 h14 h15 h16 h17 now_5 kept isKept found order_5 doubts_5 doubtMany_5 weights u_4.1 u_4.2.1 u_4.2.2 doer doneTo doers tape taped begins ends sort value isWrong items itemMany bowThen doubtThen deedThen sayingThen widths sizes numbers moved) → va_S A s.heap H locs → lv_has ls 5 [(0, .ref h0), (1, .int x1_5), (2, .int x2_5), (4, .int x4_5)] → (u_11 = 0 ∨ u_11 = 1) → W p l e rm_X8_areSo s m args below meth c H locs 0 0 Q (F0 m 78 ls [.int u_11]) := by
                intro H locs ls hP hD hS hl zj_11_0
                refine lv_istore_n (lv' := [(3, .int u_11), (0, .ref h0), (1, .int x1_5), (2, .int x2_5), (4, .int x4_5)]) hx hb dX8_areSo_78 rfl hl (by decide) rfl (fun ls hl => ?_)
                refine lv_iinc (v := (x4_5 + (1 : Int32))) (lv' := [(4, .int (x4_5 + (1 : Int32))), (3, .int u_11), (0, .ref h0), (1, .int x1_5), (2, .int x2_5)]) hx hb dX8_areSo_79 hl (k := 4) rfl rfl (by decide) rfl (fun ls hl => ?_)
                refine lv_goto (tgt := 5) hx hb dX8_areSo_82 (by decide) ?_
                exact ih h hP hD hS (lv_sub hl [2, 3, 4, 1, 0] rfl) JK_5
              have h := e_11
              clear e_11
              refine lv_icmp_ne (tgt := 77) hx hb dX8_areSo_70 (by decide) (fun c_11 => ?_) (fun c_11 => ?_)
              · have h := ifn c_11 h
                refine lv_iconst (v := (0 : Int32)) hx hb dX8_areSo_77 (by decide) ?_
                obtain rfl := Option.some.inj h
                exact J_11 hP hD hS (lv_sub hl [0, 1, 2, 3] rfl) zb_0
              · have h := ifp c_11 h
                refine lv_iconst (v := (1 : Int32)) hx hb dX8_areSo_73 (by decide) ?_
                refine lv_goto (tgt := 78) hx hb dX8_areSo_74 (by decide) ?_
                obtain rfl := Option.some.inj h
                exact J_11 hP hD hS (lv_sub hl [0, 1, 2, 3] rfl) zb_1
            have h := e_10
            clear e_10
            refine lv_icmp_ne (tgt := 69) hx hb dX8_areSo_62 (by decide) (fun c_10 => ?_) (fun c_10 => ?_)
            · have h := ifn c_10 h
              refine lv_iconst (v := (0 : Int32)) hx hb dX8_areSo_69 (by decide) ?_
              obtain rfl := Option.some.inj h
              exact J_10 hP hD hS (lv_sub hl [0, 1, 2, 3] rfl) zb_0
            · have h := ifp c_10 h
              refine lv_iconst (v := (1 : Int32)) hx hb dX8_areSo_65 (by decide) ?_
              refine lv_goto (tgt := 70) hx hb dX8_areSo_66 (by decide) ?_
              obtain rfl := Option.some.inj h
              exact J_10 hP hD hS (lv_sub hl [0, 1, 2, 3] rfl) zb_1
          have h := e_8
          clear e_8
          refine lv_icmp_ne (tgt := 53) hx hb dX8_areSo_46 (by decide) (fun c_8 => ?_) (fun c_8 => ?_)
          · have h := ifn c_8 h
            refine lv_iconst (v := (0 : Int32)) hx hb dX8_areSo_53 (by decide) ?_
            obtain rfl := Option.some.inj h
            exact J_8 hP hD hS (lv_sub hl [0, 1, 2, 4] rfl) zb_0
          · have h := ifp c_8 h
            refine lv_iconst (v := (1 : Int32)) hx hb dX8_areSo_49 (by decide) ?_
            refine lv_goto (tgt := 54) hx hb dX8_areSo_50 (by decide) ?_
            obtain rfl := Option.some.inj h
            exact J_8 hP hD hS (lv_sub hl [0, 1, 2, 4] rfl) zb_1
  obtain ⟨u_12, e_12, h⟩ := bd_some h
  refine L_5 _ e_12 hP hD hS (lv_sub hl [2, 3, 4, 1, 0] rfl) ?_
  intro H locs ls hP hD hS hl
  refine lv_iload_n hx hb dX8_areSo_85 rfl (lv_at hl 0 rfl) ?_
  obtain ⟨z_13, h⟩ := gd_some h
  obtain rfl := Option.some.inj h
  exact hRet hP hD hS (isb_or z_13) dX8_areSo_86
abbrev rm_X8_weigh : Room := { frames := 4, cells := 0, slots := 0, locals := 96 }
theorem hd_X8_weigh : yX8_weigh.cls = RX8 ∧ yX8_weigh.cls ≠ "java/lang/invoke/MethodHandle" ∧ yX8_weigh.cls ≠ "java/lang/invoke/VarHandle" ∧ (parseMethodDescriptor yX8_weigh.desc).map (fun d => d.parameters.length) = some 0 := by decide +kernel
set_option maxHeartbeats 4000000 in
set_option maxRecDepth 100000 in
theorem c_X8_weigh {l : Launch} {G : va_G} {ca : Nat → ClassId} {ev : Nat → Nat} {h0 h1 h2 h3 h4 h5 h6 h7 h8 h9 h10 h11 h12 h13 h14 h15 h16 h17 : Nat} {now : (Nat → Int32)} {kept : (Nat → Int32)} {isKept : Int32} {found : (Nat → Int32)} {order : (Nat → Int32)} {doubts : (Nat → Int32)} {doubtMany : Int32} {weights : (Nat → Int64)} {worn : (Nat → Int32)} {pairs : Int64} {isTwice : Int32} {doer : (Nat → Int32)} {doneTo : (Nat → Int32)} {doers : (Nat → Int64)} {tape : (Nat → Int32)} {taped : Int32} {begins : Int32} {ends : Int32} {sort : Int32} {value : Int32} {isWrong : Int32} {items : (Nat → Int32)} {itemMany : Int32} {bowThen : Int32} {doubtThen : Int32} {deedThen : Int32} {sayingThen : Int32} {widths : (Nat → Int32)} {sizes : (Nat → Int32)} {numbers : (Nat → Int64)} {moved : (Nat → Int64)}  {N : Nat} {res : Int64 × (Nat → Int32) × (Nat → Int32) × Int32 × (Nat → Int64) × (Nat → Int32) × Int64 × Int32} (h : f_X8_weigh N now order doubts doubtMany weights worn pairs isTwice = some res) : CtL l yX8_weigh wsX8_weigh rm_X8_weigh G ca ev [.ref h0] (wM ca ev h0 h1 h2 h3 h4 h5 h6 h7 h8 h9 h10 h11 h12 h13 h14 h15 h16 h17 now kept isKept found order doubts doubtMany weights worn pairs isTwice doer doneTo doers tape taped begins ends sort value isWrong items itemMany bowThen doubtThen deedThen sayingThen widths sizes numbers moved) (wM ca ev h0 h1 h2 h3 h4 h5 h6 h7 h8 h9 h10 h11 h12 h13 h14 h15 h16 h17 now kept isKept found res.2.1 res.2.2.1 res.2.2.2.1 res.2.2.2.2.1 res.2.2.2.2.2.1 res.2.2.2.2.2.2.1 res.2.2.2.2.2.2.2 doer doneTo doers tape taped begins ends sort value isWrong items itemMany bowThen doubtThen deedThen sayingThen widths sizes numbers moved) res.1 := by
  unfold f_X8_weigh at h
  refine en_l (by decide) rfl (Nat.le_of_ble_eq_true rfl) ?_
  intro p e s m args below meth c A Q H locs ls hx hb hml hown hts hA hP hK hD hE hS hl hRet
  have hown : s.vm.findClass RX8 = some m.cls := hown
  have hl : lv_has ls 5 [(0, .ref h0)] := hl
  have hin_X8 : ∀ w ∈ u_ws RX8 TX8 32, w ∈ wsX8_weigh := fun w h9 => List.mem_cons_of_mem _ (List.mem_append_right _ h9)
  have fk_25 := hts (.fieldLink RX8 25 "MaskBowsModel" "weights" "[J") (by decide +kernel)
  have fk_9 := hts (.fieldLink RX8 9 "MaskBowsModel" "now" "[I") (by decide +kernel)
  refine lv_aload_n hx hb dX8_weigh_0 rfl (lv_at hl 0 rfl) ?_
  obtain ⟨u_1, e_1, h⟩ := bd_some h
  refine cm_Vv (As := []) (rest := []) ⟨hx, hb, hml, hown, hts⟩ (c_X8_lay (ca := ca) (ev := ev) (h0 := h0) (h1 := h1) (h2 := h2) (h3 := h3) (h4 := h4) (h5 := h5) (h6 := h6) (h7 := h7) (h8 := h8) (h9 := h9) (h10 := h10) (h11 := h11) (h12 := h12) (h13 := h13) (h14 := h14) (h15 := h15) (h16 := h16) (h17 := h17) (now := now) (kept := kept) (isKept := isKept) (found := found) (order := order) (doubts := doubts) (doubtMany := doubtMany) (weights := weights) (worn := worn) (pairs := pairs) (isTwice := isTwice) (doer := doer) (doneTo := doneTo) (doers := doers) (tape := tape) (taped := taped) (begins := begins) (ends := ends) (sort := sort) (value := value) (isWrong := isWrong) (items := items) (itemMany := itemMany) (bowThen := bowThen) (doubtThen := doubtThen) (deedThen := deedThen) (sayingThen := sayingThen) (widths := widths) (sizes := sizes) (numbers := numbers) (moved := moved) e_1) (cwV 0 hts gX8_weigh_X8_lay rfl rfl rfl hd_X8_lay ⟨Nat.le_of_ble_eq_true rfl, Nat.le_of_ble_eq_true rfl⟩) hK hP hD hS hA hE (q0 := 0) (ci := 8) rfl rfl rfl rfl hl.1 rfl (Nat.le_of_ble_eq_true rfl) dX8_weigh_1 ⟨Nat.zero_le _, Nat.zero_le _⟩ (fun H locs hP hD hS => ?_)
  refine lv_lconst (v := (0 : Int64)) hx hb dX8_weigh_4 (by decide) ?_
  refine lv_lstore_n (lv' := [(1, .long (0 : Int64)), (0, .ref h0)]) hx hb dX8_weigh_5 rfl hl (by decide) rfl (fun ls hl => ?_)
  refine lv_iconst (v := (0 : Int32)) hx hb dX8_weigh_6 (by decide) ?_
  refine lv_istore_n (lv' := [(3, .int (0 : Int32)), (1, .long (0 : Int64)), (0, .ref h0)]) hx hb dX8_weigh_7 rfl hl (by decide) rfl (fun ls hl => ?_)
  have L_8 : ∀  {now_8 : (Nat → Int32)} {order_8 : (Nat → Int32)} {doubts_8 : (Nat → Int32)} {doubtMany_8 : Int32} (n_8 : Nat) {x1_8 : Int64} {x3_8 : Int32} {weights_8 : (Nat → Int64)} {worn_8 : (Nat → Int32)} {pairs_8 : Int64} {isTwice_8 : Int32} {uL_8 : Int64 × (Nat → Int64) × (Nat → Int32) × Int64 × Int32} {H : Heap} {locs : List Loc} {ls : Array Slot}, f_X8_weigh_8 N now_8 order_8 doubts_8 doubtMany_8  n_8 x1_8 x3_8 weights_8 worn_8 pairs_8 isTwice_8 = some uL_8 → va_P G vwCl (wM ca ev h0 h1 h2 h3 h4 h5 h6 h7 h8 h9 h10 h11 h12 h13 h14 h15 h16 h17 now_8 kept isKept found order_8 doubts_8 doubtMany_8 weights_8 worn_8 pairs_8 isTwice_8 doer doneTo doers tape taped begins ends sort value isWrong items itemMany bowThen doubtThen deedThen sayingThen widths sizes numbers moved) H → va_D A (wM ca ev h0 h1 h2 h3 h4 h5 h6 h7 h8 h9 h10 h11 h12 h13 h14 h15 h16 h17 now_8 kept isKept found order_8 doubts_8 doubtMany_8 weights_8 worn_8 pairs_8 isTwice_8 doer doneTo doers tape taped begins ends sort value isWrong items itemMany bowThen doubtThen deedThen sayingThen widths sizes numbers moved) → va_S A s.heap H locs → lv_has ls 5 [(0, .ref h0), (1, .long x1_8), (3, .int x3_8)] → (∀ {H : Heap} {locs : List Loc} {ls : Array Slot}, va_P G vwCl (wM ca ev h0 h1 h2 h3 h4 h5 h6 h7 h8 h9 h10 h11 h12 h13 h14 h15 h16 h17 now_8 kept isKept found order_8 doubts_8 doubtMany_8 uL_8.2.1 uL_8.2.2.1 uL_8.2.2.2.1 uL_8.2.2.2.2 doer doneTo doers tape taped begins ends sort value isWrong items itemMany bowThen doubtThen deedThen sayingThen widths sizes numbers moved) H → va_D A (wM ca ev h0 h1 h2 h3 h4 h5 h6 h7 h8 h9 h10 h11 h12 h13 h14 h15 h16 h17 now_8 kept isKept found order_8 doubts_8 doubtMany_8 uL_8.2.1 uL_8.2.2.1 uL_8.2.2.2.1 uL_8.2.2.2.2 doer doneTo doers tape taped begins ends sort value isWrong items itemMany bowThen doubtThen deedThen sayingThen widths sizes numbers moved) → va_S A s.heap H locs → lv_has ls 5 [(1, .long uL_8.1)] → W p l e rm_X8_weigh s m args below meth c H locs 0 0 Q (F0 m 89 ls [])) → W p l e rm_X8_weigh s m args below meth c H locs 0 0 Q (F0 m 8 ls []) := by
    intro now_8 order_8 doubts_8 doubtMany_8 n_8
    induction n_8 with
    | zero => intro x1_8 x3_8 weights_8 worn_8 pairs_8 isTwice_8 uL_8 H locs ls h; exact absurd h (by rw [f_X8_weigh_8]; exact fun z => nomatch z)
    | succ n_8 ih =>
      intro x1_8 x3_8 weights_8 worn_8 pairs_8 isTwice_8 uL_8 H locs ls h hP hD hS hl JK_8
      rw [f_X8_weigh_8] at h
      refine lv_iload_n hx hb dX8_weigh_8 rfl (lv_at hl 2 rfl) ?_
      refine lv_aload_n hx hb dX8_weigh_9 rfl (lv_at hl 0 rfl) ?_
      obtain ⟨u_2, e_2, h⟩ := bd_some h
      refine cm_Vi (As := []) (rest := [.int x3_8]) ⟨hx, hb, hml, hown, hts⟩ (c_X8_nightsThere (ca := ca) (ev := ev) (h0 := h0) (h1 := h1) (h2 := h2) (h3 := h3) (h4 := h4) (h5 := h5) (h6 := h6) (h7 := h7) (h8 := h8) (h9 := h9) (h10 := h10) (h11 := h11) (h12 := h12) (h13 := h13) (h14 := h14) (h15 := h15) (h16 := h16) (h17 := h17) (now := now_8) (kept := kept) (isKept := isKept) (found := found) (order := order_8) (doubts := doubts_8) (doubtMany := doubtMany_8) (weights := weights_8) (worn := worn_8) (pairs := pairs_8) (isTwice := isTwice_8) (doer := doer) (doneTo := doneTo) (doers := doers) (tape := tape) (taped := taped) (begins := begins) (ends := ends) (sort := sort) (value := value) (isWrong := isWrong) (items := items) (itemMany := itemMany) (bowThen := bowThen) (doubtThen := doubtThen) (deedThen := deedThen) (sayingThen := sayingThen) (widths := widths) (sizes := sizes) (numbers := numbers) (moved := moved) e_2) (cwV 0 hts gX8_weigh_X8_nightsThere rfl rfl rfl hd_X8_nightsThere ⟨Nat.le_of_ble_eq_true rfl, Nat.le_of_ble_eq_true rfl⟩) hK hP hD hS hA hE (q0 := 0) (ci := 8) rfl rfl rfl rfl hl.1 rfl (Nat.le_of_ble_eq_true rfl) dX8_weigh_10 ⟨Nat.zero_le _, Nat.zero_le _⟩ (fun H locs hP hD hS => ?_)
      refine lv_icmp_ge (tgt := 89) hx hb dX8_weigh_13 (by decide) (fun c_3 => ?_) (fun c_3 => ?_)
      · have h := ifp c_3 h
        obtain rfl := Option.some.inj h
        exact JK_8 hP hD hS (lv_sub hl [1] rfl)
      · have h := ifn c_3 h
        refine lv_aload_n hx hb dX8_weigh_16 rfl (lv_at hl 0 rfl) ?_
        refine lv_iload_n hx hb dX8_weigh_17 rfl (lv_at hl 2 rfl) ?_
        obtain ⟨u_4, e_4, h⟩ := bd_some h
        refine cm_Vi (As := [.int x3_8]) (rest := []) ⟨hx, hb, hml, hown, hts⟩ (c_X8_breaksRule (ca := ca) (ev := ev) (h0 := h0) (h1 := h1) (h2 := h2) (h3 := h3) (h4 := h4) (h5 := h5) (h6 := h6) (h7 := h7) (h8 := h8) (h9 := h9) (h10 := h10) (h11 := h11) (h12 := h12) (h13 := h13) (h14 := h14) (h15 := h15) (h16 := h16) (h17 := h17) (now := now_8) (kept := kept) (isKept := isKept) (found := found) (order := order_8) (doubts := doubts_8) (doubtMany := doubtMany_8) (weights := weights_8) (worn := worn_8) (pairs := pairs_8) (isTwice := isTwice_8) (doer := doer) (doneTo := doneTo) (doers := doers) (tape := tape) (taped := taped) (begins := begins) (ends := ends) (sort := sort) (value := value) (isWrong := isWrong) (items := items) (itemMany := itemMany) (bowThen := bowThen) (doubtThen := doubtThen) (deedThen := deedThen) (sayingThen := sayingThen) (widths := widths) (sizes := sizes) (numbers := numbers) (moved := moved) e_4) (cwV 1 hts gX8_weigh_X8_breaksRule rfl rfl rfl hd_X8_breaksRule ⟨Nat.le_of_ble_eq_true rfl, Nat.le_of_ble_eq_true rfl⟩) hK hP hD hS hA hE (q0 := 0) (ci := 8) rfl rfl rfl rfl hl.1 rfl (Nat.le_of_ble_eq_true rfl) dX8_weigh_18 ⟨Nat.zero_le _, Nat.zero_le _⟩ (fun H locs hP hD hS => ?_)
        obtain ⟨u_5, e_5, h⟩ := bd_some h
        have J_5 : ∀ {H : Heap} {locs : List Loc} {ls : Array Slot}, va_P G vwCl (wM ca ev h0 h1 h2 h3 h4 h5 h6 h7 h8 h9 h10 h11 h12 h13 h14 h15 h16 h17 now_8 kept isKept found order_8 doubts_8 doubtMany_8 weights_8 u_5.2.1 u_5.2.2.1 u_5.2.2.2 doer doneTo doers tape taped begins ends sort value isWrong items itemMany bowThen doubtThen deedThen sayingThen widths sizes numbers moved) H → va_D A (wM ca ev h0 h1 h2 h3 h4 h5 h6 h7 h8 h9 h10 h11 h12 h13 h14 h15 h16 h17 now_8 kept isKept found order_8 doubts_8 doubtMany_8 weights_8 u_5.2.1 u_5.2.2.1 u_5.2.2.2 doer doneTo doers tape taped begins ends sort value isWrong items itemMany bowThen doubtThen deedThen sayingThen widths sizes numbers moved) → va_S A s.heap H locs → lv_has ls 5 [(0, .ref h0), (1, .long x1_8), (3, .int x3_8)] → (u_5.1 = 0 ∨ u_5.1 = 1) → W p l e rm_X8_weigh s m args below meth c H locs 0 0 Q (F0 m 52 ls [.int u_5.1]) := by
          intro H locs ls hP hD hS hl zj_5_0
          refine lv_istore (lv' := [(4, .int u_5.1), (0, .ref h0), (1, .long x1_8), (3, .int x3_8)]) hx hb dX8_weigh_52 hl (by decide) rfl (fun ls hl => ?_)
          refine lv_aload_n hx hb dX8_weigh_54 rfl (lv_at hl 1 rfl) ?_
          refine va_get (D := G) (ci := 8) (v := .ref h6) (C := RX8) (T := TX8) (N := 32) hx hb hts hin_X8 hown hK hP 0 rfl rfl 7 (by decide) fk_25 (fun _ h9 => h9) rfl dX8_weigh_55 ?_
          refine lv_iload_n hx hb dX8_weigh_58 rfl (lv_at hl 3 rfl) ?_
          refine lv_iload hx hb dX8_weigh_59 (lv_at hl 0 rfl) ?_
          obtain ⟨u_9, e_9, h⟩ := bd_some h
          have J_9 : ∀ {H : Heap} {locs : List Loc} {ls : Array Slot}, va_P G vwCl (wM ca ev h0 h1 h2 h3 h4 h5 h6 h7 h8 h9 h10 h11 h12 h13 h14 h15 h16 h17 now_8 kept isKept found order_8 doubts_8 doubtMany_8 weights_8 u_5.2.1 u_5.2.2.1 u_5.2.2.2 doer doneTo doers tape taped begins ends sort value isWrong items itemMany bowThen doubtThen deedThen sayingThen widths sizes numbers moved) H → va_D A (wM ca ev h0 h1 h2 h3 h4 h5 h6 h7 h8 h9 h10 h11 h12 h13 h14 h15 h16 h17 now_8 kept isKept found order_8 doubts_8 doubtMany_8 weights_8 u_5.2.1 u_5.2.2.1 u_5.2.2.2 doer doneTo doers tape taped begins ends sort value isWrong items itemMany bowThen doubtThen deedThen sayingThen widths sizes numbers moved) → va_S A s.heap H locs → lv_has ls 5 [(0, .ref h0), (1, .long x1_8), (3, .int x3_8)] → W p l e rm_X8_weigh s m args below meth c H locs 0 0 Q (F0 m 73 ls [.long u_9, .int x3_8, .ref h6]) := by
            intro H locs ls hP hD hS hl 
            obtain ⟨i_11, h⟩ := gd_some h
            refine va_last hx hb hK hP hD hS 6 1 rfl rfl (ix_in i_11) dX8_weigh_73 (fun H locs hP hD hS => ?_)
            have hP : va_P G vwCl (wM ca ev h0 h1 h2 h3 h4 h5 h6 h7 h8 h9 h10 h11 h12 h13 h14 h15 h16 h17 now_8 kept isKept found order_8 doubts_8 doubtMany_8 (vp_updL weights_8 x3_8.toNatClampNeg u_9) u_5.2.1 u_5.2.2.1 u_5.2.2.2 doer doneTo doers tape taped begins ends sort value isWrong items itemMany bowThen doubtThen deedThen sayingThen widths sizes numbers moved) H := hP
            have hD : va_D A (wM ca ev h0 h1 h2 h3 h4 h5 h6 h7 h8 h9 h10 h11 h12 h13 h14 h15 h16 h17 now_8 kept isKept found order_8 doubts_8 doubtMany_8 (vp_updL weights_8 x3_8.toNatClampNeg u_9) u_5.2.1 u_5.2.2.1 u_5.2.2.2 doer doneTo doers tape taped begins ends sort value isWrong items itemMany bowThen doubtThen deedThen sayingThen widths sizes numbers moved) := hD
            refine lv_lload_n hx hb dX8_weigh_74 rfl (lv_at hl 1 rfl) ?_
            refine lv_aload_n hx hb dX8_weigh_75 rfl (lv_at hl 0 rfl) ?_
            refine va_get (D := G) (ci := 8) (v := .ref h6) (C := RX8) (T := TX8) (N := 32) hx hb hts hin_X8 hown hK hP 0 rfl rfl 7 (by decide) fk_25 (fun _ h9 => h9) rfl dX8_weigh_76 ?_
            refine lv_iload_n hx hb dX8_weigh_79 rfl (lv_at hl 2 rfl) ?_
            refine va_lald hx hb hK hP 6 1 rfl rfl (ix_in i_11) dX8_weigh_80 ?_
            refine lv_ladd hx hb dX8_weigh_81 ?_
            refine lv_lstore_n (lv' := [(1, .long (x1_8 + ((vp_updL weights_8 x3_8.toNatClampNeg u_9) x3_8.toNatClampNeg))), (0, .ref h0), (3, .int x3_8)]) hx hb dX8_weigh_82 rfl hl (by decide) rfl (fun ls hl => ?_)
            refine lv_iinc (v := (x3_8 + (1 : Int32))) (lv' := [(3, .int (x3_8 + (1 : Int32))), (1, .long (x1_8 + ((vp_updL weights_8 x3_8.toNatClampNeg u_9) x3_8.toNatClampNeg))), (0, .ref h0)]) hx hb dX8_weigh_83 hl (k := 2) rfl rfl (by decide) rfl (fun ls hl => ?_)
            refine lv_goto (tgt := 8) hx hb dX8_weigh_86 (by decide) ?_
            exact ih h hP hD hS (lv_sub hl [2, 1, 0] rfl) JK_8
          have h := e_9
          clear e_9
          refine lv_if_eq (tgt := 72) hx hb dX8_weigh_61 (by decide) (fun c_9 => ?_) (fun c_9 => ?_)
          · have h := ifp c_9 h
            refine lv_lconst (v := (0 : Int64)) hx hb dX8_weigh_72 (by decide) ?_
            obtain rfl := Option.some.inj h
            exact J_9 hP hD hS (lv_sub hl [1, 2, 3] rfl)
          · have h := ifn c_9 h
            refine lv_aload_n hx hb dX8_weigh_64 rfl (lv_at hl 1 rfl) ?_
            refine lv_iload_n hx hb dX8_weigh_65 rfl (lv_at hl 3 rfl) ?_
            obtain ⟨u_10, e_10, h⟩ := bd_some h
            refine cm_Vl (As := [.int x3_8]) (rest := [.int x3_8, .ref h6]) ⟨hx, hb, hml, hown, hts⟩ (c_X8_weightOf (ca := ca) (ev := ev) (h0 := h0) (h1 := h1) (h2 := h2) (h3 := h3) (h4 := h4) (h5 := h5) (h6 := h6) (h7 := h7) (h8 := h8) (h9 := h9) (h10 := h10) (h11 := h11) (h12 := h12) (h13 := h13) (h14 := h14) (h15 := h15) (h16 := h16) (h17 := h17) (now := now_8) (kept := kept) (isKept := isKept) (found := found) (order := order_8) (doubts := doubts_8) (doubtMany := doubtMany_8) (weights := weights_8) (worn := u_5.2.1) (pairs := u_5.2.2.1) (isTwice := u_5.2.2.2) (doer := doer) (doneTo := doneTo) (doers := doers) (tape := tape) (taped := taped) (begins := begins) (ends := ends) (sort := sort) (value := value) (isWrong := isWrong) (items := items) (itemMany := itemMany) (bowThen := bowThen) (doubtThen := doubtThen) (deedThen := deedThen) (sayingThen := sayingThen) (widths := widths) (sizes := sizes) (numbers := numbers) (moved := moved) e_10) (cwV 1 hts gX8_weigh_X8_weightOf rfl rfl rfl hd_X8_weightOf ⟨Nat.le_of_ble_eq_true rfl, Nat.le_of_ble_eq_true rfl⟩) hK hP hD hS hA hE (q0 := 0) (ci := 8) rfl rfl rfl rfl hl.1 rfl (Nat.le_of_ble_eq_true rfl) dX8_weigh_66 ⟨Nat.zero_le _, Nat.zero_le _⟩ (fun H locs hP hD hS => ?_)
            refine lv_goto (tgt := 73) hx hb dX8_weigh_69 (by decide) ?_
            obtain rfl := Option.some.inj h
            exact J_9 hP hD hS (lv_sub hl [1, 2, 3] rfl)
        have h := e_5
        clear e_5
        refine lv_if_ne (tgt := 51) hx hb dX8_weigh_21 (by decide) (fun c_5 => ?_) (fun c_5 => ?_)
        · have h := ifn c_5 h
          refine lv_iconst (v := (0 : Int32)) hx hb dX8_weigh_51 (by decide) ?_
          obtain rfl := Option.some.inj h
          exact J_5 hP hD hS (lv_sub hl [0, 1, 2] rfl) zb_0
        · have h := ifp c_5 h
          refine lv_aload_n hx hb dX8_weigh_24 rfl (lv_at hl 0 rfl) ?_
          refine va_get (D := G) (ci := 8) (v := .ref h1) (C := RX8) (T := TX8) (N := 32) hx hb hts hin_X8 hown hK hP 0 rfl rfl 0 (by decide) fk_9 (fun _ h9 => h9) rfl dX8_weigh_25 ?_
          refine lv_iconst (v := (2 : Int32)) hx hb dX8_weigh_28 (by decide) ?_
          refine va_iald hx hb hK hP 1 0 rfl rfl (ix_in (by decide)) dX8_weigh_29 ?_
          refine lv_if_eq (tgt := 47) hx hb dX8_weigh_30 (by decide) (fun c_6 => ?_) (fun c_6 => ?_)
          · have h := ifp c_6 h
            refine lv_iconst (v := (1 : Int32)) hx hb dX8_weigh_47 (by decide) ?_
            refine lv_goto (tgt := 52) hx hb dX8_weigh_48 (by decide) ?_
            obtain rfl := Option.some.inj h
            exact J_5 hP hD hS (lv_sub hl [0, 1, 2] rfl) zb_1
          · have h := ifn c_6 h
            refine lv_aload_n hx hb dX8_weigh_33 rfl (lv_at hl 0 rfl) ?_
            refine lv_iload_n hx hb dX8_weigh_34 rfl (lv_at hl 2 rfl) ?_
            refine lv_aload_n hx hb dX8_weigh_35 rfl (lv_at hl 0 rfl) ?_
            refine va_get (D := G) (ci := 8) (v := .ref h1) (C := RX8) (T := TX8) (N := 32) hx hb hts hin_X8 hown hK hP 0 rfl rfl 0 (by decide) fk_9 (fun _ h9 => h9) rfl dX8_weigh_36 ?_
            refine lv_iconst (v := (5 : Int32)) hx hb dX8_weigh_39 (by decide) ?_
            refine va_iald hx hb hK hP 1 0 rfl rfl (ix_in (by decide)) dX8_weigh_40 ?_
            obtain ⟨u_7, e_7, h⟩ := bd_some h
            refine cm_Vi (As := [.int x3_8, .int (now_8 (5 : Int32).toNatClampNeg)]) (rest := []) ⟨hx, hb, hml, hown, hts⟩ (c_X8_areSo (ca := ca) (ev := ev) (h0 := h0) (h1 := h1) (h2 := h2) (h3 := h3) (h4 := h4) (h5 := h5) (h6 := h6) (h7 := h7) (h8 := h8) (h9 := h9) (h10 := h10) (h11 := h11) (h12 := h12) (h13 := h13) (h14 := h14) (h15 := h15) (h16 := h16) (h17 := h17) (now := now_8) (kept := kept) (isKept := isKept) (found := found) (order := order_8) (doubts := doubts_8) (doubtMany := doubtMany_8) (weights := weights_8) (worn := u_4.2.1) (pairs := u_4.2.2.1) (isTwice := u_4.2.2.2) (doer := doer) (doneTo := doneTo) (doers := doers) (tape := tape) (taped := taped) (begins := begins) (ends := ends) (sort := sort) (value := value) (isWrong := isWrong) (items := items) (itemMany := itemMany) (bowThen := bowThen) (doubtThen := doubtThen) (deedThen := deedThen) (sayingThen := sayingThen) (widths := widths) (sizes := sizes) (numbers := numbers) (moved := moved) e_7) (cwV 2 hts gX8_weigh_X8_areSo rfl rfl rfl hd_X8_areSo ⟨Nat.le_of_ble_eq_true rfl, Nat.le_of_ble_eq_true rfl⟩) hK hP hD hS hA hE (q0 := 0) (ci := 8) rfl rfl rfl rfl hl.1 rfl (Nat.le_of_ble_eq_true rfl) dX8_weigh_41 ⟨Nat.zero_le _, Nat.zero_le _⟩ (fun H locs hP hD hS => ?_)
            refine lv_if_eq (tgt := 51) hx hb dX8_weigh_44 (by decide) (fun c_8 => ?_) (fun c_8 => ?_)
            · have h := ifp c_8 h
              refine lv_iconst (v := (0 : Int32)) hx hb dX8_weigh_51 (by decide) ?_
              obtain rfl := Option.some.inj h
              exact J_5 hP hD hS (lv_sub hl [0, 1, 2] rfl) zb_0
            · have h := ifn c_8 h
              refine lv_iconst (v := (1 : Int32)) hx hb dX8_weigh_47 (by decide) ?_
              refine lv_goto (tgt := 52) hx hb dX8_weigh_48 (by decide) ?_
              obtain rfl := Option.some.inj h
              exact J_5 hP hD hS (lv_sub hl [0, 1, 2] rfl) zb_1
  obtain ⟨u_12, e_12, h⟩ := bd_some h
  refine L_8 _ e_12 hP hD hS (lv_sub hl [2, 1, 0] rfl) ?_
  intro H locs ls hP hD hS hl
  refine lv_lload_n hx hb dX8_weigh_89 rfl (lv_at hl 0 rfl) ?_
  obtain rfl := Option.some.inj h
  exact hRet hP hD hS dX8_weigh_90
abbrev rm_X8_nights : Room := { frames := 5, cells := 0, slots := 0, locals := 120 }
theorem hd_X8_nights : yX8_nights.cls = RX8 ∧ yX8_nights.cls ≠ "java/lang/invoke/MethodHandle" ∧ yX8_nights.cls ≠ "java/lang/invoke/VarHandle" ∧ (parseMethodDescriptor yX8_nights.desc).map (fun d => d.parameters.length) = some 0 := by decide +kernel
set_option maxHeartbeats 4000000 in
set_option maxRecDepth 100000 in
theorem c_X8_nights {l : Launch} {G : va_G} {ca : Nat → ClassId} {ev : Nat → Nat} {h0 h1 h2 h3 h4 h5 h6 h7 h8 h9 h10 h11 h12 h13 h14 h15 h16 h17 : Nat} {now : (Nat → Int32)} {kept : (Nat → Int32)} {isKept : Int32} {found : (Nat → Int32)} {order : (Nat → Int32)} {doubts : (Nat → Int32)} {doubtMany : Int32} {weights : (Nat → Int64)} {worn : (Nat → Int32)} {pairs : Int64} {isTwice : Int32} {doer : (Nat → Int32)} {doneTo : (Nat → Int32)} {doers : (Nat → Int64)} {tape : (Nat → Int32)} {taped : Int32} {begins : Int32} {ends : Int32} {sort : Int32} {value : Int32} {isWrong : Int32} {items : (Nat → Int32)} {itemMany : Int32} {bowThen : Int32} {doubtThen : Int32} {deedThen : Int32} {sayingThen : Int32} {widths : (Nat → Int32)} {sizes : (Nat → Int32)} {numbers : (Nat → Int64)} {moved : (Nat → Int64)}  {N : Nat} {res : Int32 × (Nat → Int32) × (Nat → Int32) × Int32 × (Nat → Int64) × (Nat → Int32) × Int64 × Int32} (h : f_X8_nights N now order doubts doubtMany weights worn pairs isTwice = some res) : CtI l yX8_nights wsX8_nights rm_X8_nights G ca ev [.ref h0] (wM ca ev h0 h1 h2 h3 h4 h5 h6 h7 h8 h9 h10 h11 h12 h13 h14 h15 h16 h17 now kept isKept found order doubts doubtMany weights worn pairs isTwice doer doneTo doers tape taped begins ends sort value isWrong items itemMany bowThen doubtThen deedThen sayingThen widths sizes numbers moved) (wM ca ev h0 h1 h2 h3 h4 h5 h6 h7 h8 h9 h10 h11 h12 h13 h14 h15 h16 h17 now kept isKept found res.2.1 res.2.2.1 res.2.2.2.1 res.2.2.2.2.1 res.2.2.2.2.2.1 res.2.2.2.2.2.2.1 res.2.2.2.2.2.2.2 doer doneTo doers tape taped begins ends sort value isWrong items itemMany bowThen doubtThen deedThen sayingThen widths sizes numbers moved) res.1 := by
  unfold f_X8_nights at h
  refine en_i (by decide) rfl (Nat.le_of_ble_eq_true rfl) ?_
  intro p e s m args below meth c A Q H locs ls hx hb hml hown hts hA hP hK hD hE hS hl hRet
  have hown : s.vm.findClass RX8 = some m.cls := hown
  have hl : lv_has ls 3 [(0, .ref h0)] := hl
  have hin_X8 : ∀ w ∈ u_ws RX8 TX8 32, w ∈ wsX8_nights := fun w h9 => List.mem_cons_of_mem _ (List.mem_append_right _ h9)
  have fk_25 := hts (.fieldLink RX8 25 "MaskBowsModel" "weights" "[J") (by decide +kernel)
  refine lv_aload_n hx hb dX8_nights_0 rfl (lv_at hl 0 rfl) ?_
  obtain ⟨u_1, e_1, h⟩ := bd_some h
  refine cm_Vl (As := []) (rest := []) ⟨hx, hb, hml, hown, hts⟩ (c_X8_weigh (ca := ca) (ev := ev) (h0 := h0) (h1 := h1) (h2 := h2) (h3 := h3) (h4 := h4) (h5 := h5) (h6 := h6) (h7 := h7) (h8 := h8) (h9 := h9) (h10 := h10) (h11 := h11) (h12 := h12) (h13 := h13) (h14 := h14) (h15 := h15) (h16 := h16) (h17 := h17) (now := now) (kept := kept) (isKept := isKept) (found := found) (order := order) (doubts := doubts) (doubtMany := doubtMany) (weights := weights) (worn := worn) (pairs := pairs) (isTwice := isTwice) (doer := doer) (doneTo := doneTo) (doers := doers) (tape := tape) (taped := taped) (begins := begins) (ends := ends) (sort := sort) (value := value) (isWrong := isWrong) (items := items) (itemMany := itemMany) (bowThen := bowThen) (doubtThen := doubtThen) (deedThen := deedThen) (sayingThen := sayingThen) (widths := widths) (sizes := sizes) (numbers := numbers) (moved := moved) e_1) (cwV 0 hts gX8_nights_X8_weigh rfl rfl rfl hd_X8_weigh ⟨Nat.le_of_ble_eq_true rfl, Nat.le_of_ble_eq_true rfl⟩) hK hP hD hS hA hE (q0 := 0) (ci := 8) rfl rfl rfl rfl hl.1 rfl (Nat.le_of_ble_eq_true rfl) dX8_nights_1 ⟨Nat.zero_le _, Nat.zero_le _⟩ (fun H locs hP hD hS => ?_)
  refine lv_pop2_2 hx hb dX8_nights_4 rfl ?_
  refine lv_iconst (v := (0 : Int32)) hx hb dX8_nights_5 (by decide) ?_
  refine lv_istore_n (lv' := [(1, .int (0 : Int32)), (0, .ref h0)]) hx hb dX8_nights_6 rfl hl (by decide) rfl (fun ls hl => ?_)
  refine lv_iconst (v := (0 : Int32)) hx hb dX8_nights_7 (by decide) ?_
  refine lv_istore_n (lv' := [(2, .int (0 : Int32)), (1, .int (0 : Int32)), (0, .ref h0)]) hx hb dX8_nights_8 rfl hl (by decide) rfl (fun ls hl => ?_)
  have L_9 : ∀  {doubtMany_9 : Int32} {weights_9 : (Nat → Int64)} (n_9 : Nat) {x1_9 : Int32} {x2_9 : Int32} {uL_9 : Int32} {H : Heap} {locs : List Loc} {ls : Array Slot}, f_X8_nights_9 doubtMany_9 weights_9  n_9 x1_9 x2_9 = some uL_9 → va_P G vwCl (wM ca ev h0 h1 h2 h3 h4 h5 h6 h7 h8 h9 h10 h11 h12 h13 h14 h15 h16 h17 now kept isKept found u_1.2.1 u_1.2.2.1 doubtMany_9 weights_9 u_1.2.2.2.2.2.1 u_1.2.2.2.2.2.2.1 u_1.2.2.2.2.2.2.2 doer doneTo doers tape taped begins ends sort value isWrong items itemMany bowThen doubtThen deedThen sayingThen widths sizes numbers moved) H → va_D A (wM ca ev h0 h1 h2 h3 h4 h5 h6 h7 h8 h9 h10 h11 h12 h13 h14 h15 h16 h17 now kept isKept found u_1.2.1 u_1.2.2.1 doubtMany_9 weights_9 u_1.2.2.2.2.2.1 u_1.2.2.2.2.2.2.1 u_1.2.2.2.2.2.2.2 doer doneTo doers tape taped begins ends sort value isWrong items itemMany bowThen doubtThen deedThen sayingThen widths sizes numbers moved) → va_S A s.heap H locs → lv_has ls 3 [(0, .ref h0), (1, .int x1_9), (2, .int x2_9)] → (∀ {H : Heap} {locs : List Loc} {ls : Array Slot}, va_P G vwCl (wM ca ev h0 h1 h2 h3 h4 h5 h6 h7 h8 h9 h10 h11 h12 h13 h14 h15 h16 h17 now kept isKept found u_1.2.1 u_1.2.2.1 doubtMany_9 weights_9 u_1.2.2.2.2.2.1 u_1.2.2.2.2.2.2.1 u_1.2.2.2.2.2.2.2 doer doneTo doers tape taped begins ends sort value isWrong items itemMany bowThen doubtThen deedThen sayingThen widths sizes numbers moved) H → va_D A (wM ca ev h0 h1 h2 h3 h4 h5 h6 h7 h8 h9 h10 h11 h12 h13 h14 h15 h16 h17 now kept isKept found u_1.2.1 u_1.2.2.1 doubtMany_9 weights_9 u_1.2.2.2.2.2.1 u_1.2.2.2.2.2.2.1 u_1.2.2.2.2.2.2.2 doer doneTo doers tape taped begins ends sort value isWrong items itemMany bowThen doubtThen deedThen sayingThen widths sizes numbers moved) → va_S A s.heap H locs → lv_has ls 3 [(1, .int uL_9)] → W p l e rm_X8_nights s m args below meth c H locs 0 0 Q (F0 m 42 ls [])) → W p l e rm_X8_nights s m args below meth c H locs 0 0 Q (F0 m 9 ls []) := by
    intro doubtMany_9 weights_9 n_9
    induction n_9 with
    | zero => intro x1_9 x2_9 uL_9 H locs ls h; exact absurd h (by rw [f_X8_nights_9]; exact fun z => nomatch z)
    | succ n_9 ih =>
      intro x1_9 x2_9 uL_9 H locs ls h hP hD hS hl JK_9
      rw [f_X8_nights_9] at h
      refine lv_iload_n hx hb dX8_nights_9 rfl (lv_at hl 2 rfl) ?_
      refine lv_aload_n hx hb dX8_nights_10 rfl (lv_at hl 0 rfl) ?_
      obtain ⟨u_2, e_2, h⟩ := bd_some h
      refine cm_Vi (As := []) (rest := [.int x2_9]) ⟨hx, hb, hml, hown, hts⟩ (c_X8_nightsThere (ca := ca) (ev := ev) (h0 := h0) (h1 := h1) (h2 := h2) (h3 := h3) (h4 := h4) (h5 := h5) (h6 := h6) (h7 := h7) (h8 := h8) (h9 := h9) (h10 := h10) (h11 := h11) (h12 := h12) (h13 := h13) (h14 := h14) (h15 := h15) (h16 := h16) (h17 := h17) (now := now) (kept := kept) (isKept := isKept) (found := found) (order := u_1.2.1) (doubts := u_1.2.2.1) (doubtMany := doubtMany_9) (weights := weights_9) (worn := u_1.2.2.2.2.2.1) (pairs := u_1.2.2.2.2.2.2.1) (isTwice := u_1.2.2.2.2.2.2.2) (doer := doer) (doneTo := doneTo) (doers := doers) (tape := tape) (taped := taped) (begins := begins) (ends := ends) (sort := sort) (value := value) (isWrong := isWrong) (items := items) (itemMany := itemMany) (bowThen := bowThen) (doubtThen := doubtThen) (deedThen := deedThen) (sayingThen := sayingThen) (widths := widths) (sizes := sizes) (numbers := numbers) (moved := moved) e_2) (cwV 0 hts gX8_nights_X8_nightsThere rfl rfl rfl hd_X8_nightsThere ⟨Nat.le_of_ble_eq_true rfl, Nat.le_of_ble_eq_true rfl⟩) hK hP hD hS hA hE (q0 := 0) (ci := 8) rfl rfl rfl rfl hl.1 rfl (Nat.le_of_ble_eq_true rfl) dX8_nights_11 ⟨Nat.zero_le _, Nat.zero_le _⟩ (fun H locs hP hD hS => ?_)
      refine lv_icmp_ge (tgt := 42) hx hb dX8_nights_14 (by decide) (fun c_3 => ?_) (fun c_3 => ?_)
      · have h := ifp c_3 h
        obtain rfl := Option.some.inj h
        exact JK_9 hP hD hS (lv_sub hl [1] rfl)
      · have h := ifn c_3 h
        refine lv_iload_n hx hb dX8_nights_17 rfl (lv_at hl 1 rfl) ?_
        refine lv_aload_n hx hb dX8_nights_18 rfl (lv_at hl 0 rfl) ?_
        refine va_get (D := G) (ci := 8) (v := .ref h6) (C := RX8) (T := TX8) (N := 32) hx hb hts hin_X8 hown hK hP 0 rfl rfl 7 (by decide) fk_25 (fun _ h9 => h9) rfl dX8_nights_19 ?_
        refine lv_iload_n hx hb dX8_nights_22 rfl (lv_at hl 2 rfl) ?_
        obtain ⟨i_4, h⟩ := gd_some h
        refine va_lald hx hb hK hP 6 1 rfl rfl (ix_in i_4) dX8_nights_23 ?_
        refine lv_lconst (v := (0 : Int64)) hx hb dX8_nights_24 (by decide) ?_
        refine W.lcmp hx hb dX8_nights_25 ?_
        obtain ⟨u_5, e_5, h⟩ := bd_some h
        have J_5 : ∀ {H : Heap} {locs : List Loc} {ls : Array Slot}, va_P G vwCl (wM ca ev h0 h1 h2 h3 h4 h5 h6 h7 h8 h9 h10 h11 h12 h13 h14 h15 h16 h17 now kept isKept found u_1.2.1 u_1.2.2.1 doubtMany_9 weights_9 u_1.2.2.2.2.2.1 u_1.2.2.2.2.2.2.1 u_1.2.2.2.2.2.2.2 doer doneTo doers tape taped begins ends sort value isWrong items itemMany bowThen doubtThen deedThen sayingThen widths sizes numbers moved) H → va_D A (wM ca ev h0 h1 h2 h3 h4 h5 h6 h7 h8 h9 h10 h11 h12 h13 h14 h15 h16 h17 now kept isKept found u_1.2.1 u_1.2.2.1 doubtMany_9 weights_9 u_1.2.2.2.2.2.1 u_1.2.2.2.2.2.2.1 u_1.2.2.2.2.2.2.2 doer doneTo doers tape taped begins ends sort value isWrong items itemMany bowThen doubtThen deedThen sayingThen widths sizes numbers moved) → va_S A s.heap H locs → lv_has ls 3 [(0, .ref h0), (2, .int x2_9)] → (u_5 = 0 ∨ u_5 = 1) → W p l e rm_X8_nights s m args below meth c H locs 0 0 Q (F0 m 34 ls [.int u_5, .int x1_9]) := by
          intro H locs ls hP hD hS hl zj_5_0
          refine lv_iadd hx hb dX8_nights_34 ?_
          refine lv_istore_n (lv' := [(1, .int (x1_9 + u_5)), (0, .ref h0), (2, .int x2_9)]) hx hb dX8_nights_35 rfl hl (by decide) rfl (fun ls hl => ?_)
          refine lv_iinc (v := (x2_9 + (1 : Int32))) (lv' := [(2, .int (x2_9 + (1 : Int32))), (1, .int (x1_9 + u_5)), (0, .ref h0)]) hx hb dX8_nights_36 hl (k := 2) rfl rfl (by decide) rfl (fun ls hl => ?_)
          refine lv_goto (tgt := 9) hx hb dX8_nights_39 (by decide) ?_
          exact ih h hP hD hS (lv_sub hl [2, 1, 0] rfl) JK_9
        have h := e_5
        clear e_5
        refine lv_if_le (tgt := 33) hx hb dX8_nights_26 (by decide) (fun c_5 => ?_) (fun c_5 => ?_)
        · have h := ifp c_5 h
          refine lv_iconst (v := (0 : Int32)) hx hb dX8_nights_33 (by decide) ?_
          obtain rfl := Option.some.inj h
          exact J_5 hP hD hS (lv_sub hl [0, 2] rfl) zb_0
        · have h := ifn c_5 h
          refine lv_iconst (v := (1 : Int32)) hx hb dX8_nights_29 (by decide) ?_
          refine lv_goto (tgt := 34) hx hb dX8_nights_30 (by decide) ?_
          obtain rfl := Option.some.inj h
          exact J_5 hP hD hS (lv_sub hl [0, 2] rfl) zb_1
  obtain ⟨u_6, e_6, h⟩ := bd_some h
  refine L_9 _ e_6 hP hD hS (lv_sub hl [2, 1, 0] rfl) ?_
  intro H locs ls hP hD hS hl
  refine lv_iload_n hx hb dX8_nights_42 rfl (lv_at hl 0 rfl) ?_
  obtain rfl := Option.some.inj h
  exact hRet hP hD hS dX8_nights_43
abbrev rm_X8_all : Room := { frames := 5, cells := 0, slots := 0, locals := 120 }
theorem hd_X8_all : yX8_all.cls = RX8 ∧ yX8_all.cls ≠ "java/lang/invoke/MethodHandle" ∧ yX8_all.cls ≠ "java/lang/invoke/VarHandle" ∧ (parseMethodDescriptor yX8_all.desc).map (fun d => d.parameters.length) = some 0 := by decide +kernel
set_option maxHeartbeats 4000000 in
set_option maxRecDepth 100000 in
theorem c_X8_all {l : Launch} {G : va_G} {ca : Nat → ClassId} {ev : Nat → Nat} {h0 h1 h2 h3 h4 h5 h6 h7 h8 h9 h10 h11 h12 h13 h14 h15 h16 h17 : Nat} {now : (Nat → Int32)} {kept : (Nat → Int32)} {isKept : Int32} {found : (Nat → Int32)} {order : (Nat → Int32)} {doubts : (Nat → Int32)} {doubtMany : Int32} {weights : (Nat → Int64)} {worn : (Nat → Int32)} {pairs : Int64} {isTwice : Int32} {doer : (Nat → Int32)} {doneTo : (Nat → Int32)} {doers : (Nat → Int64)} {tape : (Nat → Int32)} {taped : Int32} {begins : Int32} {ends : Int32} {sort : Int32} {value : Int32} {isWrong : Int32} {items : (Nat → Int32)} {itemMany : Int32} {bowThen : Int32} {doubtThen : Int32} {deedThen : Int32} {sayingThen : Int32} {widths : (Nat → Int32)} {sizes : (Nat → Int32)} {numbers : (Nat → Int64)} {moved : (Nat → Int64)}  {N : Nat} {res : Int64 × (Nat → Int32) × (Nat → Int32) × Int32 × (Nat → Int64) × (Nat → Int32) × Int64 × Int32} (h : f_X8_all N now order doubts doubtMany weights worn pairs isTwice = some res) : CtL l yX8_all wsX8_all rm_X8_all G ca ev [.ref h0] (wM ca ev h0 h1 h2 h3 h4 h5 h6 h7 h8 h9 h10 h11 h12 h13 h14 h15 h16 h17 now kept isKept found order doubts doubtMany weights worn pairs isTwice doer doneTo doers tape taped begins ends sort value isWrong items itemMany bowThen doubtThen deedThen sayingThen widths sizes numbers moved) (wM ca ev h0 h1 h2 h3 h4 h5 h6 h7 h8 h9 h10 h11 h12 h13 h14 h15 h16 h17 now kept isKept found res.2.1 res.2.2.1 res.2.2.2.1 res.2.2.2.2.1 res.2.2.2.2.2.1 res.2.2.2.2.2.2.1 res.2.2.2.2.2.2.2 doer doneTo doers tape taped begins ends sort value isWrong items itemMany bowThen doubtThen deedThen sayingThen widths sizes numbers moved) res.1 := by
  unfold f_X8_all at h
  refine en_l (by decide) rfl (Nat.le_of_ble_eq_true rfl) ?_
  intro p e s m args below meth c A Q H locs ls hx hb hml hown hts hA hP hK hD hE hS hl hRet
  have hown : s.vm.findClass RX8 = some m.cls := hown
  have hl : lv_has ls 1 [(0, .ref h0)] := hl
  refine lv_aload_n hx hb dX8_all_0 rfl (lv_at hl 0 rfl) ?_
  obtain ⟨u_1, e_1, h⟩ := bd_some h
  refine cm_Vl (As := []) (rest := []) ⟨hx, hb, hml, hown, hts⟩ (c_X8_weigh (ca := ca) (ev := ev) (h0 := h0) (h1 := h1) (h2 := h2) (h3 := h3) (h4 := h4) (h5 := h5) (h6 := h6) (h7 := h7) (h8 := h8) (h9 := h9) (h10 := h10) (h11 := h11) (h12 := h12) (h13 := h13) (h14 := h14) (h15 := h15) (h16 := h16) (h17 := h17) (now := now) (kept := kept) (isKept := isKept) (found := found) (order := order) (doubts := doubts) (doubtMany := doubtMany) (weights := weights) (worn := worn) (pairs := pairs) (isTwice := isTwice) (doer := doer) (doneTo := doneTo) (doers := doers) (tape := tape) (taped := taped) (begins := begins) (ends := ends) (sort := sort) (value := value) (isWrong := isWrong) (items := items) (itemMany := itemMany) (bowThen := bowThen) (doubtThen := doubtThen) (deedThen := deedThen) (sayingThen := sayingThen) (widths := widths) (sizes := sizes) (numbers := numbers) (moved := moved) e_1) (cwV 0 hts gX8_all_X8_weigh rfl rfl rfl hd_X8_weigh ⟨Nat.le_of_ble_eq_true rfl, Nat.le_of_ble_eq_true rfl⟩) hK hP hD hS hA hE (q0 := 0) (ci := 8) rfl rfl rfl rfl hl.1 rfl (Nat.le_of_ble_eq_true rfl) dX8_all_1 ⟨Nat.zero_le _, Nat.zero_le _⟩ (fun H locs hP hD hS => ?_)
  obtain rfl := Option.some.inj h
  exact hRet hP hD hS dX8_all_4
abbrev rm_X8_bestNight : Room := { frames := 5, cells := 0, slots := 0, locals := 120 }
theorem hd_X8_bestNight : yX8_bestNight.cls = RX8 ∧ yX8_bestNight.cls ≠ "java/lang/invoke/MethodHandle" ∧ yX8_bestNight.cls ≠ "java/lang/invoke/VarHandle" ∧ (parseMethodDescriptor yX8_bestNight.desc).map (fun d => d.parameters.length) = some 0 := by decide +kernel
set_option maxHeartbeats 4000000 in
set_option maxRecDepth 100000 in
theorem c_X8_bestNight {l : Launch} {G : va_G} {ca : Nat → ClassId} {ev : Nat → Nat} {h0 h1 h2 h3 h4 h5 h6 h7 h8 h9 h10 h11 h12 h13 h14 h15 h16 h17 : Nat} {now : (Nat → Int32)} {kept : (Nat → Int32)} {isKept : Int32} {found : (Nat → Int32)} {order : (Nat → Int32)} {doubts : (Nat → Int32)} {doubtMany : Int32} {weights : (Nat → Int64)} {worn : (Nat → Int32)} {pairs : Int64} {isTwice : Int32} {doer : (Nat → Int32)} {doneTo : (Nat → Int32)} {doers : (Nat → Int64)} {tape : (Nat → Int32)} {taped : Int32} {begins : Int32} {ends : Int32} {sort : Int32} {value : Int32} {isWrong : Int32} {items : (Nat → Int32)} {itemMany : Int32} {bowThen : Int32} {doubtThen : Int32} {deedThen : Int32} {sayingThen : Int32} {widths : (Nat → Int32)} {sizes : (Nat → Int32)} {numbers : (Nat → Int64)} {moved : (Nat → Int64)}  {N : Nat} {res : Int32 × (Nat → Int32) × (Nat → Int32) × Int32 × (Nat → Int64) × (Nat → Int32) × Int64 × Int32} (h : f_X8_bestNight N now order doubts doubtMany weights worn pairs isTwice = some res) : CtI l yX8_bestNight wsX8_bestNight rm_X8_bestNight G ca ev [.ref h0] (wM ca ev h0 h1 h2 h3 h4 h5 h6 h7 h8 h9 h10 h11 h12 h13 h14 h15 h16 h17 now kept isKept found order doubts doubtMany weights worn pairs isTwice doer doneTo doers tape taped begins ends sort value isWrong items itemMany bowThen doubtThen deedThen sayingThen widths sizes numbers moved) (wM ca ev h0 h1 h2 h3 h4 h5 h6 h7 h8 h9 h10 h11 h12 h13 h14 h15 h16 h17 now kept isKept found res.2.1 res.2.2.1 res.2.2.2.1 res.2.2.2.2.1 res.2.2.2.2.2.1 res.2.2.2.2.2.2.1 res.2.2.2.2.2.2.2 doer doneTo doers tape taped begins ends sort value isWrong items itemMany bowThen doubtThen deedThen sayingThen widths sizes numbers moved) res.1 := by
  unfold f_X8_bestNight at h
  refine en_i (by decide) rfl (Nat.le_of_ble_eq_true rfl) ?_
  intro p e s m args below meth c A Q H locs ls hx hb hml hown hts hA hP hK hD hE hS hl hRet
  have hown : s.vm.findClass RX8 = some m.cls := hown
  have hl : lv_has ls 3 [(0, .ref h0)] := hl
  have hin_X8 : ∀ w ∈ u_ws RX8 TX8 32, w ∈ wsX8_bestNight := fun w h9 => List.mem_cons_of_mem _ (List.mem_append_right _ h9)
  have fk_25 := hts (.fieldLink RX8 25 "MaskBowsModel" "weights" "[J") (by decide +kernel)
  refine lv_aload_n hx hb dX8_bestNight_0 rfl (lv_at hl 0 rfl) ?_
  obtain ⟨u_1, e_1, h⟩ := bd_some h
  refine cm_Vl (As := []) (rest := []) ⟨hx, hb, hml, hown, hts⟩ (c_X8_weigh (ca := ca) (ev := ev) (h0 := h0) (h1 := h1) (h2 := h2) (h3 := h3) (h4 := h4) (h5 := h5) (h6 := h6) (h7 := h7) (h8 := h8) (h9 := h9) (h10 := h10) (h11 := h11) (h12 := h12) (h13 := h13) (h14 := h14) (h15 := h15) (h16 := h16) (h17 := h17) (now := now) (kept := kept) (isKept := isKept) (found := found) (order := order) (doubts := doubts) (doubtMany := doubtMany) (weights := weights) (worn := worn) (pairs := pairs) (isTwice := isTwice) (doer := doer) (doneTo := doneTo) (doers := doers) (tape := tape) (taped := taped) (begins := begins) (ends := ends) (sort := sort) (value := value) (isWrong := isWrong) (items := items) (itemMany := itemMany) (bowThen := bowThen) (doubtThen := doubtThen) (deedThen := deedThen) (sayingThen := sayingThen) (widths := widths) (sizes := sizes) (numbers := numbers) (moved := moved) e_1) (cwV 0 hts gX8_bestNight_X8_weigh rfl rfl rfl hd_X8_weigh ⟨Nat.le_of_ble_eq_true rfl, Nat.le_of_ble_eq_true rfl⟩) hK hP hD hS hA hE (q0 := 0) (ci := 8) rfl rfl rfl rfl hl.1 rfl (Nat.le_of_ble_eq_true rfl) dX8_bestNight_1 ⟨Nat.zero_le _, Nat.zero_le _⟩ (fun H locs hP hD hS => ?_)
  refine lv_pop2_2 hx hb dX8_bestNight_4 rfl ?_
  refine lv_iconst (v := (-1 : Int32)) hx hb dX8_bestNight_5 (by decide) ?_
  refine lv_istore_n (lv' := [(1, .int (-1 : Int32)), (0, .ref h0)]) hx hb dX8_bestNight_6 rfl hl (by decide) rfl (fun ls hl => ?_)
  refine lv_iconst (v := (0 : Int32)) hx hb dX8_bestNight_7 (by decide) ?_
  refine lv_istore_n (lv' := [(2, .int (0 : Int32)), (1, .int (-1 : Int32)), (0, .ref h0)]) hx hb dX8_bestNight_8 rfl hl (by decide) rfl (fun ls hl => ?_)
  have L_9 : ∀  {doubtMany_9 : Int32} {weights_9 : (Nat → Int64)} (n_9 : Nat) {x1_9 : Int32} {x2_9 : Int32} {uL_9 : Int32} {H : Heap} {locs : List Loc} {ls : Array Slot}, f_X8_bestNight_9 doubtMany_9 weights_9  n_9 x1_9 x2_9 = some uL_9 → va_P G vwCl (wM ca ev h0 h1 h2 h3 h4 h5 h6 h7 h8 h9 h10 h11 h12 h13 h14 h15 h16 h17 now kept isKept found u_1.2.1 u_1.2.2.1 doubtMany_9 weights_9 u_1.2.2.2.2.2.1 u_1.2.2.2.2.2.2.1 u_1.2.2.2.2.2.2.2 doer doneTo doers tape taped begins ends sort value isWrong items itemMany bowThen doubtThen deedThen sayingThen widths sizes numbers moved) H → va_D A (wM ca ev h0 h1 h2 h3 h4 h5 h6 h7 h8 h9 h10 h11 h12 h13 h14 h15 h16 h17 now kept isKept found u_1.2.1 u_1.2.2.1 doubtMany_9 weights_9 u_1.2.2.2.2.2.1 u_1.2.2.2.2.2.2.1 u_1.2.2.2.2.2.2.2 doer doneTo doers tape taped begins ends sort value isWrong items itemMany bowThen doubtThen deedThen sayingThen widths sizes numbers moved) → va_S A s.heap H locs → lv_has ls 3 [(0, .ref h0), (1, .int x1_9), (2, .int x2_9)] → (∀ {H : Heap} {locs : List Loc} {ls : Array Slot}, va_P G vwCl (wM ca ev h0 h1 h2 h3 h4 h5 h6 h7 h8 h9 h10 h11 h12 h13 h14 h15 h16 h17 now kept isKept found u_1.2.1 u_1.2.2.1 doubtMany_9 weights_9 u_1.2.2.2.2.2.1 u_1.2.2.2.2.2.2.1 u_1.2.2.2.2.2.2.2 doer doneTo doers tape taped begins ends sort value isWrong items itemMany bowThen doubtThen deedThen sayingThen widths sizes numbers moved) H → va_D A (wM ca ev h0 h1 h2 h3 h4 h5 h6 h7 h8 h9 h10 h11 h12 h13 h14 h15 h16 h17 now kept isKept found u_1.2.1 u_1.2.2.1 doubtMany_9 weights_9 u_1.2.2.2.2.2.1 u_1.2.2.2.2.2.2.1 u_1.2.2.2.2.2.2.2 doer doneTo doers tape taped begins ends sort value isWrong items itemMany bowThen doubtThen deedThen sayingThen widths sizes numbers moved) → va_S A s.heap H locs → lv_has ls 3 [(1, .int uL_9)] → W p l e rm_X8_bestNight s m args below meth c H locs 0 0 Q (F0 m 53 ls [])) → W p l e rm_X8_bestNight s m args below meth c H locs 0 0 Q (F0 m 9 ls []) := by
    intro doubtMany_9 weights_9 n_9
    induction n_9 with
    | zero => intro x1_9 x2_9 uL_9 H locs ls h; exact absurd h (by rw [f_X8_bestNight_9]; exact fun z => nomatch z)
    | succ n_9 ih =>
      intro x1_9 x2_9 uL_9 H locs ls h hP hD hS hl JK_9
      rw [f_X8_bestNight_9] at h
      refine lv_iload_n hx hb dX8_bestNight_9 rfl (lv_at hl 2 rfl) ?_
      refine lv_aload_n hx hb dX8_bestNight_10 rfl (lv_at hl 0 rfl) ?_
      obtain ⟨u_2, e_2, h⟩ := bd_some h
      refine cm_Vi (As := []) (rest := [.int x2_9]) ⟨hx, hb, hml, hown, hts⟩ (c_X8_nightsThere (ca := ca) (ev := ev) (h0 := h0) (h1 := h1) (h2 := h2) (h3 := h3) (h4 := h4) (h5 := h5) (h6 := h6) (h7 := h7) (h8 := h8) (h9 := h9) (h10 := h10) (h11 := h11) (h12 := h12) (h13 := h13) (h14 := h14) (h15 := h15) (h16 := h16) (h17 := h17) (now := now) (kept := kept) (isKept := isKept) (found := found) (order := u_1.2.1) (doubts := u_1.2.2.1) (doubtMany := doubtMany_9) (weights := weights_9) (worn := u_1.2.2.2.2.2.1) (pairs := u_1.2.2.2.2.2.2.1) (isTwice := u_1.2.2.2.2.2.2.2) (doer := doer) (doneTo := doneTo) (doers := doers) (tape := tape) (taped := taped) (begins := begins) (ends := ends) (sort := sort) (value := value) (isWrong := isWrong) (items := items) (itemMany := itemMany) (bowThen := bowThen) (doubtThen := doubtThen) (deedThen := deedThen) (sayingThen := sayingThen) (widths := widths) (sizes := sizes) (numbers := numbers) (moved := moved) e_2) (cwV 0 hts gX8_bestNight_X8_nightsThere rfl rfl rfl hd_X8_nightsThere ⟨Nat.le_of_ble_eq_true rfl, Nat.le_of_ble_eq_true rfl⟩) hK hP hD hS hA hE (q0 := 0) (ci := 8) rfl rfl rfl rfl hl.1 rfl (Nat.le_of_ble_eq_true rfl) dX8_bestNight_11 ⟨Nat.zero_le _, Nat.zero_le _⟩ (fun H locs hP hD hS => ?_)
      refine lv_icmp_ge (tgt := 53) hx hb dX8_bestNight_14 (by decide) (fun c_3 => ?_) (fun c_3 => ?_)
      · have h := ifp c_3 h
        obtain rfl := Option.some.inj h
        exact JK_9 hP hD hS (lv_sub hl [1] rfl)
      · have h := ifn c_3 h
        refine lv_aload_n hx hb dX8_bestNight_17 rfl (lv_at hl 0 rfl) ?_
        refine va_get (D := G) (ci := 8) (v := .ref h6) (C := RX8) (T := TX8) (N := 32) hx hb hts hin_X8 hown hK hP 0 rfl rfl 7 (by decide) fk_25 (fun _ h9 => h9) rfl dX8_bestNight_18 ?_
        refine lv_iload_n hx hb dX8_bestNight_21 rfl (lv_at hl 2 rfl) ?_
        obtain ⟨i_4, h⟩ := gd_some h
        refine va_lald hx hb hK hP 6 1 rfl rfl (ix_in i_4) dX8_bestNight_22 ?_
        refine lv_iload_n hx hb dX8_bestNight_23 rfl (lv_at hl 1 rfl) ?_
        obtain ⟨u_5, e_5, h⟩ := bd_some h
        have J_5 : ∀ {H : Heap} {locs : List Loc} {ls : Array Slot}, va_P G vwCl (wM ca ev h0 h1 h2 h3 h4 h5 h6 h7 h8 h9 h10 h11 h12 h13 h14 h15 h16 h17 now kept isKept found u_1.2.1 u_1.2.2.1 doubtMany_9 weights_9 u_1.2.2.2.2.2.1 u_1.2.2.2.2.2.2.1 u_1.2.2.2.2.2.2.2 doer doneTo doers tape taped begins ends sort value isWrong items itemMany bowThen doubtThen deedThen sayingThen widths sizes numbers moved) H → va_D A (wM ca ev h0 h1 h2 h3 h4 h5 h6 h7 h8 h9 h10 h11 h12 h13 h14 h15 h16 h17 now kept isKept found u_1.2.1 u_1.2.2.1 doubtMany_9 weights_9 u_1.2.2.2.2.2.1 u_1.2.2.2.2.2.2.1 u_1.2.2.2.2.2.2.2 doer doneTo doers tape taped begins ends sort value isWrong items itemMany bowThen doubtThen deedThen sayingThen widths sizes numbers moved) → va_S A s.heap H locs → lv_has ls 3 [(0, .ref h0), (1, .int x1_9), (2, .int x2_9)] → W p l e rm_X8_bestNight s m args below meth c H locs 0 0 Q (F0 m 37 ls [.long u_5, .long (weights_9 x2_9.toNatClampNeg)]) := by
          intro H locs ls hP hD hS hl 
          refine W.lcmp hx hb dX8_bestNight_37 ?_
          obtain ⟨u_7, e_7, h⟩ := bd_some h
          have J_7 : ∀ {H : Heap} {locs : List Loc} {ls : Array Slot}, va_P G vwCl (wM ca ev h0 h1 h2 h3 h4 h5 h6 h7 h8 h9 h10 h11 h12 h13 h14 h15 h16 h17 now kept isKept found u_1.2.1 u_1.2.2.1 doubtMany_9 weights_9 u_1.2.2.2.2.2.1 u_1.2.2.2.2.2.2.1 u_1.2.2.2.2.2.2.2 doer doneTo doers tape taped begins ends sort value isWrong items itemMany bowThen doubtThen deedThen sayingThen widths sizes numbers moved) H → va_D A (wM ca ev h0 h1 h2 h3 h4 h5 h6 h7 h8 h9 h10 h11 h12 h13 h14 h15 h16 h17 now kept isKept found u_1.2.1 u_1.2.2.1 doubtMany_9 weights_9 u_1.2.2.2.2.2.1 u_1.2.2.2.2.2.2.1 u_1.2.2.2.2.2.2.2 doer doneTo doers tape taped begins ends sort value isWrong items itemMany bowThen doubtThen deedThen sayingThen widths sizes numbers moved) → va_S A s.heap H locs → lv_has ls 3 [(0, .ref h0), (2, .int x2_9)] → W p l e rm_X8_bestNight s m args below meth c H locs 0 0 Q (F0 m 46 ls [.int u_7]) := by
            intro H locs ls hP hD hS hl 
            refine lv_istore_n (lv' := [(1, .int u_7), (0, .ref h0), (2, .int x2_9)]) hx hb dX8_bestNight_46 rfl hl (by decide) rfl (fun ls hl => ?_)
            refine lv_iinc (v := (x2_9 + (1 : Int32))) (lv' := [(2, .int (x2_9 + (1 : Int32))), (1, .int u_7), (0, .ref h0)]) hx hb dX8_bestNight_47 hl (k := 2) rfl rfl (by decide) rfl (fun ls hl => ?_)
            refine lv_goto (tgt := 9) hx hb dX8_bestNight_50 (by decide) ?_
            exact ih h hP hD hS (lv_sub hl [2, 1, 0] rfl) JK_9
          have h := e_7
          clear e_7
          refine lv_if_le (tgt := 45) hx hb dX8_bestNight_38 (by decide) (fun c_7 => ?_) (fun c_7 => ?_)
          · have h := ifp c_7 h
            refine lv_iload_n hx hb dX8_bestNight_45 rfl (lv_at hl 1 rfl) ?_
            obtain rfl := Option.some.inj h
            exact J_7 hP hD hS (lv_sub hl [0, 2] rfl)
          · have h := ifn c_7 h
            refine lv_iload_n hx hb dX8_bestNight_41 rfl (lv_at hl 2 rfl) ?_
            refine lv_goto (tgt := 46) hx hb dX8_bestNight_42 (by decide) ?_
            obtain rfl := Option.some.inj h
            exact J_7 hP hD hS (lv_sub hl [0, 2] rfl)
        have h := e_5
        clear e_5
        refine lv_if_ge (tgt := 31) hx hb dX8_bestNight_24 (by decide) (fun c_5 => ?_) (fun c_5 => ?_)
        · have h := ifp c_5 h
          refine lv_aload_n hx hb dX8_bestNight_31 rfl (lv_at hl 0 rfl) ?_
          refine va_get (D := G) (ci := 8) (v := .ref h6) (C := RX8) (T := TX8) (N := 32) hx hb hts hin_X8 hown hK hP 0 rfl rfl 7 (by decide) fk_25 (fun _ h9 => h9) rfl dX8_bestNight_32 ?_
          refine lv_iload_n hx hb dX8_bestNight_35 rfl (lv_at hl 1 rfl) ?_
          obtain ⟨i_6, h⟩ := gd_some h
          refine va_lald hx hb hK hP 6 1 rfl rfl (ix_in i_6) dX8_bestNight_36 ?_
          obtain rfl := Option.some.inj h
          exact J_5 hP hD hS (lv_sub hl [0, 1, 2] rfl)
        · have h := ifn c_5 h
          refine lv_lconst (v := (0 : Int64)) hx hb dX8_bestNight_27 (by decide) ?_
          refine lv_goto (tgt := 37) hx hb dX8_bestNight_28 (by decide) ?_
          obtain rfl := Option.some.inj h
          exact J_5 hP hD hS (lv_sub hl [0, 1, 2] rfl)
  obtain ⟨u_8, e_8, h⟩ := bd_some h
  refine L_9 _ e_8 hP hD hS (lv_sub hl [2, 1, 0] rfl) ?_
  intro H locs ls hP hD hS hl
  refine lv_iload_n hx hb dX8_bestNight_53 rfl (lv_at hl 0 rfl) ?_
  obtain rfl := Option.some.inj h
  exact hRet hP hD hS dX8_bestNight_54
abbrev rm_X8_likeliest : Room := { frames := 6, cells := 0, slots := 0, locals := 142 }
theorem hd_X8_likeliest : yX8_likeliest.cls = RX8 ∧ yX8_likeliest.cls ≠ "java/lang/invoke/MethodHandle" ∧ yX8_likeliest.cls ≠ "java/lang/invoke/VarHandle" ∧ (parseMethodDescriptor yX8_likeliest.desc).map (fun d => d.parameters.length) = some 0 := by decide +kernel
set_option maxHeartbeats 4000000 in
set_option maxRecDepth 100000 in
theorem c_X8_likeliest {l : Launch} {G : va_G} {ca : Nat → ClassId} {ev : Nat → Nat} {h0 h1 h2 h3 h4 h5 h6 h7 h8 h9 h10 h11 h12 h13 h14 h15 h16 h17 : Nat} {now : (Nat → Int32)} {kept : (Nat → Int32)} {isKept : Int32} {found : (Nat → Int32)} {order : (Nat → Int32)} {doubts : (Nat → Int32)} {doubtMany : Int32} {weights : (Nat → Int64)} {worn : (Nat → Int32)} {pairs : Int64} {isTwice : Int32} {doer : (Nat → Int32)} {doneTo : (Nat → Int32)} {doers : (Nat → Int64)} {tape : (Nat → Int32)} {taped : Int32} {begins : Int32} {ends : Int32} {sort : Int32} {value : Int32} {isWrong : Int32} {items : (Nat → Int32)} {itemMany : Int32} {bowThen : Int32} {doubtThen : Int32} {deedThen : Int32} {sayingThen : Int32} {widths : (Nat → Int32)} {sizes : (Nat → Int32)} {numbers : (Nat → Int64)} {moved : (Nat → Int64)}  {N : Nat} {res : Int32 × (Nat → Int32) × (Nat → Int32) × (Nat → Int32) × Int32 × (Nat → Int64) × (Nat → Int32) × Int64 × Int32} (h : f_X8_likeliest N now found order doubts doubtMany weights worn pairs isTwice = some res) : CtI l yX8_likeliest wsX8_likeliest rm_X8_likeliest G ca ev [.ref h0] (wM ca ev h0 h1 h2 h3 h4 h5 h6 h7 h8 h9 h10 h11 h12 h13 h14 h15 h16 h17 now kept isKept found order doubts doubtMany weights worn pairs isTwice doer doneTo doers tape taped begins ends sort value isWrong items itemMany bowThen doubtThen deedThen sayingThen widths sizes numbers moved) (wM ca ev h0 h1 h2 h3 h4 h5 h6 h7 h8 h9 h10 h11 h12 h13 h14 h15 h16 h17 now kept isKept res.2.1 res.2.2.1 res.2.2.2.1 res.2.2.2.2.1 res.2.2.2.2.2.1 res.2.2.2.2.2.2.1 res.2.2.2.2.2.2.2.1 res.2.2.2.2.2.2.2.2 doer doneTo doers tape taped begins ends sort value isWrong items itemMany bowThen doubtThen deedThen sayingThen widths sizes numbers moved) res.1 := by
  unfold f_X8_likeliest at h
  refine en_i (by decide) rfl (Nat.le_of_ble_eq_true rfl) ?_
  intro p e s m args below meth c A Q H locs ls hx hb hml hown hts hA hP hK hD hE hS hl hRet
  have hown : s.vm.findClass RX8 = some m.cls := hown
  have hl : lv_has ls 4 [(0, .ref h0)] := hl
  have hin_X8 : ∀ w ∈ u_ws RX8 TX8 32, w ∈ wsX8_likeliest := fun w h9 => List.mem_cons_of_mem _ (List.mem_append_right _ h9)
  have fk_9 := hts (.fieldLink RX8 9 "MaskBowsModel" "now" "[I") (by decide +kernel)
  refine lv_aload_n hx hb dX8_likeliest_0 rfl (lv_at hl 0 rfl) ?_
  obtain ⟨u_1, e_1, h⟩ := bd_some h
  refine cm_Vi (As := []) (rest := []) ⟨hx, hb, hml, hown, hts⟩ (c_X8_bestNight (ca := ca) (ev := ev) (h0 := h0) (h1 := h1) (h2 := h2) (h3 := h3) (h4 := h4) (h5 := h5) (h6 := h6) (h7 := h7) (h8 := h8) (h9 := h9) (h10 := h10) (h11 := h11) (h12 := h12) (h13 := h13) (h14 := h14) (h15 := h15) (h16 := h16) (h17 := h17) (now := now) (kept := kept) (isKept := isKept) (found := found) (order := order) (doubts := doubts) (doubtMany := doubtMany) (weights := weights) (worn := worn) (pairs := pairs) (isTwice := isTwice) (doer := doer) (doneTo := doneTo) (doers := doers) (tape := tape) (taped := taped) (begins := begins) (ends := ends) (sort := sort) (value := value) (isWrong := isWrong) (items := items) (itemMany := itemMany) (bowThen := bowThen) (doubtThen := doubtThen) (deedThen := deedThen) (sayingThen := sayingThen) (widths := widths) (sizes := sizes) (numbers := numbers) (moved := moved) e_1) (cwV 0 hts gX8_likeliest_X8_bestNight rfl rfl rfl hd_X8_bestNight ⟨Nat.le_of_ble_eq_true rfl, Nat.le_of_ble_eq_true rfl⟩) hK hP hD hS hA hE (q0 := 0) (ci := 8) rfl rfl rfl rfl hl.1 rfl (Nat.le_of_ble_eq_true rfl) dX8_likeliest_1 ⟨Nat.zero_le _, Nat.zero_le _⟩ (fun H locs hP hD hS => ?_)
  refine lv_istore_n (lv' := [(1, .int u_1.1), (0, .ref h0)]) hx hb dX8_likeliest_4 rfl hl (by decide) rfl (fun ls hl => ?_)
  refine lv_iload_n hx hb dX8_likeliest_5 rfl (lv_at hl 0 rfl) ?_
  refine lv_if_ge (tgt := 16) hx hb dX8_likeliest_6 (by decide) (fun c_2 => ?_) (fun c_2 => ?_)
  · have h := ifp c_2 h
    refine lv_iconst (v := (0 : Int32)) hx hb dX8_likeliest_16 (by decide) ?_
    refine lv_istore_n (lv' := [(2, .int (0 : Int32)), (1, .int u_1.1), (0, .ref h0)]) hx hb dX8_likeliest_17 rfl hl (by decide) rfl (fun ls hl => ?_)
    refine lv_iconst (v := (0 : Int32)) hx hb dX8_likeliest_18 (by decide) ?_
    refine lv_istore_n (lv' := [(3, .int (0 : Int32)), (2, .int (0 : Int32)), (1, .int u_1.1), (0, .ref h0)]) hx hb dX8_likeliest_19 rfl hl (by decide) rfl (fun ls hl => ?_)
    have L_20 : ∀ {x1_20 : Int32} {now_20 : (Nat → Int32)} {doubts_20 : (Nat → Int32)} {doubtMany_20 : Int32} (n_20 : Nat) {x2_20 : Int32} {x3_20 : Int32} {uL_20 : Int32} {H : Heap} {locs : List Loc} {ls : Array Slot}, f_X8_likeliest_20 N x1_20 now_20 doubts_20 doubtMany_20  n_20 x2_20 x3_20 = some uL_20 → va_P G vwCl (wM ca ev h0 h1 h2 h3 h4 h5 h6 h7 h8 h9 h10 h11 h12 h13 h14 h15 h16 h17 now_20 kept isKept found u_1.2.1 doubts_20 doubtMany_20 u_1.2.2.2.2.1 u_1.2.2.2.2.2.1 u_1.2.2.2.2.2.2.1 u_1.2.2.2.2.2.2.2 doer doneTo doers tape taped begins ends sort value isWrong items itemMany bowThen doubtThen deedThen sayingThen widths sizes numbers moved) H → va_D A (wM ca ev h0 h1 h2 h3 h4 h5 h6 h7 h8 h9 h10 h11 h12 h13 h14 h15 h16 h17 now_20 kept isKept found u_1.2.1 doubts_20 doubtMany_20 u_1.2.2.2.2.1 u_1.2.2.2.2.2.1 u_1.2.2.2.2.2.2.1 u_1.2.2.2.2.2.2.2 doer doneTo doers tape taped begins ends sort value isWrong items itemMany bowThen doubtThen deedThen sayingThen widths sizes numbers moved) → va_S A s.heap H locs → lv_has ls 4 [(0, .ref h0), (1, .int x1_20), (2, .int x2_20), (3, .int x3_20)] → (∀ {H : Heap} {locs : List Loc} {ls : Array Slot}, va_P G vwCl (wM ca ev h0 h1 h2 h3 h4 h5 h6 h7 h8 h9 h10 h11 h12 h13 h14 h15 h16 h17 now_20 kept isKept found u_1.2.1 doubts_20 doubtMany_20 u_1.2.2.2.2.1 u_1.2.2.2.2.2.1 u_1.2.2.2.2.2.2.1 u_1.2.2.2.2.2.2.2 doer doneTo doers tape taped begins ends sort value isWrong items itemMany bowThen doubtThen deedThen sayingThen widths sizes numbers moved) H → va_D A (wM ca ev h0 h1 h2 h3 h4 h5 h6 h7 h8 h9 h10 h11 h12 h13 h14 h15 h16 h17 now_20 kept isKept found u_1.2.1 doubts_20 doubtMany_20 u_1.2.2.2.2.1 u_1.2.2.2.2.2.1 u_1.2.2.2.2.2.2.1 u_1.2.2.2.2.2.2.2 doer doneTo doers tape taped begins ends sort value isWrong items itemMany bowThen doubtThen deedThen sayingThen widths sizes numbers moved) → va_S A s.heap H locs → lv_has ls 4 [(2, .int uL_20)] → W p l e rm_X8_likeliest s m args below meth c H locs 0 0 Q (F0 m 55 ls [])) → W p l e rm_X8_likeliest s m args below meth c H locs 0 0 Q (F0 m 20 ls []) := by
      intro x1_20 now_20 doubts_20 doubtMany_20 n_20
      induction n_20 with
      | zero => intro x2_20 x3_20 uL_20 H locs ls h; exact absurd h (by rw [f_X8_likeliest_20]; exact fun z => nomatch z)
      | succ n_20 ih =>
        intro x2_20 x3_20 uL_20 H locs ls h hP hD hS hl JK_20
        rw [f_X8_likeliest_20] at h
        refine lv_iload_n hx hb dX8_likeliest_20 rfl (lv_at hl 3 rfl) ?_
        refine lv_aload_n hx hb dX8_likeliest_21 rfl (lv_at hl 0 rfl) ?_
        refine va_get (D := G) (ci := 8) (v := .ref h1) (C := RX8) (T := TX8) (N := 32) hx hb hts hin_X8 hown hK hP 0 rfl rfl 0 (by decide) fk_9 (fun _ h9 => h9) rfl dX8_likeliest_22 ?_
        refine lv_iconst (v := (3 : Int32)) hx hb dX8_likeliest_25 (by decide) ?_
        refine va_iald hx hb hK hP 1 0 rfl rfl (ix_in (by decide)) dX8_likeliest_26 ?_
        refine lv_icmp_ge (tgt := 55) hx hb dX8_likeliest_27 (by decide) (fun c_3 => ?_) (fun c_3 => ?_)
        · have h := ifp c_3 h
          obtain rfl := Option.some.inj h
          exact JK_20 hP hD hS (lv_sub hl [2] rfl)
        · have h := ifn c_3 h
          refine lv_iload_n hx hb dX8_likeliest_30 rfl (lv_at hl 2 rfl) ?_
          refine lv_aload_n hx hb dX8_likeliest_31 rfl (lv_at hl 0 rfl) ?_
          refine lv_iload_n hx hb dX8_likeliest_32 rfl (lv_at hl 3 rfl) ?_
          refine lv_iload_n hx hb dX8_likeliest_33 rfl (lv_at hl 1 rfl) ?_
          obtain ⟨u_4, e_4, h⟩ := bd_some h
          refine cm_Vi (As := [.int x3_20, .int x1_20]) (rest := [.int x2_20]) ⟨hx, hb, hml, hown, hts⟩ (c_X8_isMade (ca := ca) (ev := ev) (h0 := h0) (h1 := h1) (h2 := h2) (h3 := h3) (h4 := h4) (h5 := h5) (h6 := h6) (h7 := h7) (h8 := h8) (h9 := h9) (h10 := h10) (h11 := h11) (h12 := h12) (h13 := h13) (h14 := h14) (h15 := h15) (h16 := h16) (h17 := h17) (now := now_20) (kept := kept) (isKept := isKept) (found := found) (order := u_1.2.1) (doubts := doubts_20) (doubtMany := doubtMany_20) (weights := u_1.2.2.2.2.1) (worn := u_1.2.2.2.2.2.1) (pairs := u_1.2.2.2.2.2.2.1) (isTwice := u_1.2.2.2.2.2.2.2) (doer := doer) (doneTo := doneTo) (doers := doers) (tape := tape) (taped := taped) (begins := begins) (ends := ends) (sort := sort) (value := value) (isWrong := isWrong) (items := items) (itemMany := itemMany) (bowThen := bowThen) (doubtThen := doubtThen) (deedThen := deedThen) (sayingThen := sayingThen) (widths := widths) (sizes := sizes) (numbers := numbers) (moved := moved) e_4) (cwV 2 hts gX8_likeliest_X8_isMade rfl rfl rfl hd_X8_isMade ⟨Nat.le_of_ble_eq_true rfl, Nat.le_of_ble_eq_true rfl⟩) hK hP hD hS hA hE (q0 := 0) (ci := 8) rfl rfl rfl rfl hl.1 rfl (Nat.le_of_ble_eq_true rfl) dX8_likeliest_34 ⟨Nat.zero_le _, Nat.zero_le _⟩ (fun H locs hP hD hS => ?_)
          obtain ⟨u_5, e_5, h⟩ := bd_some h
          have J_5 : ∀ {H : Heap} {locs : List Loc} {ls : Array Slot}, va_P G vwCl (wM ca ev h0 h1 h2 h3 h4 h5 h6 h7 h8 h9 h10 h11 h12 h13 h14 h15 h16 h17 now_20 kept isKept found u_1.2.1 doubts_20 doubtMany_20 u_1.2.2.2.2.1 u_1.2.2.2.2.2.1 u_1.2.2.2.2.2.2.1 u_1.2.2.2.2.2.2.2 doer doneTo doers tape taped begins ends sort value isWrong items itemMany bowThen doubtThen deedThen sayingThen widths sizes numbers moved) H → va_D A (wM ca ev h0 h1 h2 h3 h4 h5 h6 h7 h8 h9 h10 h11 h12 h13 h14 h15 h16 h17 now_20 kept isKept found u_1.2.1 doubts_20 doubtMany_20 u_1.2.2.2.2.1 u_1.2.2.2.2.2.1 u_1.2.2.2.2.2.2.1 u_1.2.2.2.2.2.2.2 doer doneTo doers tape taped begins ends sort value isWrong items itemMany bowThen doubtThen deedThen sayingThen widths sizes numbers moved) → va_S A s.heap H locs → lv_has ls 4 [(0, .ref h0), (1, .int x1_20), (3, .int x3_20)] → W p l e rm_X8_likeliest s m args below meth c H locs 0 0 Q (F0 m 47 ls [.int u_5, .int x2_20]) := by
            intro H locs ls hP hD hS hl 
            refine lv_ior hx hb dX8_likeliest_47 ?_
            refine lv_istore_n (lv' := [(2, .int (x2_20 ||| u_5)), (0, .ref h0), (1, .int x1_20), (3, .int x3_20)]) hx hb dX8_likeliest_48 rfl hl (by decide) rfl (fun ls hl => ?_)
            refine lv_iinc (v := (x3_20 + (1 : Int32))) (lv' := [(3, .int (x3_20 + (1 : Int32))), (2, .int (x2_20 ||| u_5)), (0, .ref h0), (1, .int x1_20)]) hx hb dX8_likeliest_49 hl (k := 3) rfl rfl (by decide) rfl (fun ls hl => ?_)
            refine lv_goto (tgt := 20) hx hb dX8_likeliest_52 (by decide) ?_
            exact ih h hP hD hS (lv_sub hl [2, 3, 1, 0] rfl) JK_20
          have h := e_5
          clear e_5
          refine lv_if_eq (tgt := 46) hx hb dX8_likeliest_37 (by decide) (fun c_5 => ?_) (fun c_5 => ?_)
          · have h := ifp c_5 h
            refine lv_iconst (v := (0 : Int32)) hx hb dX8_likeliest_46 (by decide) ?_
            obtain rfl := Option.some.inj h
            exact J_5 hP hD hS (lv_sub hl [0, 1, 3] rfl)
          · have h := ifn c_5 h
            refine lv_iconst (v := (1 : Int32)) hx hb dX8_likeliest_40 (by decide) ?_
            refine lv_iload_n hx hb dX8_likeliest_41 rfl (lv_at hl 3 rfl) ?_
            refine lv_ishl hx hb dX8_likeliest_42 ?_
            refine lv_goto (tgt := 47) hx hb dX8_likeliest_43 (by decide) ?_
            obtain rfl := Option.some.inj h
            exact J_5 hP hD hS (lv_sub hl [0, 1, 3] rfl)
    obtain ⟨u_6, e_6, h⟩ := bd_some h
    refine L_20 _ e_6 hP hD hS (lv_sub hl [3, 2, 1, 0] rfl) ?_
    intro H locs ls hP hD hS hl
    refine lv_iload_n hx hb dX8_likeliest_55 rfl (lv_at hl 0 rfl) ?_
    obtain rfl := Option.some.inj h
    exact hRet hP hD hS dX8_likeliest_56
  · have h := ifn c_2 h
    refine lv_aload_n hx hb dX8_likeliest_9 rfl (lv_at hl 1 rfl) ?_
    refine lv_ldc (v := (-1000000004 : Int32)) hx hb hown (hts (.constant RX8 179 (-1000000004)) (by decide +kernel)) dX8_likeliest_10 ?_
    obtain ⟨u_7, e_7, h⟩ := bd_some h
    refine cm_Vi (As := [.int (-1000000004 : Int32)]) (rest := []) ⟨hx, hb, hml, hown, hts⟩ (c_X8_finding (ca := ca) (ev := ev) (h0 := h0) (h1 := h1) (h2 := h2) (h3 := h3) (h4 := h4) (h5 := h5) (h6 := h6) (h7 := h7) (h8 := h8) (h9 := h9) (h10 := h10) (h11 := h11) (h12 := h12) (h13 := h13) (h14 := h14) (h15 := h15) (h16 := h16) (h17 := h17) (now := now) (kept := kept) (isKept := isKept) (found := found) (order := u_1.2.1) (doubts := u_1.2.2.1) (doubtMany := u_1.2.2.2.1) (weights := u_1.2.2.2.2.1) (worn := u_1.2.2.2.2.2.1) (pairs := u_1.2.2.2.2.2.2.1) (isTwice := u_1.2.2.2.2.2.2.2) (doer := doer) (doneTo := doneTo) (doers := doers) (tape := tape) (taped := taped) (begins := begins) (ends := ends) (sort := sort) (value := value) (isWrong := isWrong) (items := items) (itemMany := itemMany) (bowThen := bowThen) (doubtThen := doubtThen) (deedThen := deedThen) (sayingThen := sayingThen) (widths := widths) (sizes := sizes) (numbers := numbers) (moved := moved) e_7) (cwV 1 hts gX8_likeliest_X8_finding rfl rfl rfl hd_X8_finding ⟨Nat.le_of_ble_eq_true rfl, Nat.le_of_ble_eq_true rfl⟩) hK hP hD hS hA hE (q0 := 0) (ci := 8) rfl rfl rfl rfl hl.1 rfl (Nat.le_of_ble_eq_true rfl) dX8_likeliest_12 ⟨Nat.zero_le _, Nat.zero_le _⟩ (fun H locs hP hD hS => ?_)
    obtain rfl := Option.some.inj h
    exact hRet hP hD hS dX8_likeliest_15
abbrev rm_X8_only : Room := { frames := 0, cells := 0, slots := 0, locals := 0 }
theorem hd_X8_only : yX8_only.cls ≠ "java/lang/invoke/MethodHandle" ∧ yX8_only.cls ≠ "java/lang/invoke/VarHandle" ∧ (parseMethodDescriptor yX8_only.desc).map (fun d => d.parameters.length) = some 1 := by decide +kernel
set_option maxHeartbeats 4000000 in
set_option maxRecDepth 100000 in
theorem c_X8_only {l : Launch} {G : va_G} {ca : Nat → ClassId} {ev : Nat → Nat}  {a0 : Int32} {N : Nat} {res : Int32} (h : f_X8_only N a0 = some res) : CtI l yX8_only wsX8_only rm_X8_only G ca ev [.int a0] [] [] res := by
  unfold f_X8_only at h
  refine en_i (by decide) rfl (Nat.le_of_ble_eq_true rfl) ?_
  intro p e s m args below meth c A Q H locs ls hx hb hml hown hts hA hP hK hD hE hS hl hRet
  have hown : s.vm.findClass RX8 = some m.cls := hown
  have hl : lv_has ls 3 [(0, .int a0)] := hl
  refine lv_iconst (v := (-1 : Int32)) hx hb dX8_only_0 (by decide) ?_
  refine lv_istore_n (lv' := [(1, .int (-1 : Int32)), (0, .int a0)]) hx hb dX8_only_1 rfl hl (by decide) rfl (fun ls hl => ?_)
  refine lv_iconst (v := (0 : Int32)) hx hb dX8_only_2 (by decide) ?_
  refine lv_istore_n (lv' := [(2, .int (0 : Int32)), (1, .int (-1 : Int32)), (0, .int a0)]) hx hb dX8_only_3 rfl hl (by decide) rfl (fun ls hl => ?_)
  have L_4 : ∀ {x0_4 : Int32}  (n_4 : Nat) {x1_4 : Int32} {x2_4 : Int32} {uL_4 : Int32} {H : Heap} {locs : List Loc} {ls : Array Slot}, f_X8_only_4 x0_4  n_4 x1_4 x2_4 = some uL_4 → va_P G vwCl [] H → va_D A [] → va_S A s.heap H locs → lv_has ls 3 [(0, .int x0_4), (1, .int x1_4), (2, .int x2_4)] → (∀ {H : Heap} {locs : List Loc} {ls : Array Slot}, va_P G vwCl [] H → va_D A [] → va_S A s.heap H locs → lv_has ls 3 [(1, .int uL_4)] → W p l e rm_X8_only s m args below meth c H locs 0 0 Q (F0 m 29 ls [])) → W p l e rm_X8_only s m args below meth c H locs 0 0 Q (F0 m 4 ls []) := by
    intro x0_4 n_4
    induction n_4 with
    | zero => intro x1_4 x2_4 uL_4 H locs ls h; exact absurd h (by rw [f_X8_only_4]; exact fun z => nomatch z)
    | succ n_4 ih =>
      intro x1_4 x2_4 uL_4 H locs ls h hP hD hS hl JK_4
      rw [f_X8_only_4] at h
      refine lv_iload_n hx hb dX8_only_4 rfl (lv_at hl 2 rfl) ?_
      refine lv_bipush (v := (8 : Int32)) hx hb dX8_only_5 (by decide) ?_
      refine lv_icmp_ge (tgt := 29) hx hb dX8_only_7 (by decide) (fun c_1 => ?_) (fun c_1 => ?_)
      · have h := ifp c_1 h
        obtain rfl := Option.some.inj h
        exact JK_4 hP hD hS (lv_sub hl [1] rfl)
      · have h := ifn c_1 h
        refine lv_iload_n hx hb dX8_only_10 rfl (lv_at hl 0 rfl) ?_
        refine lv_iconst (v := (1 : Int32)) hx hb dX8_only_11 (by decide) ?_
        refine lv_iload_n hx hb dX8_only_12 rfl (lv_at hl 2 rfl) ?_
        refine lv_ishl hx hb dX8_only_13 ?_
        obtain ⟨u_2, e_2, h⟩ := bd_some h
        have J_2 : ∀ {H : Heap} {locs : List Loc} {ls : Array Slot}, va_P G vwCl [] H → va_D A [] → va_S A s.heap H locs → lv_has ls 3 [(0, .int x0_4), (2, .int x2_4)] → W p l e rm_X8_only s m args below meth c H locs 0 0 Q (F0 m 22 ls [.int u_2]) := by
          intro H locs ls hP hD hS hl 
          refine lv_istore_n (lv' := [(1, .int u_2), (0, .int x0_4), (2, .int x2_4)]) hx hb dX8_only_22 rfl hl (by decide) rfl (fun ls hl => ?_)
          refine lv_iinc (v := (x2_4 + (1 : Int32))) (lv' := [(2, .int (x2_4 + (1 : Int32))), (1, .int u_2), (0, .int x0_4)]) hx hb dX8_only_23 hl (k := 2) rfl rfl (by decide) rfl (fun ls hl => ?_)
          refine lv_goto (tgt := 4) hx hb dX8_only_26 (by decide) ?_
          exact ih h hP hD hS (lv_sub hl [2, 1, 0] rfl) JK_4
        have h := e_2
        clear e_2
        refine lv_icmp_ne (tgt := 21) hx hb dX8_only_14 (by decide) (fun c_2 => ?_) (fun c_2 => ?_)
        · have h := ifn c_2 h
          refine lv_iload_n hx hb dX8_only_21 rfl (lv_at hl 1 rfl) ?_
          obtain rfl := Option.some.inj h
          exact J_2 hP hD hS (lv_sub hl [0, 2] rfl)
        · have h := ifp c_2 h
          refine lv_iload_n hx hb dX8_only_17 rfl (lv_at hl 2 rfl) ?_
          refine lv_goto (tgt := 22) hx hb dX8_only_18 (by decide) ?_
          obtain rfl := Option.some.inj h
          exact J_2 hP hD hS (lv_sub hl [0, 2] rfl)
  obtain ⟨u_3, e_3, h⟩ := bd_some h
  refine L_4 _ e_3 hP hD hS (lv_sub hl [2, 1, 0] rfl) ?_
  intro H locs ls hP hD hS hl
  refine lv_iload_n hx hb dX8_only_29 rfl (lv_at hl 0 rfl) ?_
  obtain rfl := Option.some.inj h
  exact hRet hP hD hS dX8_only_30
abbrev rm_X8_wornBy : Room := { frames := 5, cells := 0, slots := 0, locals := 120 }
theorem hd_X8_wornBy : yX8_wornBy.cls = RX8 ∧ yX8_wornBy.cls ≠ "java/lang/invoke/MethodHandle" ∧ yX8_wornBy.cls ≠ "java/lang/invoke/VarHandle" ∧ (parseMethodDescriptor yX8_wornBy.desc).map (fun d => d.parameters.length) = some 2 := by decide +kernel
set_option maxHeartbeats 4000000 in
set_option maxRecDepth 100000 in
theorem c_X8_wornBy {l : Launch} {G : va_G} {ca : Nat → ClassId} {ev : Nat → Nat} {h0 h1 h2 h3 h4 h5 h6 h7 h8 h9 h10 h11 h12 h13 h14 h15 h16 h17 : Nat} {now : (Nat → Int32)} {kept : (Nat → Int32)} {isKept : Int32} {found : (Nat → Int32)} {order : (Nat → Int32)} {doubts : (Nat → Int32)} {doubtMany : Int32} {weights : (Nat → Int64)} {worn : (Nat → Int32)} {pairs : Int64} {isTwice : Int32} {doer : (Nat → Int32)} {doneTo : (Nat → Int32)} {doers : (Nat → Int64)} {tape : (Nat → Int32)} {taped : Int32} {begins : Int32} {ends : Int32} {sort : Int32} {value : Int32} {isWrong : Int32} {items : (Nat → Int32)} {itemMany : Int32} {bowThen : Int32} {doubtThen : Int32} {deedThen : Int32} {sayingThen : Int32} {widths : (Nat → Int32)} {sizes : (Nat → Int32)} {numbers : (Nat → Int64)} {moved : (Nat → Int64)} {a1 : Int32} {a2 : Int32} {N : Nat} {res : Int32 × (Nat → Int32) × (Nat → Int32) × Int32 × (Nat → Int64) × (Nat → Int32) × Int64 × Int32} (h : f_X8_wornBy N now order doubts doubtMany weights worn pairs isTwice a1 a2 = some res) : CtI l yX8_wornBy wsX8_wornBy rm_X8_wornBy G ca ev [.ref h0, .int a1, .int a2] (wM ca ev h0 h1 h2 h3 h4 h5 h6 h7 h8 h9 h10 h11 h12 h13 h14 h15 h16 h17 now kept isKept found order doubts doubtMany weights worn pairs isTwice doer doneTo doers tape taped begins ends sort value isWrong items itemMany bowThen doubtThen deedThen sayingThen widths sizes numbers moved) (wM ca ev h0 h1 h2 h3 h4 h5 h6 h7 h8 h9 h10 h11 h12 h13 h14 h15 h16 h17 now kept isKept found res.2.1 res.2.2.1 res.2.2.2.1 res.2.2.2.2.1 res.2.2.2.2.2.1 res.2.2.2.2.2.2.1 res.2.2.2.2.2.2.2 doer doneTo doers tape taped begins ends sort value isWrong items itemMany bowThen doubtThen deedThen sayingThen widths sizes numbers moved) res.1 := by
  unfold f_X8_wornBy at h
  refine en_i (by decide) rfl (Nat.le_of_ble_eq_true rfl) ?_
  intro p e s m args below meth c A Q H locs ls hx hb hml hown hts hA hP hK hD hE hS hl hRet
  have hown : s.vm.findClass RX8 = some m.cls := hown
  have hl : lv_has ls 5 [(0, .ref h0), (1, .int a1), (2, .int a2)] := hl
  have hin_X8 : ∀ w ∈ u_ws RX8 TX8 32, w ∈ wsX8_wornBy := fun w h9 => List.mem_cons_of_mem _ (List.mem_append_right _ h9)
  have fk_25 := hts (.fieldLink RX8 25 "MaskBowsModel" "weights" "[J") (by decide +kernel)
  have fk_29 := hts (.fieldLink RX8 29 "MaskBowsModel" "worn" "[I") (by decide +kernel)
  refine lv_aload_n hx hb dX8_wornBy_0 rfl (lv_at hl 0 rfl) ?_
  obtain ⟨u_1, e_1, h⟩ := bd_some h
  refine cm_Vl (As := []) (rest := []) ⟨hx, hb, hml, hown, hts⟩ (c_X8_weigh (ca := ca) (ev := ev) (h0 := h0) (h1 := h1) (h2 := h2) (h3 := h3) (h4 := h4) (h5 := h5) (h6 := h6) (h7 := h7) (h8 := h8) (h9 := h9) (h10 := h10) (h11 := h11) (h12 := h12) (h13 := h13) (h14 := h14) (h15 := h15) (h16 := h16) (h17 := h17) (now := now) (kept := kept) (isKept := isKept) (found := found) (order := order) (doubts := doubts) (doubtMany := doubtMany) (weights := weights) (worn := worn) (pairs := pairs) (isTwice := isTwice) (doer := doer) (doneTo := doneTo) (doers := doers) (tape := tape) (taped := taped) (begins := begins) (ends := ends) (sort := sort) (value := value) (isWrong := isWrong) (items := items) (itemMany := itemMany) (bowThen := bowThen) (doubtThen := doubtThen) (deedThen := deedThen) (sayingThen := sayingThen) (widths := widths) (sizes := sizes) (numbers := numbers) (moved := moved) e_1) (cwV 0 hts gX8_wornBy_X8_weigh rfl rfl rfl hd_X8_weigh ⟨Nat.le_of_ble_eq_true rfl, Nat.le_of_ble_eq_true rfl⟩) hK hP hD hS hA hE (q0 := 0) (ci := 8) rfl rfl rfl rfl hl.1 rfl (Nat.le_of_ble_eq_true rfl) dX8_wornBy_1 ⟨Nat.zero_le _, Nat.zero_le _⟩ (fun H locs hP hD hS => ?_)
  refine lv_pop2_2 hx hb dX8_wornBy_4 rfl ?_
  refine lv_iconst (v := (0 : Int32)) hx hb dX8_wornBy_5 (by decide) ?_
  refine lv_istore_n (lv' := [(3, .int (0 : Int32)), (0, .ref h0), (1, .int a1), (2, .int a2)]) hx hb dX8_wornBy_6 rfl hl (by decide) rfl (fun ls hl => ?_)
  refine lv_iconst (v := (0 : Int32)) hx hb dX8_wornBy_7 (by decide) ?_
  refine lv_istore (lv' := [(4, .int (0 : Int32)), (3, .int (0 : Int32)), (0, .ref h0), (1, .int a1), (2, .int a2)]) hx hb dX8_wornBy_8 hl (by decide) rfl (fun ls hl => ?_)
  have L_10 : ∀ {x1_10 : Int32} {x2_10 : Int32} {now_10 : (Nat → Int32)} {order_10 : (Nat → Int32)} {doubts_10 : (Nat → Int32)} {doubtMany_10 : Int32} {weights_10 : (Nat → Int64)} (n_10 : Nat) {x3_10 : Int32} {x4_10 : Int32} {worn_10 : (Nat → Int32)} {pairs_10 : Int64} {isTwice_10 : Int32} {uL_10 : Int32 × (Nat → Int32) × Int64 × Int32} {H : Heap} {locs : List Loc} {ls : Array Slot}, f_X8_wornBy_10 N x1_10 x2_10 now_10 order_10 doubts_10 doubtMany_10 weights_10  n_10 x3_10 x4_10 worn_10 pairs_10 isTwice_10 = some uL_10 → va_P G vwCl (wM ca ev h0 h1 h2 h3 h4 h5 h6 h7 h8 h9 h10 h11 h12 h13 h14 h15 h16 h17 now_10 kept isKept found order_10 doubts_10 doubtMany_10 weights_10 worn_10 pairs_10 isTwice_10 doer doneTo doers tape taped begins ends sort value isWrong items itemMany bowThen doubtThen deedThen sayingThen widths sizes numbers moved) H → va_D A (wM ca ev h0 h1 h2 h3 h4 h5 h6 h7 h8 h9 h10 h11 h12 h13 h14 h15 h16 h17 now_10 kept isKept found order_10 doubts_10 doubtMany_10 weights_10 worn_10 pairs_10 isTwice_10 doer doneTo doers tape taped begins ends sort value isWrong items itemMany bowThen doubtThen deedThen sayingThen widths sizes numbers moved) → va_S A s.heap H locs → lv_has ls 5 [(0, .ref h0), (1, .int x1_10), (2, .int x2_10), (3, .int x3_10), (4, .int x4_10)] → (∀ {H : Heap} {locs : List Loc} {ls : Array Slot}, va_P G vwCl (wM ca ev h0 h1 h2 h3 h4 h5 h6 h7 h8 h9 h10 h11 h12 h13 h14 h15 h16 h17 now_10 kept isKept found order_10 doubts_10 doubtMany_10 weights_10 uL_10.2.1 uL_10.2.2.1 uL_10.2.2.2 doer doneTo doers tape taped begins ends sort value isWrong items itemMany bowThen doubtThen deedThen sayingThen widths sizes numbers moved) H → va_D A (wM ca ev h0 h1 h2 h3 h4 h5 h6 h7 h8 h9 h10 h11 h12 h13 h14 h15 h16 h17 now_10 kept isKept found order_10 doubts_10 doubtMany_10 weights_10 uL_10.2.1 uL_10.2.2.1 uL_10.2.2.2 doer doneTo doers tape taped begins ends sort value isWrong items itemMany bowThen doubtThen deedThen sayingThen widths sizes numbers moved) → va_S A s.heap H locs → lv_has ls 5 [(3, .int uL_10.1)] → W p l e rm_X8_wornBy s m args below meth c H locs 0 0 Q (F0 m 59 ls [])) → W p l e rm_X8_wornBy s m args below meth c H locs 0 0 Q (F0 m 10 ls []) := by
    intro x1_10 x2_10 now_10 order_10 doubts_10 doubtMany_10 weights_10 n_10
    induction n_10 with
    | zero => intro x3_10 x4_10 worn_10 pairs_10 isTwice_10 uL_10 H locs ls h; exact absurd h (by rw [f_X8_wornBy_10]; exact fun z => nomatch z)
    | succ n_10 ih =>
      intro x3_10 x4_10 worn_10 pairs_10 isTwice_10 uL_10 H locs ls h hP hD hS hl JK_10
      rw [f_X8_wornBy_10] at h
      refine lv_iload hx hb dX8_wornBy_10 (lv_at hl 4 rfl) ?_
      refine lv_aload_n hx hb dX8_wornBy_12 rfl (lv_at hl 0 rfl) ?_
      obtain ⟨u_2, e_2, h⟩ := bd_some h
      refine cm_Vi (As := []) (rest := [.int x4_10]) ⟨hx, hb, hml, hown, hts⟩ (c_X8_nightsThere (ca := ca) (ev := ev) (h0 := h0) (h1 := h1) (h2 := h2) (h3 := h3) (h4 := h4) (h5 := h5) (h6 := h6) (h7 := h7) (h8 := h8) (h9 := h9) (h10 := h10) (h11 := h11) (h12 := h12) (h13 := h13) (h14 := h14) (h15 := h15) (h16 := h16) (h17 := h17) (now := now_10) (kept := kept) (isKept := isKept) (found := found) (order := order_10) (doubts := doubts_10) (doubtMany := doubtMany_10) (weights := weights_10) (worn := worn_10) (pairs := pairs_10) (isTwice := isTwice_10) (doer := doer) (doneTo := doneTo) (doers := doers) (tape := tape) (taped := taped) (begins := begins) (ends := ends) (sort := sort) (value := value) (isWrong := isWrong) (items := items) (itemMany := itemMany) (bowThen := bowThen) (doubtThen := doubtThen) (deedThen := deedThen) (sayingThen := sayingThen) (widths := widths) (sizes := sizes) (numbers := numbers) (moved := moved) e_2) (cwV 0 hts gX8_wornBy_X8_nightsThere rfl rfl rfl hd_X8_nightsThere ⟨Nat.le_of_ble_eq_true rfl, Nat.le_of_ble_eq_true rfl⟩) hK hP hD hS hA hE (q0 := 0) (ci := 8) rfl rfl rfl rfl hl.1 rfl (Nat.le_of_ble_eq_true rfl) dX8_wornBy_13 ⟨Nat.zero_le _, Nat.zero_le _⟩ (fun H locs hP hD hS => ?_)
      refine lv_icmp_ge (tgt := 59) hx hb dX8_wornBy_16 (by decide) (fun c_3 => ?_) (fun c_3 => ?_)
      · have h := ifp c_3 h
        obtain rfl := Option.some.inj h
        exact JK_10 hP hD hS (lv_sub hl [3] rfl)
      · have h := ifn c_3 h
        refine lv_aload_n hx hb dX8_wornBy_19 rfl (lv_at hl 0 rfl) ?_
        refine lv_iload hx hb dX8_wornBy_20 (lv_at hl 4 rfl) ?_
        refine lv_iload_n hx hb dX8_wornBy_22 rfl (lv_at hl 2 rfl) ?_
        obtain ⟨u_4, e_4, h⟩ := bd_some h
        refine cm_Vv (As := [.int x4_10, .int x2_10]) (rest := []) ⟨hx, hb, hml, hown, hts⟩ (c_X8_goes (ca := ca) (ev := ev) (h0 := h0) (h1 := h1) (h2 := h2) (h3 := h3) (h4 := h4) (h5 := h5) (h6 := h6) (h7 := h7) (h8 := h8) (h9 := h9) (h10 := h10) (h11 := h11) (h12 := h12) (h13 := h13) (h14 := h14) (h15 := h15) (h16 := h16) (h17 := h17) (now := now_10) (kept := kept) (isKept := isKept) (found := found) (order := order_10) (doubts := doubts_10) (doubtMany := doubtMany_10) (weights := weights_10) (worn := worn_10) (pairs := pairs_10) (isTwice := isTwice_10) (doer := doer) (doneTo := doneTo) (doers := doers) (tape := tape) (taped := taped) (begins := begins) (ends := ends) (sort := sort) (value := value) (isWrong := isWrong) (items := items) (itemMany := itemMany) (bowThen := bowThen) (doubtThen := doubtThen) (deedThen := deedThen) (sayingThen := sayingThen) (widths := widths) (sizes := sizes) (numbers := numbers) (moved := moved) e_4) (cwV 2 hts gX8_wornBy_X8_goes rfl rfl rfl hd_X8_goes ⟨Nat.le_of_ble_eq_true rfl, Nat.le_of_ble_eq_true rfl⟩) hK hP hD hS hA hE (q0 := 0) (ci := 8) rfl rfl rfl rfl hl.1 rfl (Nat.le_of_ble_eq_true rfl) dX8_wornBy_23 ⟨Nat.zero_le _, Nat.zero_le _⟩ (fun H locs hP hD hS => ?_)
        refine lv_iload_n hx hb dX8_wornBy_26 rfl (lv_at hl 3 rfl) ?_
        refine lv_aload_n hx hb dX8_wornBy_27 rfl (lv_at hl 0 rfl) ?_
        refine va_get (D := G) (ci := 8) (v := .ref h6) (C := RX8) (T := TX8) (N := 32) hx hb hts hin_X8 hown hK hP 0 rfl rfl 7 (by decide) fk_25 (fun _ h9 => h9) rfl dX8_wornBy_28 ?_
        refine lv_iload hx hb dX8_wornBy_31 (lv_at hl 4 rfl) ?_
        obtain ⟨i_5, h⟩ := gd_some h
        refine va_lald hx hb hK hP 6 1 rfl rfl (ix_in i_5) dX8_wornBy_33 ?_
        refine lv_lconst (v := (0 : Int64)) hx hb dX8_wornBy_34 (by decide) ?_
        refine W.lcmp hx hb dX8_wornBy_35 ?_
        obtain ⟨u_6, e_6, h⟩ := bd_some h
        have J_6 : ∀ {H : Heap} {locs : List Loc} {ls : Array Slot}, va_P G vwCl (wM ca ev h0 h1 h2 h3 h4 h5 h6 h7 h8 h9 h10 h11 h12 h13 h14 h15 h16 h17 now_10 kept isKept found order_10 doubts_10 doubtMany_10 weights_10 u_4.1 u_4.2.1 u_4.2.2 doer doneTo doers tape taped begins ends sort value isWrong items itemMany bowThen doubtThen deedThen sayingThen widths sizes numbers moved) H → va_D A (wM ca ev h0 h1 h2 h3 h4 h5 h6 h7 h8 h9 h10 h11 h12 h13 h14 h15 h16 h17 now_10 kept isKept found order_10 doubts_10 doubtMany_10 weights_10 u_4.1 u_4.2.1 u_4.2.2 doer doneTo doers tape taped begins ends sort value isWrong items itemMany bowThen doubtThen deedThen sayingThen widths sizes numbers moved) → va_S A s.heap H locs → lv_has ls 5 [(0, .ref h0), (1, .int x1_10), (2, .int x2_10), (4, .int x4_10)] → W p l e rm_X8_wornBy s m args below meth c H locs 0 0 Q (F0 m 51 ls [.int u_6, .int x3_10]) := by
          intro H locs ls hP hD hS hl 
          refine lv_ior hx hb dX8_wornBy_51 ?_
          refine lv_istore_n (lv' := [(3, .int (x3_10 ||| u_6)), (0, .ref h0), (1, .int x1_10), (2, .int x2_10), (4, .int x4_10)]) hx hb dX8_wornBy_52 rfl hl (by decide) rfl (fun ls hl => ?_)
          refine lv_iinc (v := (x4_10 + (1 : Int32))) (lv' := [(4, .int (x4_10 + (1 : Int32))), (3, .int (x3_10 ||| u_6)), (0, .ref h0), (1, .int x1_10), (2, .int x2_10)]) hx hb dX8_wornBy_53 hl (k := 4) rfl rfl (by decide) rfl (fun ls hl => ?_)
          refine lv_goto (tgt := 10) hx hb dX8_wornBy_56 (by decide) ?_
          exact ih h hP hD hS (lv_sub hl [2, 3, 4, 1, 0] rfl) JK_10
        have h := e_6
        clear e_6
        refine lv_if_le (tgt := 50) hx hb dX8_wornBy_36 (by decide) (fun c_6 => ?_) (fun c_6 => ?_)
        · have h := ifp c_6 h
          refine lv_iconst (v := (0 : Int32)) hx hb dX8_wornBy_50 (by decide) ?_
          obtain rfl := Option.some.inj h
          exact J_6 hP hD hS (lv_sub hl [0, 1, 2, 4] rfl)
        · have h := ifn c_6 h
          refine lv_iconst (v := (1 : Int32)) hx hb dX8_wornBy_39 (by decide) ?_
          refine lv_aload_n hx hb dX8_wornBy_40 rfl (lv_at hl 0 rfl) ?_
          refine va_get (D := G) (ci := 8) (v := .ref h7) (C := RX8) (T := TX8) (N := 32) hx hb hts hin_X8 hown hK hP 0 rfl rfl 8 (by decide) fk_29 (fun _ h9 => h9) rfl dX8_wornBy_41 ?_
          refine lv_iload_n hx hb dX8_wornBy_44 rfl (lv_at hl 1 rfl) ?_
          obtain ⟨i_7, h⟩ := gd_some h
          refine va_iald hx hb hK hP 7 0 rfl rfl (ix_in i_7) dX8_wornBy_45 ?_
          refine lv_ishl hx hb dX8_wornBy_46 ?_
          refine lv_goto (tgt := 51) hx hb dX8_wornBy_47 (by decide) ?_
          obtain rfl := Option.some.inj h
          exact J_6 hP hD hS (lv_sub hl [0, 1, 2, 4] rfl)
  obtain ⟨u_8, e_8, h⟩ := bd_some h
  refine L_10 _ e_8 hP hD hS (lv_sub hl [2, 3, 4, 1, 0] rfl) ?_
  intro H locs ls hP hD hS hl
  refine lv_iload_n hx hb dX8_wornBy_59 rfl (lv_at hl 0 rfl) ?_
  obtain rfl := Option.some.inj h
  exact hRet hP hD hS dX8_wornBy_60
abbrev rm_X8_wore : Room := { frames := 6, cells := 0, slots := 0, locals := 144 }
theorem hd_X8_wore : yX8_wore.cls = RX8 ∧ yX8_wore.cls ≠ "java/lang/invoke/MethodHandle" ∧ yX8_wore.cls ≠ "java/lang/invoke/VarHandle" ∧ (parseMethodDescriptor yX8_wore.desc).map (fun d => d.parameters.length) = some 2 := by decide +kernel
set_option maxHeartbeats 4000000 in
set_option maxRecDepth 100000 in
theorem c_X8_wore {l : Launch} {G : va_G} {ca : Nat → ClassId} {ev : Nat → Nat} {h0 h1 h2 h3 h4 h5 h6 h7 h8 h9 h10 h11 h12 h13 h14 h15 h16 h17 : Nat} {now : (Nat → Int32)} {kept : (Nat → Int32)} {isKept : Int32} {found : (Nat → Int32)} {order : (Nat → Int32)} {doubts : (Nat → Int32)} {doubtMany : Int32} {weights : (Nat → Int64)} {worn : (Nat → Int32)} {pairs : Int64} {isTwice : Int32} {doer : (Nat → Int32)} {doneTo : (Nat → Int32)} {doers : (Nat → Int64)} {tape : (Nat → Int32)} {taped : Int32} {begins : Int32} {ends : Int32} {sort : Int32} {value : Int32} {isWrong : Int32} {items : (Nat → Int32)} {itemMany : Int32} {bowThen : Int32} {doubtThen : Int32} {deedThen : Int32} {sayingThen : Int32} {widths : (Nat → Int32)} {sizes : (Nat → Int32)} {numbers : (Nat → Int64)} {moved : (Nat → Int64)} {a1 : Int32} {a2 : Int32} {N : Nat} {res : Int32 × (Nat → Int32) × (Nat → Int32) × (Nat → Int32) × Int32 × (Nat → Int64) × (Nat → Int32) × Int64 × Int32} (h : f_X8_wore N now found order doubts doubtMany weights worn pairs isTwice a1 a2 = some res) : CtI l yX8_wore wsX8_wore rm_X8_wore G ca ev [.ref h0, .int a1, .int a2] (wM ca ev h0 h1 h2 h3 h4 h5 h6 h7 h8 h9 h10 h11 h12 h13 h14 h15 h16 h17 now kept isKept found order doubts doubtMany weights worn pairs isTwice doer doneTo doers tape taped begins ends sort value isWrong items itemMany bowThen doubtThen deedThen sayingThen widths sizes numbers moved) (wM ca ev h0 h1 h2 h3 h4 h5 h6 h7 h8 h9 h10 h11 h12 h13 h14 h15 h16 h17 now kept isKept res.2.1 res.2.2.1 res.2.2.2.1 res.2.2.2.2.1 res.2.2.2.2.2.1 res.2.2.2.2.2.2.1 res.2.2.2.2.2.2.2.1 res.2.2.2.2.2.2.2.2 doer doneTo doers tape taped begins ends sort value isWrong items itemMany bowThen doubtThen deedThen sayingThen widths sizes numbers moved) res.1 := by
  unfold f_X8_wore at h
  refine en_i (by decide) rfl (Nat.le_of_ble_eq_true rfl) ?_
  intro p e s m args below meth c A Q H locs ls hx hb hml hown hts hA hP hK hD hE hS hl hRet
  have hown : s.vm.findClass RX8 = some m.cls := hown
  have hl : lv_has ls 4 [(0, .ref h0), (1, .int a1), (2, .int a2)] := hl
  refine lv_aload_n hx hb dX8_wore_0 rfl (lv_at hl 0 rfl) ?_
  refine lv_iload_n hx hb dX8_wore_1 rfl (lv_at hl 1 rfl) ?_
  obtain ⟨u_1, e_1, h⟩ := bd_some h
  refine cm_Vi (As := [.int a1]) (rest := []) ⟨hx, hb, hml, hown, hts⟩ (c_X8_isOne (ca := ca) (ev := ev) (h0 := h0) (h1 := h1) (h2 := h2) (h3 := h3) (h4 := h4) (h5 := h5) (h6 := h6) (h7 := h7) (h8 := h8) (h9 := h9) (h10 := h10) (h11 := h11) (h12 := h12) (h13 := h13) (h14 := h14) (h15 := h15) (h16 := h16) (h17 := h17) (now := now) (kept := kept) (isKept := isKept) (found := found) (order := order) (doubts := doubts) (doubtMany := doubtMany) (weights := weights) (worn := worn) (pairs := pairs) (isTwice := isTwice) (doer := doer) (doneTo := doneTo) (doers := doers) (tape := tape) (taped := taped) (begins := begins) (ends := ends) (sort := sort) (value := value) (isWrong := isWrong) (items := items) (itemMany := itemMany) (bowThen := bowThen) (doubtThen := doubtThen) (deedThen := deedThen) (sayingThen := sayingThen) (widths := widths) (sizes := sizes) (numbers := numbers) (moved := moved) e_1) (cwV 1 hts gX8_wore_X8_isOne rfl rfl rfl hd_X8_isOne ⟨Nat.le_of_ble_eq_true rfl, Nat.le_of_ble_eq_true rfl⟩) hK hP hD hS hA hE (q0 := 0) (ci := 8) rfl rfl rfl rfl hl.1 rfl (Nat.le_of_ble_eq_true rfl) dX8_wore_2 ⟨Nat.zero_le _, Nat.zero_le _⟩ (fun H locs hP hD hS => ?_)
  refine lv_if_eq (tgt := 15) hx hb dX8_wore_5 (by decide) (fun c_2 => ?_) (fun c_2 => ?_)
  · have h := ifp c_2 h
    refine lv_aload_n hx hb dX8_wore_15 rfl (lv_at hl 0 rfl) ?_
    refine lv_ldc (v := (-1000000001 : Int32)) hx hb hown (hts (.constant RX8 77 (-1000000001)) (by decide +kernel)) dX8_wore_16 ?_
    obtain ⟨u_3, e_3, h⟩ := bd_some h
    refine cm_Vi (As := [.int (-1000000001 : Int32)]) (rest := []) ⟨hx, hb, hml, hown, hts⟩ (c_X8_finding (ca := ca) (ev := ev) (h0 := h0) (h1 := h1) (h2 := h2) (h3 := h3) (h4 := h4) (h5 := h5) (h6 := h6) (h7 := h7) (h8 := h8) (h9 := h9) (h10 := h10) (h11 := h11) (h12 := h12) (h13 := h13) (h14 := h14) (h15 := h15) (h16 := h16) (h17 := h17) (now := now) (kept := kept) (isKept := isKept) (found := found) (order := order) (doubts := doubts) (doubtMany := doubtMany) (weights := weights) (worn := worn) (pairs := pairs) (isTwice := isTwice) (doer := doer) (doneTo := doneTo) (doers := doers) (tape := tape) (taped := taped) (begins := begins) (ends := ends) (sort := sort) (value := value) (isWrong := isWrong) (items := items) (itemMany := itemMany) (bowThen := bowThen) (doubtThen := doubtThen) (deedThen := deedThen) (sayingThen := sayingThen) (widths := widths) (sizes := sizes) (numbers := numbers) (moved := moved) e_3) (cwV 1 hts gX8_wore_X8_finding rfl rfl rfl hd_X8_finding ⟨Nat.le_of_ble_eq_true rfl, Nat.le_of_ble_eq_true rfl⟩) hK hP hD hS hA hE (q0 := 0) (ci := 8) rfl rfl rfl rfl hl.1 rfl (Nat.le_of_ble_eq_true rfl) dX8_wore_18 ⟨Nat.zero_le _, Nat.zero_le _⟩ (fun H locs hP hD hS => ?_)
    obtain rfl := Option.some.inj h
    exact hRet hP hD hS dX8_wore_21
  · have h := ifn c_2 h
    refine lv_iload_n hx hb dX8_wore_8 rfl (lv_at hl 2 rfl) ?_
    obtain ⟨u_4, e_4, h⟩ := bd_some h
    refine cn_Si (As := [.int a2]) (rest := []) ⟨hx, hb, hml, hown, hts⟩ (c_X8_isHour e_4) (va_cwS 1 hts gX8_wore_X8_isHour rfl rfl rfl hd_X8_isHour ⟨Nat.le_of_ble_eq_true rfl, Nat.le_of_ble_eq_true rfl⟩) hK hP hD hS hA hE rfl hl.1 rfl (Nat.le_of_ble_eq_true rfl) dX8_wore_9 ⟨Nat.zero_le _, Nat.zero_le _⟩ (fun H locs hP hD hS => ?_)
    refine lv_if_ne (tgt := 22) hx hb dX8_wore_12 (by decide) (fun c_5 => ?_) (fun c_5 => ?_)
    · have h := ifn c_5 h
      refine lv_aload_n hx hb dX8_wore_22 rfl (lv_at hl 0 rfl) ?_
      refine lv_iload_n hx hb dX8_wore_23 rfl (lv_at hl 1 rfl) ?_
      refine lv_iload_n hx hb dX8_wore_24 rfl (lv_at hl 2 rfl) ?_
      obtain ⟨u_6, e_6, h⟩ := bd_some h
      refine cm_Vi (As := [.int a1, .int a2]) (rest := []) ⟨hx, hb, hml, hown, hts⟩ (c_X8_wornBy (ca := ca) (ev := ev) (h0 := h0) (h1 := h1) (h2 := h2) (h3 := h3) (h4 := h4) (h5 := h5) (h6 := h6) (h7 := h7) (h8 := h8) (h9 := h9) (h10 := h10) (h11 := h11) (h12 := h12) (h13 := h13) (h14 := h14) (h15 := h15) (h16 := h16) (h17 := h17) (now := now) (kept := kept) (isKept := isKept) (found := found) (order := order) (doubts := doubts) (doubtMany := doubtMany) (weights := weights) (worn := worn) (pairs := pairs) (isTwice := isTwice) (doer := doer) (doneTo := doneTo) (doers := doers) (tape := tape) (taped := taped) (begins := begins) (ends := ends) (sort := sort) (value := value) (isWrong := isWrong) (items := items) (itemMany := itemMany) (bowThen := bowThen) (doubtThen := doubtThen) (deedThen := deedThen) (sayingThen := sayingThen) (widths := widths) (sizes := sizes) (numbers := numbers) (moved := moved) e_6) (cwV 2 hts gX8_wore_X8_wornBy rfl rfl rfl hd_X8_wornBy ⟨Nat.le_of_ble_eq_true rfl, Nat.le_of_ble_eq_true rfl⟩) hK hP hD hS hA hE (q0 := 0) (ci := 8) rfl rfl rfl rfl hl.1 rfl (Nat.le_of_ble_eq_true rfl) dX8_wore_25 ⟨Nat.zero_le _, Nat.zero_le _⟩ (fun H locs hP hD hS => ?_)
      obtain ⟨u_7, e_7, h⟩ := bd_some h
      refine cn_Si (As := [.int u_6.1]) (rest := []) ⟨hx, hb, hml, hown, hts⟩ (c_X8_only e_7) (va_cwS 1 hts gX8_wore_X8_only rfl rfl rfl hd_X8_only ⟨Nat.le_of_ble_eq_true rfl, Nat.le_of_ble_eq_true rfl⟩) hK hP hD hS hA hE rfl hl.1 rfl (Nat.le_of_ble_eq_true rfl) dX8_wore_28 ⟨Nat.zero_le _, Nat.zero_le _⟩ (fun H locs hP hD hS => ?_)
      refine lv_istore_n (lv' := [(3, .int u_7), (0, .ref h0), (1, .int a1), (2, .int a2)]) hx hb dX8_wore_31 rfl hl (by decide) rfl (fun ls hl => ?_)
      refine lv_iload_n hx hb dX8_wore_32 rfl (lv_at hl 0 rfl) ?_
      refine lv_if_ge (tgt := 45) hx hb dX8_wore_33 (by decide) (fun c_8 => ?_) (fun c_8 => ?_)
      · have h := ifp c_8 h
        refine lv_iload_n hx hb dX8_wore_45 rfl (lv_at hl 0 rfl) ?_
        obtain rfl := Option.some.inj h
        exact hRet hP hD hS dX8_wore_46
      · have h := ifn c_8 h
        refine lv_aload_n hx hb dX8_wore_36 rfl (lv_at hl 1 rfl) ?_
        refine lv_ldc (v := (-1000000004 : Int32)) hx hb hown (hts (.constant RX8 179 (-1000000004)) (by decide +kernel)) dX8_wore_37 ?_
        obtain ⟨u_9, e_9, h⟩ := bd_some h
        refine cm_Vi (As := [.int (-1000000004 : Int32)]) (rest := []) ⟨hx, hb, hml, hown, hts⟩ (c_X8_finding (ca := ca) (ev := ev) (h0 := h0) (h1 := h1) (h2 := h2) (h3 := h3) (h4 := h4) (h5 := h5) (h6 := h6) (h7 := h7) (h8 := h8) (h9 := h9) (h10 := h10) (h11 := h11) (h12 := h12) (h13 := h13) (h14 := h14) (h15 := h15) (h16 := h16) (h17 := h17) (now := now) (kept := kept) (isKept := isKept) (found := found) (order := u_6.2.1) (doubts := u_6.2.2.1) (doubtMany := u_6.2.2.2.1) (weights := u_6.2.2.2.2.1) (worn := u_6.2.2.2.2.2.1) (pairs := u_6.2.2.2.2.2.2.1) (isTwice := u_6.2.2.2.2.2.2.2) (doer := doer) (doneTo := doneTo) (doers := doers) (tape := tape) (taped := taped) (begins := begins) (ends := ends) (sort := sort) (value := value) (isWrong := isWrong) (items := items) (itemMany := itemMany) (bowThen := bowThen) (doubtThen := doubtThen) (deedThen := deedThen) (sayingThen := sayingThen) (widths := widths) (sizes := sizes) (numbers := numbers) (moved := moved) e_9) (cwV 1 hts gX8_wore_X8_finding rfl rfl rfl hd_X8_finding ⟨Nat.le_of_ble_eq_true rfl, Nat.le_of_ble_eq_true rfl⟩) hK hP hD hS hA hE (q0 := 0) (ci := 8) rfl rfl rfl rfl hl.1 rfl (Nat.le_of_ble_eq_true rfl) dX8_wore_39 ⟨Nat.zero_le _, Nat.zero_le _⟩ (fun H locs hP hD hS => ?_)
        refine lv_goto (tgt := 46) hx hb dX8_wore_42 (by decide) ?_
        obtain rfl := Option.some.inj h
        exact hRet hP hD hS dX8_wore_46
    · have h := ifp c_5 h
      refine lv_aload_n hx hb dX8_wore_15 rfl (lv_at hl 0 rfl) ?_
      refine lv_ldc (v := (-1000000001 : Int32)) hx hb hown (hts (.constant RX8 77 (-1000000001)) (by decide +kernel)) dX8_wore_16 ?_
      obtain ⟨u_10, e_10, h⟩ := bd_some h
      refine cm_Vi (As := [.int (-1000000001 : Int32)]) (rest := []) ⟨hx, hb, hml, hown, hts⟩ (c_X8_finding (ca := ca) (ev := ev) (h0 := h0) (h1 := h1) (h2 := h2) (h3 := h3) (h4 := h4) (h5 := h5) (h6 := h6) (h7 := h7) (h8 := h8) (h9 := h9) (h10 := h10) (h11 := h11) (h12 := h12) (h13 := h13) (h14 := h14) (h15 := h15) (h16 := h16) (h17 := h17) (now := now) (kept := kept) (isKept := isKept) (found := found) (order := order) (doubts := doubts) (doubtMany := doubtMany) (weights := weights) (worn := worn) (pairs := pairs) (isTwice := isTwice) (doer := doer) (doneTo := doneTo) (doers := doers) (tape := tape) (taped := taped) (begins := begins) (ends := ends) (sort := sort) (value := value) (isWrong := isWrong) (items := items) (itemMany := itemMany) (bowThen := bowThen) (doubtThen := doubtThen) (deedThen := deedThen) (sayingThen := sayingThen) (widths := widths) (sizes := sizes) (numbers := numbers) (moved := moved) e_10) (cwV 1 hts gX8_wore_X8_finding rfl rfl rfl hd_X8_finding ⟨Nat.le_of_ble_eq_true rfl, Nat.le_of_ble_eq_true rfl⟩) hK hP hD hS hA hE (q0 := 0) (ci := 8) rfl rfl rfl rfl hl.1 rfl (Nat.le_of_ble_eq_true rfl) dX8_wore_18 ⟨Nat.zero_le _, Nat.zero_le _⟩ (fun H locs hP hD hS => ?_)
      obtain rfl := Option.some.inj h
      exact hRet hP hD hS dX8_wore_21
abbrev rm_X8_may : Room := { frames := 6, cells := 0, slots := 0, locals := 144 }
theorem hd_X8_may : yX8_may.cls = RX8 ∧ yX8_may.cls ≠ "java/lang/invoke/MethodHandle" ∧ yX8_may.cls ≠ "java/lang/invoke/VarHandle" ∧ (parseMethodDescriptor yX8_may.desc).map (fun d => d.parameters.length) = some 2 := by decide +kernel
set_option maxHeartbeats 4000000 in
set_option maxRecDepth 100000 in
theorem c_X8_may {l : Launch} {G : va_G} {ca : Nat → ClassId} {ev : Nat → Nat} {h0 h1 h2 h3 h4 h5 h6 h7 h8 h9 h10 h11 h12 h13 h14 h15 h16 h17 : Nat} {now : (Nat → Int32)} {kept : (Nat → Int32)} {isKept : Int32} {found : (Nat → Int32)} {order : (Nat → Int32)} {doubts : (Nat → Int32)} {doubtMany : Int32} {weights : (Nat → Int64)} {worn : (Nat → Int32)} {pairs : Int64} {isTwice : Int32} {doer : (Nat → Int32)} {doneTo : (Nat → Int32)} {doers : (Nat → Int64)} {tape : (Nat → Int32)} {taped : Int32} {begins : Int32} {ends : Int32} {sort : Int32} {value : Int32} {isWrong : Int32} {items : (Nat → Int32)} {itemMany : Int32} {bowThen : Int32} {doubtThen : Int32} {deedThen : Int32} {sayingThen : Int32} {widths : (Nat → Int32)} {sizes : (Nat → Int32)} {numbers : (Nat → Int64)} {moved : (Nat → Int64)} {a1 : Int32} {a2 : Int32} {N : Nat} {res : Int32 × (Nat → Int32) × (Nat → Int32) × (Nat → Int32) × Int32 × (Nat → Int64) × (Nat → Int32) × Int64 × Int32} (h : f_X8_may N now found order doubts doubtMany weights worn pairs isTwice a1 a2 = some res) : CtI l yX8_may wsX8_may rm_X8_may G ca ev [.ref h0, .int a1, .int a2] (wM ca ev h0 h1 h2 h3 h4 h5 h6 h7 h8 h9 h10 h11 h12 h13 h14 h15 h16 h17 now kept isKept found order doubts doubtMany weights worn pairs isTwice doer doneTo doers tape taped begins ends sort value isWrong items itemMany bowThen doubtThen deedThen sayingThen widths sizes numbers moved) (wM ca ev h0 h1 h2 h3 h4 h5 h6 h7 h8 h9 h10 h11 h12 h13 h14 h15 h16 h17 now kept isKept res.2.1 res.2.2.1 res.2.2.2.1 res.2.2.2.2.1 res.2.2.2.2.2.1 res.2.2.2.2.2.2.1 res.2.2.2.2.2.2.2.1 res.2.2.2.2.2.2.2.2 doer doneTo doers tape taped begins ends sort value isWrong items itemMany bowThen doubtThen deedThen sayingThen widths sizes numbers moved) res.1 := by
  unfold f_X8_may at h
  refine en_i (by decide) rfl (Nat.le_of_ble_eq_true rfl) ?_
  intro p e s m args below meth c A Q H locs ls hx hb hml hown hts hA hP hK hD hE hS hl hRet
  have hown : s.vm.findClass RX8 = some m.cls := hown
  have hl : lv_has ls 3 [(0, .ref h0), (1, .int a1), (2, .int a2)] := hl
  refine lv_aload_n hx hb dX8_may_0 rfl (lv_at hl 0 rfl) ?_
  refine lv_iload_n hx hb dX8_may_1 rfl (lv_at hl 1 rfl) ?_
  obtain ⟨u_1, e_1, h⟩ := bd_some h
  refine cm_Vi (As := [.int a1]) (rest := []) ⟨hx, hb, hml, hown, hts⟩ (c_X8_isOne (ca := ca) (ev := ev) (h0 := h0) (h1 := h1) (h2 := h2) (h3 := h3) (h4 := h4) (h5 := h5) (h6 := h6) (h7 := h7) (h8 := h8) (h9 := h9) (h10 := h10) (h11 := h11) (h12 := h12) (h13 := h13) (h14 := h14) (h15 := h15) (h16 := h16) (h17 := h17) (now := now) (kept := kept) (isKept := isKept) (found := found) (order := order) (doubts := doubts) (doubtMany := doubtMany) (weights := weights) (worn := worn) (pairs := pairs) (isTwice := isTwice) (doer := doer) (doneTo := doneTo) (doers := doers) (tape := tape) (taped := taped) (begins := begins) (ends := ends) (sort := sort) (value := value) (isWrong := isWrong) (items := items) (itemMany := itemMany) (bowThen := bowThen) (doubtThen := doubtThen) (deedThen := deedThen) (sayingThen := sayingThen) (widths := widths) (sizes := sizes) (numbers := numbers) (moved := moved) e_1) (cwV 1 hts gX8_may_X8_isOne rfl rfl rfl hd_X8_isOne ⟨Nat.le_of_ble_eq_true rfl, Nat.le_of_ble_eq_true rfl⟩) hK hP hD hS hA hE (q0 := 0) (ci := 8) rfl rfl rfl rfl hl.1 rfl (Nat.le_of_ble_eq_true rfl) dX8_may_2 ⟨Nat.zero_le _, Nat.zero_le _⟩ (fun H locs hP hD hS => ?_)
  refine lv_if_eq (tgt := 24) hx hb dX8_may_5 (by decide) (fun c_2 => ?_) (fun c_2 => ?_)
  · have h := ifp c_2 h
    refine lv_aload_n hx hb dX8_may_24 rfl (lv_at hl 0 rfl) ?_
    refine lv_ldc (v := (-1000000001 : Int32)) hx hb hown (hts (.constant RX8 77 (-1000000001)) (by decide +kernel)) dX8_may_25 ?_
    obtain ⟨u_3, e_3, h⟩ := bd_some h
    refine cm_Vi (As := [.int (-1000000001 : Int32)]) (rest := []) ⟨hx, hb, hml, hown, hts⟩ (c_X8_finding (ca := ca) (ev := ev) (h0 := h0) (h1 := h1) (h2 := h2) (h3 := h3) (h4 := h4) (h5 := h5) (h6 := h6) (h7 := h7) (h8 := h8) (h9 := h9) (h10 := h10) (h11 := h11) (h12 := h12) (h13 := h13) (h14 := h14) (h15 := h15) (h16 := h16) (h17 := h17) (now := now) (kept := kept) (isKept := isKept) (found := found) (order := order) (doubts := doubts) (doubtMany := doubtMany) (weights := weights) (worn := worn) (pairs := pairs) (isTwice := isTwice) (doer := doer) (doneTo := doneTo) (doers := doers) (tape := tape) (taped := taped) (begins := begins) (ends := ends) (sort := sort) (value := value) (isWrong := isWrong) (items := items) (itemMany := itemMany) (bowThen := bowThen) (doubtThen := doubtThen) (deedThen := deedThen) (sayingThen := sayingThen) (widths := widths) (sizes := sizes) (numbers := numbers) (moved := moved) e_3) (cwV 1 hts gX8_may_X8_finding rfl rfl rfl hd_X8_finding ⟨Nat.le_of_ble_eq_true rfl, Nat.le_of_ble_eq_true rfl⟩) hK hP hD hS hA hE (q0 := 0) (ci := 8) rfl rfl rfl rfl hl.1 rfl (Nat.le_of_ble_eq_true rfl) dX8_may_27 ⟨Nat.zero_le _, Nat.zero_le _⟩ (fun H locs hP hD hS => ?_)
    obtain rfl := Option.some.inj h
    exact hRet hP hD hS dX8_may_30
  · have h := ifn c_2 h
    refine lv_iload_n hx hb dX8_may_8 rfl (lv_at hl 2 rfl) ?_
    obtain ⟨u_4, e_4, h⟩ := bd_some h
    refine cn_Si (As := [.int a2]) (rest := []) ⟨hx, hb, hml, hown, hts⟩ (c_X8_isHour e_4) (va_cwS 1 hts gX8_may_X8_isHour rfl rfl rfl hd_X8_isHour ⟨Nat.le_of_ble_eq_true rfl, Nat.le_of_ble_eq_true rfl⟩) hK hP hD hS hA hE rfl hl.1 rfl (Nat.le_of_ble_eq_true rfl) dX8_may_9 ⟨Nat.zero_le _, Nat.zero_le _⟩ (fun H locs hP hD hS => ?_)
    refine lv_if_eq (tgt := 24) hx hb dX8_may_12 (by decide) (fun c_5 => ?_) (fun c_5 => ?_)
    · have h := ifp c_5 h
      refine lv_aload_n hx hb dX8_may_24 rfl (lv_at hl 0 rfl) ?_
      refine lv_ldc (v := (-1000000001 : Int32)) hx hb hown (hts (.constant RX8 77 (-1000000001)) (by decide +kernel)) dX8_may_25 ?_
      obtain ⟨u_6, e_6, h⟩ := bd_some h
      refine cm_Vi (As := [.int (-1000000001 : Int32)]) (rest := []) ⟨hx, hb, hml, hown, hts⟩ (c_X8_finding (ca := ca) (ev := ev) (h0 := h0) (h1 := h1) (h2 := h2) (h3 := h3) (h4 := h4) (h5 := h5) (h6 := h6) (h7 := h7) (h8 := h8) (h9 := h9) (h10 := h10) (h11 := h11) (h12 := h12) (h13 := h13) (h14 := h14) (h15 := h15) (h16 := h16) (h17 := h17) (now := now) (kept := kept) (isKept := isKept) (found := found) (order := order) (doubts := doubts) (doubtMany := doubtMany) (weights := weights) (worn := worn) (pairs := pairs) (isTwice := isTwice) (doer := doer) (doneTo := doneTo) (doers := doers) (tape := tape) (taped := taped) (begins := begins) (ends := ends) (sort := sort) (value := value) (isWrong := isWrong) (items := items) (itemMany := itemMany) (bowThen := bowThen) (doubtThen := doubtThen) (deedThen := deedThen) (sayingThen := sayingThen) (widths := widths) (sizes := sizes) (numbers := numbers) (moved := moved) e_6) (cwV 1 hts gX8_may_X8_finding rfl rfl rfl hd_X8_finding ⟨Nat.le_of_ble_eq_true rfl, Nat.le_of_ble_eq_true rfl⟩) hK hP hD hS hA hE (q0 := 0) (ci := 8) rfl rfl rfl rfl hl.1 rfl (Nat.le_of_ble_eq_true rfl) dX8_may_27 ⟨Nat.zero_le _, Nat.zero_le _⟩ (fun H locs hP hD hS => ?_)
      obtain rfl := Option.some.inj h
      exact hRet hP hD hS dX8_may_30
    · have h := ifn c_5 h
      refine lv_aload_n hx hb dX8_may_15 rfl (lv_at hl 0 rfl) ?_
      refine lv_iload_n hx hb dX8_may_16 rfl (lv_at hl 1 rfl) ?_
      refine lv_iload_n hx hb dX8_may_17 rfl (lv_at hl 2 rfl) ?_
      obtain ⟨u_7, e_7, h⟩ := bd_some h
      refine cm_Vi (As := [.int a1, .int a2]) (rest := []) ⟨hx, hb, hml, hown, hts⟩ (c_X8_wornBy (ca := ca) (ev := ev) (h0 := h0) (h1 := h1) (h2 := h2) (h3 := h3) (h4 := h4) (h5 := h5) (h6 := h6) (h7 := h7) (h8 := h8) (h9 := h9) (h10 := h10) (h11 := h11) (h12 := h12) (h13 := h13) (h14 := h14) (h15 := h15) (h16 := h16) (h17 := h17) (now := now) (kept := kept) (isKept := isKept) (found := found) (order := order) (doubts := doubts) (doubtMany := doubtMany) (weights := weights) (worn := worn) (pairs := pairs) (isTwice := isTwice) (doer := doer) (doneTo := doneTo) (doers := doers) (tape := tape) (taped := taped) (begins := begins) (ends := ends) (sort := sort) (value := value) (isWrong := isWrong) (items := items) (itemMany := itemMany) (bowThen := bowThen) (doubtThen := doubtThen) (deedThen := deedThen) (sayingThen := sayingThen) (widths := widths) (sizes := sizes) (numbers := numbers) (moved := moved) e_7) (cwV 2 hts gX8_may_X8_wornBy rfl rfl rfl hd_X8_wornBy ⟨Nat.le_of_ble_eq_true rfl, Nat.le_of_ble_eq_true rfl⟩) hK hP hD hS hA hE (q0 := 0) (ci := 8) rfl rfl rfl rfl hl.1 rfl (Nat.le_of_ble_eq_true rfl) dX8_may_18 ⟨Nat.zero_le _, Nat.zero_le _⟩ (fun H locs hP hD hS => ?_)
      refine lv_goto (tgt := 30) hx hb dX8_may_21 (by decide) ?_
      obtain rfl := Option.some.inj h
      exact hRet hP hD hS dX8_may_30
abbrev rm_X8_odds : Room := { frames := 5, cells := 0, slots := 0, locals := 120 }
theorem hd_X8_odds : yX8_odds.cls = RX8 ∧ yX8_odds.cls ≠ "java/lang/invoke/MethodHandle" ∧ yX8_odds.cls ≠ "java/lang/invoke/VarHandle" ∧ (parseMethodDescriptor yX8_odds.desc).map (fun d => d.parameters.length) = some 3 := by decide +kernel
set_option maxHeartbeats 4000000 in
set_option maxRecDepth 100000 in
theorem c_X8_odds {l : Launch} {G : va_G} {ca : Nat → ClassId} {ev : Nat → Nat} {h0 h1 h2 h3 h4 h5 h6 h7 h8 h9 h10 h11 h12 h13 h14 h15 h16 h17 : Nat} {now : (Nat → Int32)} {kept : (Nat → Int32)} {isKept : Int32} {found : (Nat → Int32)} {order : (Nat → Int32)} {doubts : (Nat → Int32)} {doubtMany : Int32} {weights : (Nat → Int64)} {worn : (Nat → Int32)} {pairs : Int64} {isTwice : Int32} {doer : (Nat → Int32)} {doneTo : (Nat → Int32)} {doers : (Nat → Int64)} {tape : (Nat → Int32)} {taped : Int32} {begins : Int32} {ends : Int32} {sort : Int32} {value : Int32} {isWrong : Int32} {items : (Nat → Int32)} {itemMany : Int32} {bowThen : Int32} {doubtThen : Int32} {deedThen : Int32} {sayingThen : Int32} {widths : (Nat → Int32)} {sizes : (Nat → Int32)} {numbers : (Nat → Int64)} {moved : (Nat → Int64)} {a1 : Int32} {a2 : Int32} {a3 : Int32} {N : Nat} {res : Int64 × (Nat → Int32) × (Nat → Int32) × (Nat → Int32) × Int32 × (Nat → Int64) × (Nat → Int32) × Int64 × Int32} (h : f_X8_odds N now found order doubts doubtMany weights worn pairs isTwice a1 a2 a3 = some res) : CtL l yX8_odds wsX8_odds rm_X8_odds G ca ev [.ref h0, .int a1, .int a2, .int a3] (wM ca ev h0 h1 h2 h3 h4 h5 h6 h7 h8 h9 h10 h11 h12 h13 h14 h15 h16 h17 now kept isKept found order doubts doubtMany weights worn pairs isTwice doer doneTo doers tape taped begins ends sort value isWrong items itemMany bowThen doubtThen deedThen sayingThen widths sizes numbers moved) (wM ca ev h0 h1 h2 h3 h4 h5 h6 h7 h8 h9 h10 h11 h12 h13 h14 h15 h16 h17 now kept isKept res.2.1 res.2.2.1 res.2.2.2.1 res.2.2.2.2.1 res.2.2.2.2.2.1 res.2.2.2.2.2.2.1 res.2.2.2.2.2.2.2.1 res.2.2.2.2.2.2.2.2 doer doneTo doers tape taped begins ends sort value isWrong items itemMany bowThen doubtThen deedThen sayingThen widths sizes numbers moved) res.1 := by
  unfold f_X8_odds at h
  refine en_l (by decide) rfl (Nat.le_of_ble_eq_true rfl) ?_
  intro p e s m args below meth c A Q H locs ls hx hb hml hown hts hA hP hK hD hE hS hl hRet
  have hown : s.vm.findClass RX8 = some m.cls := hown
  have hl : lv_has ls 7 [(0, .ref h0), (1, .int a1), (2, .int a2), (3, .int a3)] := hl
  have hin_X8 : ∀ w ∈ u_ws RX8 TX8 32, w ∈ wsX8_odds := fun w h9 => List.mem_cons_of_mem _ (List.mem_append_right _ h9)
  have fk_25 := hts (.fieldLink RX8 25 "MaskBowsModel" "weights" "[J") (by decide +kernel)
  have fk_29 := hts (.fieldLink RX8 29 "MaskBowsModel" "worn" "[I") (by decide +kernel)
  refine lv_aload_n hx hb dX8_odds_0 rfl (lv_at hl 0 rfl) ?_
  refine lv_iload_n hx hb dX8_odds_1 rfl (lv_at hl 1 rfl) ?_
  obtain ⟨u_1, e_1, h⟩ := bd_some h
  refine cm_Vi (As := [.int a1]) (rest := []) ⟨hx, hb, hml, hown, hts⟩ (c_X8_isOne (ca := ca) (ev := ev) (h0 := h0) (h1 := h1) (h2 := h2) (h3 := h3) (h4 := h4) (h5 := h5) (h6 := h6) (h7 := h7) (h8 := h8) (h9 := h9) (h10 := h10) (h11 := h11) (h12 := h12) (h13 := h13) (h14 := h14) (h15 := h15) (h16 := h16) (h17 := h17) (now := now) (kept := kept) (isKept := isKept) (found := found) (order := order) (doubts := doubts) (doubtMany := doubtMany) (weights := weights) (worn := worn) (pairs := pairs) (isTwice := isTwice) (doer := doer) (doneTo := doneTo) (doers := doers) (tape := tape) (taped := taped) (begins := begins) (ends := ends) (sort := sort) (value := value) (isWrong := isWrong) (items := items) (itemMany := itemMany) (bowThen := bowThen) (doubtThen := doubtThen) (deedThen := deedThen) (sayingThen := sayingThen) (widths := widths) (sizes := sizes) (numbers := numbers) (moved := moved) e_1) (cwV 1 hts gX8_odds_X8_isOne rfl rfl rfl hd_X8_isOne ⟨Nat.le_of_ble_eq_true rfl, Nat.le_of_ble_eq_true rfl⟩) hK hP hD hS hA hE (q0 := 0) (ci := 8) rfl rfl rfl rfl hl.1 rfl (Nat.le_of_ble_eq_true rfl) dX8_odds_2 ⟨Nat.zero_le _, Nat.zero_le _⟩ (fun H locs hP hD hS => ?_)
  refine lv_if_eq (tgt := 23) hx hb dX8_odds_5 (by decide) (fun c_2 => ?_) (fun c_2 => ?_)
  · have h := ifp c_2 h
    refine lv_aload_n hx hb dX8_odds_23 rfl (lv_at hl 0 rfl) ?_
    refine lv_ldc (v := (-1000000001 : Int32)) hx hb hown (hts (.constant RX8 77 (-1000000001)) (by decide +kernel)) dX8_odds_24 ?_
    obtain ⟨u_3, e_3, h⟩ := bd_some h
    refine cm_Vi (As := [.int (-1000000001 : Int32)]) (rest := []) ⟨hx, hb, hml, hown, hts⟩ (c_X8_finding (ca := ca) (ev := ev) (h0 := h0) (h1 := h1) (h2 := h2) (h3 := h3) (h4 := h4) (h5 := h5) (h6 := h6) (h7 := h7) (h8 := h8) (h9 := h9) (h10 := h10) (h11 := h11) (h12 := h12) (h13 := h13) (h14 := h14) (h15 := h15) (h16 := h16) (h17 := h17) (now := now) (kept := kept) (isKept := isKept) (found := found) (order := order) (doubts := doubts) (doubtMany := doubtMany) (weights := weights) (worn := worn) (pairs := pairs) (isTwice := isTwice) (doer := doer) (doneTo := doneTo) (doers := doers) (tape := tape) (taped := taped) (begins := begins) (ends := ends) (sort := sort) (value := value) (isWrong := isWrong) (items := items) (itemMany := itemMany) (bowThen := bowThen) (doubtThen := doubtThen) (deedThen := deedThen) (sayingThen := sayingThen) (widths := widths) (sizes := sizes) (numbers := numbers) (moved := moved) e_3) (cwV 1 hts gX8_odds_X8_finding rfl rfl rfl hd_X8_finding ⟨Nat.le_of_ble_eq_true rfl, Nat.le_of_ble_eq_true rfl⟩) hK hP hD hS hA hE (q0 := 0) (ci := 8) rfl rfl rfl rfl hl.1 rfl (Nat.le_of_ble_eq_true rfl) dX8_odds_26 ⟨Nat.zero_le _, Nat.zero_le _⟩ (fun H locs hP hD hS => ?_)
    refine lv_i2l (v := u_3.1.toInt64) hx hb dX8_odds_29 rfl ?_
    obtain rfl := Option.some.inj h
    exact hRet hP hD hS dX8_odds_30
  · have h := ifn c_2 h
    refine lv_aload_n hx hb dX8_odds_8 rfl (lv_at hl 0 rfl) ?_
    refine lv_iload_n hx hb dX8_odds_9 rfl (lv_at hl 2 rfl) ?_
    obtain ⟨u_4, e_4, h⟩ := bd_some h
    refine cm_Vi (As := [.int a2]) (rest := []) ⟨hx, hb, hml, hown, hts⟩ (c_X8_isOne (ca := ca) (ev := ev) (h0 := h0) (h1 := h1) (h2 := h2) (h3 := h3) (h4 := h4) (h5 := h5) (h6 := h6) (h7 := h7) (h8 := h8) (h9 := h9) (h10 := h10) (h11 := h11) (h12 := h12) (h13 := h13) (h14 := h14) (h15 := h15) (h16 := h16) (h17 := h17) (now := now) (kept := kept) (isKept := isKept) (found := found) (order := order) (doubts := doubts) (doubtMany := doubtMany) (weights := weights) (worn := worn) (pairs := pairs) (isTwice := isTwice) (doer := doer) (doneTo := doneTo) (doers := doers) (tape := tape) (taped := taped) (begins := begins) (ends := ends) (sort := sort) (value := value) (isWrong := isWrong) (items := items) (itemMany := itemMany) (bowThen := bowThen) (doubtThen := doubtThen) (deedThen := deedThen) (sayingThen := sayingThen) (widths := widths) (sizes := sizes) (numbers := numbers) (moved := moved) e_4) (cwV 1 hts gX8_odds_X8_isOne rfl rfl rfl hd_X8_isOne ⟨Nat.le_of_ble_eq_true rfl, Nat.le_of_ble_eq_true rfl⟩) hK hP hD hS hA hE (q0 := 0) (ci := 8) rfl rfl rfl rfl hl.1 rfl (Nat.le_of_ble_eq_true rfl) dX8_odds_10 ⟨Nat.zero_le _, Nat.zero_le _⟩ (fun H locs hP hD hS => ?_)
    refine lv_if_eq (tgt := 23) hx hb dX8_odds_13 (by decide) (fun c_5 => ?_) (fun c_5 => ?_)
    · have h := ifp c_5 h
      refine lv_aload_n hx hb dX8_odds_23 rfl (lv_at hl 0 rfl) ?_
      refine lv_ldc (v := (-1000000001 : Int32)) hx hb hown (hts (.constant RX8 77 (-1000000001)) (by decide +kernel)) dX8_odds_24 ?_
      obtain ⟨u_6, e_6, h⟩ := bd_some h
      refine cm_Vi (As := [.int (-1000000001 : Int32)]) (rest := []) ⟨hx, hb, hml, hown, hts⟩ (c_X8_finding (ca := ca) (ev := ev) (h0 := h0) (h1 := h1) (h2 := h2) (h3 := h3) (h4 := h4) (h5 := h5) (h6 := h6) (h7 := h7) (h8 := h8) (h9 := h9) (h10 := h10) (h11 := h11) (h12 := h12) (h13 := h13) (h14 := h14) (h15 := h15) (h16 := h16) (h17 := h17) (now := now) (kept := kept) (isKept := isKept) (found := found) (order := order) (doubts := doubts) (doubtMany := doubtMany) (weights := weights) (worn := worn) (pairs := pairs) (isTwice := isTwice) (doer := doer) (doneTo := doneTo) (doers := doers) (tape := tape) (taped := taped) (begins := begins) (ends := ends) (sort := sort) (value := value) (isWrong := isWrong) (items := items) (itemMany := itemMany) (bowThen := bowThen) (doubtThen := doubtThen) (deedThen := deedThen) (sayingThen := sayingThen) (widths := widths) (sizes := sizes) (numbers := numbers) (moved := moved) e_6) (cwV 1 hts gX8_odds_X8_finding rfl rfl rfl hd_X8_finding ⟨Nat.le_of_ble_eq_true rfl, Nat.le_of_ble_eq_true rfl⟩) hK hP hD hS hA hE (q0 := 0) (ci := 8) rfl rfl rfl rfl hl.1 rfl (Nat.le_of_ble_eq_true rfl) dX8_odds_26 ⟨Nat.zero_le _, Nat.zero_le _⟩ (fun H locs hP hD hS => ?_)
      refine lv_i2l (v := u_6.1.toInt64) hx hb dX8_odds_29 rfl ?_
      obtain rfl := Option.some.inj h
      exact hRet hP hD hS dX8_odds_30
    · have h := ifn c_5 h
      refine lv_iload_n hx hb dX8_odds_16 rfl (lv_at hl 3 rfl) ?_
      obtain ⟨u_7, e_7, h⟩ := bd_some h
      refine cn_Si (As := [.int a3]) (rest := []) ⟨hx, hb, hml, hown, hts⟩ (c_X8_isHour e_7) (va_cwS 1 hts gX8_odds_X8_isHour rfl rfl rfl hd_X8_isHour ⟨Nat.le_of_ble_eq_true rfl, Nat.le_of_ble_eq_true rfl⟩) hK hP hD hS hA hE rfl hl.1 rfl (Nat.le_of_ble_eq_true rfl) dX8_odds_17 ⟨Nat.zero_le _, Nat.zero_le _⟩ (fun H locs hP hD hS => ?_)
      refine lv_if_ne (tgt := 31) hx hb dX8_odds_20 (by decide) (fun c_8 => ?_) (fun c_8 => ?_)
      · have h := ifn c_8 h
        refine lv_aload_n hx hb dX8_odds_31 rfl (lv_at hl 0 rfl) ?_
        obtain ⟨u_9, e_9, h⟩ := bd_some h
        refine cm_Vl (As := []) (rest := []) ⟨hx, hb, hml, hown, hts⟩ (c_X8_weigh (ca := ca) (ev := ev) (h0 := h0) (h1 := h1) (h2 := h2) (h3 := h3) (h4 := h4) (h5 := h5) (h6 := h6) (h7 := h7) (h8 := h8) (h9 := h9) (h10 := h10) (h11 := h11) (h12 := h12) (h13 := h13) (h14 := h14) (h15 := h15) (h16 := h16) (h17 := h17) (now := now) (kept := kept) (isKept := isKept) (found := found) (order := order) (doubts := doubts) (doubtMany := doubtMany) (weights := weights) (worn := worn) (pairs := pairs) (isTwice := isTwice) (doer := doer) (doneTo := doneTo) (doers := doers) (tape := tape) (taped := taped) (begins := begins) (ends := ends) (sort := sort) (value := value) (isWrong := isWrong) (items := items) (itemMany := itemMany) (bowThen := bowThen) (doubtThen := doubtThen) (deedThen := deedThen) (sayingThen := sayingThen) (widths := widths) (sizes := sizes) (numbers := numbers) (moved := moved) e_9) (cwV 0 hts gX8_odds_X8_weigh rfl rfl rfl hd_X8_weigh ⟨Nat.le_of_ble_eq_true rfl, Nat.le_of_ble_eq_true rfl⟩) hK hP hD hS hA hE (q0 := 0) (ci := 8) rfl rfl rfl rfl hl.1 rfl (Nat.le_of_ble_eq_true rfl) dX8_odds_32 ⟨Nat.zero_le _, Nat.zero_le _⟩ (fun H locs hP hD hS => ?_)
        refine lv_pop2_2 hx hb dX8_odds_35 rfl ?_
        refine lv_lconst (v := (0 : Int64)) hx hb dX8_odds_36 (by decide) ?_
        refine lv_lstore (lv' := [(4, .long (0 : Int64)), (0, .ref h0), (1, .int a1), (2, .int a2), (3, .int a3)]) hx hb dX8_odds_37 hl (by decide) rfl (fun ls hl => ?_)
        refine lv_iconst (v := (0 : Int32)) hx hb dX8_odds_39 (by decide) ?_
        refine lv_istore (lv' := [(6, .int (0 : Int32)), (4, .long (0 : Int64)), (0, .ref h0), (1, .int a1), (2, .int a2), (3, .int a3)]) hx hb dX8_odds_40 hl (by decide) rfl (fun ls hl => ?_)
        have L_42 : ∀ {x1_42 : Int32} {x2_42 : Int32} {x3_42 : Int32} {now_42 : (Nat → Int32)} {order_42 : (Nat → Int32)} {doubts_42 : (Nat → Int32)} {doubtMany_42 : Int32} {weights_42 : (Nat → Int64)} (n_42 : Nat) {x4_42 : Int64} {x6_42 : Int32} {worn_42 : (Nat → Int32)} {pairs_42 : Int64} {isTwice_42 : Int32} {uL_42 : Int64 × (Nat → Int32) × Int64 × Int32} {H : Heap} {locs : List Loc} {ls : Array Slot}, f_X8_odds_42 N x1_42 x2_42 x3_42 now_42 order_42 doubts_42 doubtMany_42 weights_42  n_42 x4_42 x6_42 worn_42 pairs_42 isTwice_42 = some uL_42 → va_P G vwCl (wM ca ev h0 h1 h2 h3 h4 h5 h6 h7 h8 h9 h10 h11 h12 h13 h14 h15 h16 h17 now_42 kept isKept found order_42 doubts_42 doubtMany_42 weights_42 worn_42 pairs_42 isTwice_42 doer doneTo doers tape taped begins ends sort value isWrong items itemMany bowThen doubtThen deedThen sayingThen widths sizes numbers moved) H → va_D A (wM ca ev h0 h1 h2 h3 h4 h5 h6 h7 h8 h9 h10 h11 h12 h13 h14 h15 h16 h17 now_42 kept isKept found order_42 doubts_42 doubtMany_42 weights_42 worn_42 pairs_42 isTwice_42 doer doneTo doers tape taped begins ends sort value isWrong items itemMany bowThen doubtThen deedThen sayingThen widths sizes numbers moved) → va_S A s.heap H locs → lv_has ls 7 [(0, .ref h0), (1, .int x1_42), (2, .int x2_42), (3, .int x3_42), (4, .long x4_42), (6, .int x6_42)] → (∀ {H : Heap} {locs : List Loc} {ls : Array Slot}, va_P G vwCl (wM ca ev h0 h1 h2 h3 h4 h5 h6 h7 h8 h9 h10 h11 h12 h13 h14 h15 h16 h17 now_42 kept isKept found order_42 doubts_42 doubtMany_42 weights_42 uL_42.2.1 uL_42.2.2.1 uL_42.2.2.2 doer doneTo doers tape taped begins ends sort value isWrong items itemMany bowThen doubtThen deedThen sayingThen widths sizes numbers moved) H → va_D A (wM ca ev h0 h1 h2 h3 h4 h5 h6 h7 h8 h9 h10 h11 h12 h13 h14 h15 h16 h17 now_42 kept isKept found order_42 doubts_42 doubtMany_42 weights_42 uL_42.2.1 uL_42.2.2.1 uL_42.2.2.2 doer doneTo doers tape taped begins ends sort value isWrong items itemMany bowThen doubtThen deedThen sayingThen widths sizes numbers moved) → va_S A s.heap H locs → lv_has ls 7 [(4, .long uL_42.1)] → W p l e rm_X8_odds s m args below meth c H locs 0 0 Q (F0 m 90 ls [])) → W p l e rm_X8_odds s m args below meth c H locs 0 0 Q (F0 m 42 ls []) := by
          intro x1_42 x2_42 x3_42 now_42 order_42 doubts_42 doubtMany_42 weights_42 n_42
          induction n_42 with
          | zero => intro x4_42 x6_42 worn_42 pairs_42 isTwice_42 uL_42 H locs ls h; exact absurd h (by rw [f_X8_odds_42]; exact fun z => nomatch z)
          | succ n_42 ih =>
            intro x4_42 x6_42 worn_42 pairs_42 isTwice_42 uL_42 H locs ls h hP hD hS hl JK_42
            rw [f_X8_odds_42] at h
            refine lv_iload hx hb dX8_odds_42 (lv_at hl 5 rfl) ?_
            refine lv_aload_n hx hb dX8_odds_44 rfl (lv_at hl 0 rfl) ?_
            obtain ⟨u_10, e_10, h⟩ := bd_some h
            refine cm_Vi (As := []) (rest := [.int x6_42]) ⟨hx, hb, hml, hown, hts⟩ (c_X8_nightsThere (ca := ca) (ev := ev) (h0 := h0) (h1 := h1) (h2 := h2) (h3 := h3) (h4 := h4) (h5 := h5) (h6 := h6) (h7 := h7) (h8 := h8) (h9 := h9) (h10 := h10) (h11 := h11) (h12 := h12) (h13 := h13) (h14 := h14) (h15 := h15) (h16 := h16) (h17 := h17) (now := now_42) (kept := kept) (isKept := isKept) (found := found) (order := order_42) (doubts := doubts_42) (doubtMany := doubtMany_42) (weights := weights_42) (worn := worn_42) (pairs := pairs_42) (isTwice := isTwice_42) (doer := doer) (doneTo := doneTo) (doers := doers) (tape := tape) (taped := taped) (begins := begins) (ends := ends) (sort := sort) (value := value) (isWrong := isWrong) (items := items) (itemMany := itemMany) (bowThen := bowThen) (doubtThen := doubtThen) (deedThen := deedThen) (sayingThen := sayingThen) (widths := widths) (sizes := sizes) (numbers := numbers) (moved := moved) e_10) (cwV 0 hts gX8_odds_X8_nightsThere rfl rfl rfl hd_X8_nightsThere ⟨Nat.le_of_ble_eq_true rfl, Nat.le_of_ble_eq_true rfl⟩) hK hP hD hS hA hE (q0 := 0) (ci := 8) rfl rfl rfl rfl hl.1 rfl (Nat.le_of_ble_eq_true rfl) dX8_odds_45 ⟨Nat.zero_le _, Nat.zero_le _⟩ (fun H locs hP hD hS => ?_)
            refine lv_icmp_ge (tgt := 90) hx hb dX8_odds_48 (by decide) (fun c_11 => ?_) (fun c_11 => ?_)
            · have h := ifp c_11 h
              obtain rfl := Option.some.inj h
              exact JK_42 hP hD hS (lv_sub hl [4] rfl)
            · have h := ifn c_11 h
              refine lv_aload_n hx hb dX8_odds_51 rfl (lv_at hl 0 rfl) ?_
              refine lv_iload hx hb dX8_odds_52 (lv_at hl 5 rfl) ?_
              refine lv_iload_n hx hb dX8_odds_54 rfl (lv_at hl 3 rfl) ?_
              obtain ⟨u_12, e_12, h⟩ := bd_some h
              refine cm_Vv (As := [.int x6_42, .int x3_42]) (rest := []) ⟨hx, hb, hml, hown, hts⟩ (c_X8_goes (ca := ca) (ev := ev) (h0 := h0) (h1 := h1) (h2 := h2) (h3 := h3) (h4 := h4) (h5 := h5) (h6 := h6) (h7 := h7) (h8 := h8) (h9 := h9) (h10 := h10) (h11 := h11) (h12 := h12) (h13 := h13) (h14 := h14) (h15 := h15) (h16 := h16) (h17 := h17) (now := now_42) (kept := kept) (isKept := isKept) (found := found) (order := order_42) (doubts := doubts_42) (doubtMany := doubtMany_42) (weights := weights_42) (worn := worn_42) (pairs := pairs_42) (isTwice := isTwice_42) (doer := doer) (doneTo := doneTo) (doers := doers) (tape := tape) (taped := taped) (begins := begins) (ends := ends) (sort := sort) (value := value) (isWrong := isWrong) (items := items) (itemMany := itemMany) (bowThen := bowThen) (doubtThen := doubtThen) (deedThen := deedThen) (sayingThen := sayingThen) (widths := widths) (sizes := sizes) (numbers := numbers) (moved := moved) e_12) (cwV 2 hts gX8_odds_X8_goes rfl rfl rfl hd_X8_goes ⟨Nat.le_of_ble_eq_true rfl, Nat.le_of_ble_eq_true rfl⟩) hK hP hD hS hA hE (q0 := 0) (ci := 8) rfl rfl rfl rfl hl.1 rfl (Nat.le_of_ble_eq_true rfl) dX8_odds_55 ⟨Nat.zero_le _, Nat.zero_le _⟩ (fun H locs hP hD hS => ?_)
              refine lv_lload hx hb dX8_odds_58 (lv_at hl 4 rfl) ?_
              refine lv_aload_n hx hb dX8_odds_60 rfl (lv_at hl 0 rfl) ?_
              refine va_get (D := G) (ci := 8) (v := .ref h7) (C := RX8) (T := TX8) (N := 32) hx hb hts hin_X8 hown hK hP 0 rfl rfl 8 (by decide) fk_29 (fun _ h9 => h9) rfl dX8_odds_61 ?_
              refine lv_iload_n hx hb dX8_odds_64 rfl (lv_at hl 1 rfl) ?_
              obtain ⟨i_13, h⟩ := gd_some h
              refine va_iald hx hb hK hP 7 0 rfl rfl (ix_in i_13) dX8_odds_65 ?_
              refine lv_iload_n hx hb dX8_odds_66 rfl (lv_at hl 2 rfl) ?_
              obtain ⟨u_14, e_14, h⟩ := bd_some h
              have J_14 : ∀ {H : Heap} {locs : List Loc} {ls : Array Slot}, va_P G vwCl (wM ca ev h0 h1 h2 h3 h4 h5 h6 h7 h8 h9 h10 h11 h12 h13 h14 h15 h16 h17 now_42 kept isKept found order_42 doubts_42 doubtMany_42 weights_42 u_12.1 u_12.2.1 u_12.2.2 doer doneTo doers tape taped begins ends sort value isWrong items itemMany bowThen doubtThen deedThen sayingThen widths sizes numbers moved) H → va_D A (wM ca ev h0 h1 h2 h3 h4 h5 h6 h7 h8 h9 h10 h11 h12 h13 h14 h15 h16 h17 now_42 kept isKept found order_42 doubts_42 doubtMany_42 weights_42 u_12.1 u_12.2.1 u_12.2.2 doer doneTo doers tape taped begins ends sort value isWrong items itemMany bowThen doubtThen deedThen sayingThen widths sizes numbers moved) → va_S A s.heap H locs → lv_has ls 7 [(0, .ref h0), (1, .int x1_42), (2, .int x2_42), (3, .int x3_42), (6, .int x6_42)] → W p l e rm_X8_odds s m args below meth c H locs 0 0 Q (F0 m 81 ls [.long u_14, .long x4_42]) := by
                intro H locs ls hP hD hS hl 
                refine lv_ladd hx hb dX8_odds_81 ?_
                refine lv_lstore (lv' := [(4, .long (x4_42 + u_14)), (0, .ref h0), (1, .int x1_42), (2, .int x2_42), (3, .int x3_42), (6, .int x6_42)]) hx hb dX8_odds_82 hl (by decide) rfl (fun ls hl => ?_)
                refine lv_iinc (v := (x6_42 + (1 : Int32))) (lv' := [(6, .int (x6_42 + (1 : Int32))), (4, .long (x4_42 + u_14)), (0, .ref h0), (1, .int x1_42), (2, .int x2_42), (3, .int x3_42)]) hx hb dX8_odds_84 hl (k := 5) rfl rfl (by decide) rfl (fun ls hl => ?_)
                refine lv_goto (tgt := 42) hx hb dX8_odds_87 (by decide) ?_
                exact ih h hP hD hS (lv_sub hl [2, 3, 4, 5, 1, 0] rfl) JK_42
              have h := e_14
              clear e_14
              refine lv_icmp_ne (tgt := 80) hx hb dX8_odds_67 (by decide) (fun c_14 => ?_) (fun c_14 => ?_)
              · have h := ifn c_14 h
                refine lv_lconst (v := (0 : Int64)) hx hb dX8_odds_80 (by decide) ?_
                obtain rfl := Option.some.inj h
                exact J_14 hP hD hS (lv_sub hl [0, 1, 2, 3, 5] rfl)
              · have h := ifp c_14 h
                refine lv_aload_n hx hb dX8_odds_70 rfl (lv_at hl 0 rfl) ?_
                refine va_get (D := G) (ci := 8) (v := .ref h6) (C := RX8) (T := TX8) (N := 32) hx hb hts hin_X8 hown hK hP 0 rfl rfl 7 (by decide) fk_25 (fun _ h9 => h9) rfl dX8_odds_71 ?_
                refine lv_iload hx hb dX8_odds_74 (lv_at hl 5 rfl) ?_
                obtain ⟨i_15, h⟩ := gd_some h
                refine va_lald hx hb hK hP 6 1 rfl rfl (ix_in i_15) dX8_odds_76 ?_
                refine lv_goto (tgt := 81) hx hb dX8_odds_77 (by decide) ?_
                obtain rfl := Option.some.inj h
                exact J_14 hP hD hS (lv_sub hl [0, 1, 2, 3, 5] rfl)
        obtain ⟨u_16, e_16, h⟩ := bd_some h
        refine L_42 _ e_16 hP hD hS (lv_sub hl [2, 3, 4, 5, 1, 0] rfl) ?_
        intro H locs ls hP hD hS hl
        refine lv_lload hx hb dX8_odds_90 (lv_at hl 0 rfl) ?_
        obtain rfl := Option.some.inj h
        exact hRet hP hD hS dX8_odds_92
      · have h := ifp c_8 h
        refine lv_aload_n hx hb dX8_odds_23 rfl (lv_at hl 0 rfl) ?_
        refine lv_ldc (v := (-1000000001 : Int32)) hx hb hown (hts (.constant RX8 77 (-1000000001)) (by decide +kernel)) dX8_odds_24 ?_
        obtain ⟨u_17, e_17, h⟩ := bd_some h
        refine cm_Vi (As := [.int (-1000000001 : Int32)]) (rest := []) ⟨hx, hb, hml, hown, hts⟩ (c_X8_finding (ca := ca) (ev := ev) (h0 := h0) (h1 := h1) (h2 := h2) (h3 := h3) (h4 := h4) (h5 := h5) (h6 := h6) (h7 := h7) (h8 := h8) (h9 := h9) (h10 := h10) (h11 := h11) (h12 := h12) (h13 := h13) (h14 := h14) (h15 := h15) (h16 := h16) (h17 := h17) (now := now) (kept := kept) (isKept := isKept) (found := found) (order := order) (doubts := doubts) (doubtMany := doubtMany) (weights := weights) (worn := worn) (pairs := pairs) (isTwice := isTwice) (doer := doer) (doneTo := doneTo) (doers := doers) (tape := tape) (taped := taped) (begins := begins) (ends := ends) (sort := sort) (value := value) (isWrong := isWrong) (items := items) (itemMany := itemMany) (bowThen := bowThen) (doubtThen := doubtThen) (deedThen := deedThen) (sayingThen := sayingThen) (widths := widths) (sizes := sizes) (numbers := numbers) (moved := moved) e_17) (cwV 1 hts gX8_odds_X8_finding rfl rfl rfl hd_X8_finding ⟨Nat.le_of_ble_eq_true rfl, Nat.le_of_ble_eq_true rfl⟩) hK hP hD hS hA hE (q0 := 0) (ci := 8) rfl rfl rfl rfl hl.1 rfl (Nat.le_of_ble_eq_true rfl) dX8_odds_26 ⟨Nat.zero_le _, Nat.zero_le _⟩ (fun H locs hP hD hS => ?_)
        refine lv_i2l (v := u_17.1.toInt64) hx hb dX8_odds_29 rfl ?_
        obtain rfl := Option.some.inj h
        exact hRet hP hD hS dX8_odds_30
abbrev rm_X8_maskOf : Room := { frames := 0, cells := 0, slots := 0, locals := 0 }
theorem hd_X8_maskOf : yX8_maskOf.cls = RX8 ∧ yX8_maskOf.cls ≠ "java/lang/invoke/MethodHandle" ∧ yX8_maskOf.cls ≠ "java/lang/invoke/VarHandle" ∧ (parseMethodDescriptor yX8_maskOf.desc).map (fun d => d.parameters.length) = some 1 := by decide +kernel
set_option maxHeartbeats 4000000 in
set_option maxRecDepth 100000 in
theorem c_X8_maskOf {l : Launch} {G : va_G} {ca : Nat → ClassId} {ev : Nat → Nat} {h0 h1 h2 h3 h4 h5 h6 h7 h8 h9 h10 h11 h12 h13 h14 h15 h16 h17 : Nat} {now : (Nat → Int32)} {kept : (Nat → Int32)} {isKept : Int32} {found : (Nat → Int32)} {order : (Nat → Int32)} {doubts : (Nat → Int32)} {doubtMany : Int32} {weights : (Nat → Int64)} {worn : (Nat → Int32)} {pairs : Int64} {isTwice : Int32} {doer : (Nat → Int32)} {doneTo : (Nat → Int32)} {doers : (Nat → Int64)} {tape : (Nat → Int32)} {taped : Int32} {begins : Int32} {ends : Int32} {sort : Int32} {value : Int32} {isWrong : Int32} {items : (Nat → Int32)} {itemMany : Int32} {bowThen : Int32} {doubtThen : Int32} {deedThen : Int32} {sayingThen : Int32} {widths : (Nat → Int32)} {sizes : (Nat → Int32)} {numbers : (Nat → Int64)} {moved : (Nat → Int64)} {a1 : Int32} {N : Nat} {res : Int32} (h : f_X8_maskOf N worn a1 = some res) : CtI l yX8_maskOf wsX8_maskOf rm_X8_maskOf G ca ev [.ref h0, .int a1] (wM ca ev h0 h1 h2 h3 h4 h5 h6 h7 h8 h9 h10 h11 h12 h13 h14 h15 h16 h17 now kept isKept found order doubts doubtMany weights worn pairs isTwice doer doneTo doers tape taped begins ends sort value isWrong items itemMany bowThen doubtThen deedThen sayingThen widths sizes numbers moved) (wM ca ev h0 h1 h2 h3 h4 h5 h6 h7 h8 h9 h10 h11 h12 h13 h14 h15 h16 h17 now kept isKept found order doubts doubtMany weights worn pairs isTwice doer doneTo doers tape taped begins ends sort value isWrong items itemMany bowThen doubtThen deedThen sayingThen widths sizes numbers moved) res := by
  unfold f_X8_maskOf at h
  refine en_i (by decide) rfl (Nat.le_of_ble_eq_true rfl) ?_
  intro p e s m args below meth c A Q H locs ls hx hb hml hown hts hA hP hK hD hE hS hl hRet
  have hown : s.vm.findClass RX8 = some m.cls := hown
  have hl : lv_has ls 3 [(0, .ref h0), (1, .int a1)] := hl
  have hin_X8 : ∀ w ∈ u_ws RX8 TX8 32, w ∈ wsX8_maskOf := fun w h9 => List.mem_cons_of_mem _ (List.mem_append_right _ h9)
  have fk_29 := hts (.fieldLink RX8 29 "MaskBowsModel" "worn" "[I") (by decide +kernel)
  refine lv_iconst (v := (0 : Int32)) hx hb dX8_maskOf_0 (by decide) ?_
  refine lv_istore_n (lv' := [(2, .int (0 : Int32)), (0, .ref h0), (1, .int a1)]) hx hb dX8_maskOf_1 rfl hl (by decide) rfl (fun ls hl => ?_)
  have L_2 : ∀ {x1_2 : Int32} {worn_2 : (Nat → Int32)} (n_2 : Nat) {x2_2 : Int32} {uL_2 : Int32} {H : Heap} {locs : List Loc} {ls : Array Slot}, f_X8_maskOf_2 x1_2 worn_2  n_2 x2_2 = some uL_2 → va_P G vwCl (wM ca ev h0 h1 h2 h3 h4 h5 h6 h7 h8 h9 h10 h11 h12 h13 h14 h15 h16 h17 now kept isKept found order doubts doubtMany weights worn_2 pairs isTwice doer doneTo doers tape taped begins ends sort value isWrong items itemMany bowThen doubtThen deedThen sayingThen widths sizes numbers moved) H → va_D A (wM ca ev h0 h1 h2 h3 h4 h5 h6 h7 h8 h9 h10 h11 h12 h13 h14 h15 h16 h17 now kept isKept found order doubts doubtMany weights worn_2 pairs isTwice doer doneTo doers tape taped begins ends sort value isWrong items itemMany bowThen doubtThen deedThen sayingThen widths sizes numbers moved) → va_S A s.heap H locs → lv_has ls 3 [(0, .ref h0), (1, .int x1_2), (2, .int x2_2)] → (∀ {H : Heap} {locs : List Loc} {ls : Array Slot}, va_P G vwCl (wM ca ev h0 h1 h2 h3 h4 h5 h6 h7 h8 h9 h10 h11 h12 h13 h14 h15 h16 h17 now kept isKept found order doubts doubtMany weights worn_2 pairs isTwice doer doneTo doers tape taped begins ends sort value isWrong items itemMany bowThen doubtThen deedThen sayingThen widths sizes numbers moved) H → va_D A (wM ca ev h0 h1 h2 h3 h4 h5 h6 h7 h8 h9 h10 h11 h12 h13 h14 h15 h16 h17 now kept isKept found order doubts doubtMany weights worn_2 pairs isTwice doer doneTo doers tape taped begins ends sort value isWrong items itemMany bowThen doubtThen deedThen sayingThen widths sizes numbers moved) → va_S A s.heap H locs → lv_has ls 3 [(2, .int uL_2)] → W p l e rm_X8_maskOf s m args below meth c H locs 0 0 Q (F0 m 18 ls [])) → W p l e rm_X8_maskOf s m args below meth c H locs 0 0 Q (F0 m 2 ls []) := by
    intro x1_2 worn_2 n_2
    induction n_2 with
    | zero => intro x2_2 uL_2 H locs ls h; exact absurd h (by rw [f_X8_maskOf_2]; exact fun z => nomatch z)
    | succ n_2 ih =>
      intro x2_2 uL_2 H locs ls h hP hD hS hl JK_2
      rw [f_X8_maskOf_2] at h
      refine lv_aload_n hx hb dX8_maskOf_2 rfl (lv_at hl 0 rfl) ?_
      refine va_get (D := G) (ci := 8) (v := .ref h7) (C := RX8) (T := TX8) (N := 32) hx hb hts hin_X8 hown hK hP 0 rfl rfl 8 (by decide) fk_29 (fun _ h9 => h9) rfl dX8_maskOf_3 ?_
      refine lv_iload_n hx hb dX8_maskOf_6 rfl (lv_at hl 2 rfl) ?_
      obtain ⟨i_1, h⟩ := gd_some h
      refine va_iald hx hb hK hP 7 0 rfl rfl (ix_in i_1) dX8_maskOf_7 ?_
      refine lv_iload_n hx hb dX8_maskOf_8 rfl (lv_at hl 1 rfl) ?_
      refine lv_icmp_eq (tgt := 18) hx hb dX8_maskOf_9 (by decide) (fun c_2 => ?_) (fun c_2 => ?_)
      · have h := ifp c_2 h
        obtain rfl := Option.some.inj h
        exact JK_2 hP hD hS (lv_sub hl [2] rfl)
      · have h := ifn c_2 h
        refine lv_iinc (v := (x2_2 + (1 : Int32))) (lv' := [(2, .int (x2_2 + (1 : Int32))), (0, .ref h0), (1, .int x1_2)]) hx hb dX8_maskOf_12 hl (k := 2) rfl rfl (by decide) rfl (fun ls hl => ?_)
        refine lv_goto (tgt := 2) hx hb dX8_maskOf_15 (by decide) ?_
        exact ih h hP hD hS (lv_sub hl [1, 2, 0] rfl) JK_2
  obtain ⟨u_3, e_3, h⟩ := bd_some h
  refine L_2 _ e_3 hP hD hS (lv_sub hl [1, 2, 0] rfl) ?_
  intro H locs ls hP hD hS hl
  refine lv_iload_n hx hb dX8_maskOf_18 rfl (lv_at hl 0 rfl) ?_
  obtain rfl := Option.some.inj h
  exact hRet hP hD hS dX8_maskOf_19
abbrev rm_X8_behind : Room := { frames := 5, cells := 0, slots := 0, locals := 120 }
theorem hd_X8_behind : yX8_behind.cls = RX8 ∧ yX8_behind.cls ≠ "java/lang/invoke/MethodHandle" ∧ yX8_behind.cls ≠ "java/lang/invoke/VarHandle" ∧ (parseMethodDescriptor yX8_behind.desc).map (fun d => d.parameters.length) = some 2 := by decide +kernel
set_option maxHeartbeats 4000000 in
set_option maxRecDepth 100000 in
theorem c_X8_behind {l : Launch} {G : va_G} {ca : Nat → ClassId} {ev : Nat → Nat} {h0 h1 h2 h3 h4 h5 h6 h7 h8 h9 h10 h11 h12 h13 h14 h15 h16 h17 : Nat} {now : (Nat → Int32)} {kept : (Nat → Int32)} {isKept : Int32} {found : (Nat → Int32)} {order : (Nat → Int32)} {doubts : (Nat → Int32)} {doubtMany : Int32} {weights : (Nat → Int64)} {worn : (Nat → Int32)} {pairs : Int64} {isTwice : Int32} {doer : (Nat → Int32)} {doneTo : (Nat → Int32)} {doers : (Nat → Int64)} {tape : (Nat → Int32)} {taped : Int32} {begins : Int32} {ends : Int32} {sort : Int32} {value : Int32} {isWrong : Int32} {items : (Nat → Int32)} {itemMany : Int32} {bowThen : Int32} {doubtThen : Int32} {deedThen : Int32} {sayingThen : Int32} {widths : (Nat → Int32)} {sizes : (Nat → Int32)} {numbers : (Nat → Int64)} {moved : (Nat → Int64)} {a1 : Int32} {a2 : Int32} {N : Nat} {res : Int32 × (Nat → Int32) × (Nat → Int32) × (Nat → Int32) × Int32 × (Nat → Int64) × (Nat → Int32) × Int64 × Int32} (h : f_X8_behind N now found order doubts doubtMany weights worn pairs isTwice a1 a2 = some res) : CtI l yX8_behind wsX8_behind rm_X8_behind G ca ev [.ref h0, .int a1, .int a2] (wM ca ev h0 h1 h2 h3 h4 h5 h6 h7 h8 h9 h10 h11 h12 h13 h14 h15 h16 h17 now kept isKept found order doubts doubtMany weights worn pairs isTwice doer doneTo doers tape taped begins ends sort value isWrong items itemMany bowThen doubtThen deedThen sayingThen widths sizes numbers moved) (wM ca ev h0 h1 h2 h3 h4 h5 h6 h7 h8 h9 h10 h11 h12 h13 h14 h15 h16 h17 now kept isKept res.2.1 res.2.2.1 res.2.2.2.1 res.2.2.2.2.1 res.2.2.2.2.2.1 res.2.2.2.2.2.2.1 res.2.2.2.2.2.2.2.1 res.2.2.2.2.2.2.2.2 doer doneTo doers tape taped begins ends sort value isWrong items itemMany bowThen doubtThen deedThen sayingThen widths sizes numbers moved) res.1 := by
  unfold f_X8_behind at h
  refine en_i (by decide) rfl (Nat.le_of_ble_eq_true rfl) ?_
  intro p e s m args below meth c A Q H locs ls hx hb hml hown hts hA hP hK hD hE hS hl hRet
  have hown : s.vm.findClass RX8 = some m.cls := hown
  have hl : lv_has ls 5 [(0, .ref h0), (1, .int a1), (2, .int a2)] := hl
  have hin_X8 : ∀ w ∈ u_ws RX8 TX8 32, w ∈ wsX8_behind := fun w h9 => List.mem_cons_of_mem _ (List.mem_append_right _ h9)
  have fk_25 := hts (.fieldLink RX8 25 "MaskBowsModel" "weights" "[J") (by decide +kernel)
  refine lv_aload_n hx hb dX8_behind_0 rfl (lv_at hl 0 rfl) ?_
  refine lv_iload_n hx hb dX8_behind_1 rfl (lv_at hl 1 rfl) ?_
  obtain ⟨u_1, e_1, h⟩ := bd_some h
  refine cm_Vi (As := [.int a1]) (rest := []) ⟨hx, hb, hml, hown, hts⟩ (c_X8_isOne (ca := ca) (ev := ev) (h0 := h0) (h1 := h1) (h2 := h2) (h3 := h3) (h4 := h4) (h5 := h5) (h6 := h6) (h7 := h7) (h8 := h8) (h9 := h9) (h10 := h10) (h11 := h11) (h12 := h12) (h13 := h13) (h14 := h14) (h15 := h15) (h16 := h16) (h17 := h17) (now := now) (kept := kept) (isKept := isKept) (found := found) (order := order) (doubts := doubts) (doubtMany := doubtMany) (weights := weights) (worn := worn) (pairs := pairs) (isTwice := isTwice) (doer := doer) (doneTo := doneTo) (doers := doers) (tape := tape) (taped := taped) (begins := begins) (ends := ends) (sort := sort) (value := value) (isWrong := isWrong) (items := items) (itemMany := itemMany) (bowThen := bowThen) (doubtThen := doubtThen) (deedThen := deedThen) (sayingThen := sayingThen) (widths := widths) (sizes := sizes) (numbers := numbers) (moved := moved) e_1) (cwV 1 hts gX8_behind_X8_isOne rfl rfl rfl hd_X8_isOne ⟨Nat.le_of_ble_eq_true rfl, Nat.le_of_ble_eq_true rfl⟩) hK hP hD hS hA hE (q0 := 0) (ci := 8) rfl rfl rfl rfl hl.1 rfl (Nat.le_of_ble_eq_true rfl) dX8_behind_2 ⟨Nat.zero_le _, Nat.zero_le _⟩ (fun H locs hP hD hS => ?_)
  refine lv_if_eq (tgt := 15) hx hb dX8_behind_5 (by decide) (fun c_2 => ?_) (fun c_2 => ?_)
  · have h := ifp c_2 h
    refine lv_aload_n hx hb dX8_behind_15 rfl (lv_at hl 0 rfl) ?_
    refine lv_ldc (v := (-1000000001 : Int32)) hx hb hown (hts (.constant RX8 77 (-1000000001)) (by decide +kernel)) dX8_behind_16 ?_
    obtain ⟨u_3, e_3, h⟩ := bd_some h
    refine cm_Vi (As := [.int (-1000000001 : Int32)]) (rest := []) ⟨hx, hb, hml, hown, hts⟩ (c_X8_finding (ca := ca) (ev := ev) (h0 := h0) (h1 := h1) (h2 := h2) (h3 := h3) (h4 := h4) (h5 := h5) (h6 := h6) (h7 := h7) (h8 := h8) (h9 := h9) (h10 := h10) (h11 := h11) (h12 := h12) (h13 := h13) (h14 := h14) (h15 := h15) (h16 := h16) (h17 := h17) (now := now) (kept := kept) (isKept := isKept) (found := found) (order := order) (doubts := doubts) (doubtMany := doubtMany) (weights := weights) (worn := worn) (pairs := pairs) (isTwice := isTwice) (doer := doer) (doneTo := doneTo) (doers := doers) (tape := tape) (taped := taped) (begins := begins) (ends := ends) (sort := sort) (value := value) (isWrong := isWrong) (items := items) (itemMany := itemMany) (bowThen := bowThen) (doubtThen := doubtThen) (deedThen := deedThen) (sayingThen := sayingThen) (widths := widths) (sizes := sizes) (numbers := numbers) (moved := moved) e_3) (cwV 1 hts gX8_behind_X8_finding rfl rfl rfl hd_X8_finding ⟨Nat.le_of_ble_eq_true rfl, Nat.le_of_ble_eq_true rfl⟩) hK hP hD hS hA hE (q0 := 0) (ci := 8) rfl rfl rfl rfl hl.1 rfl (Nat.le_of_ble_eq_true rfl) dX8_behind_18 ⟨Nat.zero_le _, Nat.zero_le _⟩ (fun H locs hP hD hS => ?_)
    obtain rfl := Option.some.inj h
    exact hRet hP hD hS dX8_behind_21
  · have h := ifn c_2 h
    refine lv_iload_n hx hb dX8_behind_8 rfl (lv_at hl 2 rfl) ?_
    obtain ⟨u_4, e_4, h⟩ := bd_some h
    refine cn_Si (As := [.int a2]) (rest := []) ⟨hx, hb, hml, hown, hts⟩ (c_X8_isHour e_4) (va_cwS 1 hts gX8_behind_X8_isHour rfl rfl rfl hd_X8_isHour ⟨Nat.le_of_ble_eq_true rfl, Nat.le_of_ble_eq_true rfl⟩) hK hP hD hS hA hE rfl hl.1 rfl (Nat.le_of_ble_eq_true rfl) dX8_behind_9 ⟨Nat.zero_le _, Nat.zero_le _⟩ (fun H locs hP hD hS => ?_)
    refine lv_if_ne (tgt := 22) hx hb dX8_behind_12 (by decide) (fun c_5 => ?_) (fun c_5 => ?_)
    · have h := ifn c_5 h
      refine lv_aload_n hx hb dX8_behind_22 rfl (lv_at hl 0 rfl) ?_
      obtain ⟨u_6, e_6, h⟩ := bd_some h
      refine cm_Vl (As := []) (rest := []) ⟨hx, hb, hml, hown, hts⟩ (c_X8_weigh (ca := ca) (ev := ev) (h0 := h0) (h1 := h1) (h2 := h2) (h3 := h3) (h4 := h4) (h5 := h5) (h6 := h6) (h7 := h7) (h8 := h8) (h9 := h9) (h10 := h10) (h11 := h11) (h12 := h12) (h13 := h13) (h14 := h14) (h15 := h15) (h16 := h16) (h17 := h17) (now := now) (kept := kept) (isKept := isKept) (found := found) (order := order) (doubts := doubts) (doubtMany := doubtMany) (weights := weights) (worn := worn) (pairs := pairs) (isTwice := isTwice) (doer := doer) (doneTo := doneTo) (doers := doers) (tape := tape) (taped := taped) (begins := begins) (ends := ends) (sort := sort) (value := value) (isWrong := isWrong) (items := items) (itemMany := itemMany) (bowThen := bowThen) (doubtThen := doubtThen) (deedThen := deedThen) (sayingThen := sayingThen) (widths := widths) (sizes := sizes) (numbers := numbers) (moved := moved) e_6) (cwV 0 hts gX8_behind_X8_weigh rfl rfl rfl hd_X8_weigh ⟨Nat.le_of_ble_eq_true rfl, Nat.le_of_ble_eq_true rfl⟩) hK hP hD hS hA hE (q0 := 0) (ci := 8) rfl rfl rfl rfl hl.1 rfl (Nat.le_of_ble_eq_true rfl) dX8_behind_23 ⟨Nat.zero_le _, Nat.zero_le _⟩ (fun H locs hP hD hS => ?_)
      refine lv_pop2_2 hx hb dX8_behind_26 rfl ?_
      refine lv_iconst (v := (0 : Int32)) hx hb dX8_behind_27 (by decide) ?_
      refine lv_istore_n (lv' := [(3, .int (0 : Int32)), (0, .ref h0), (1, .int a1), (2, .int a2)]) hx hb dX8_behind_28 rfl hl (by decide) rfl (fun ls hl => ?_)
      refine lv_iconst (v := (0 : Int32)) hx hb dX8_behind_29 (by decide) ?_
      refine lv_istore (lv' := [(4, .int (0 : Int32)), (3, .int (0 : Int32)), (0, .ref h0), (1, .int a1), (2, .int a2)]) hx hb dX8_behind_30 hl (by decide) rfl (fun ls hl => ?_)
      have L_32 : ∀ {x1_32 : Int32} {x2_32 : Int32} {now_32 : (Nat → Int32)} {order_32 : (Nat → Int32)} {doubts_32 : (Nat → Int32)} {doubtMany_32 : Int32} {weights_32 : (Nat → Int64)} (n_32 : Nat) {x3_32 : Int32} {x4_32 : Int32} {worn_32 : (Nat → Int32)} {pairs_32 : Int64} {isTwice_32 : Int32} {uL_32 : Int32 × (Nat → Int32) × Int64 × Int32} {H : Heap} {locs : List Loc} {ls : Array Slot}, f_X8_behind_32 N x1_32 x2_32 now_32 order_32 doubts_32 doubtMany_32 weights_32  n_32 x3_32 x4_32 worn_32 pairs_32 isTwice_32 = some uL_32 → va_P G vwCl (wM ca ev h0 h1 h2 h3 h4 h5 h6 h7 h8 h9 h10 h11 h12 h13 h14 h15 h16 h17 now_32 kept isKept found order_32 doubts_32 doubtMany_32 weights_32 worn_32 pairs_32 isTwice_32 doer doneTo doers tape taped begins ends sort value isWrong items itemMany bowThen doubtThen deedThen sayingThen widths sizes numbers moved) H → va_D A (wM ca ev h0 h1 h2 h3 h4 h5 h6 h7 h8 h9 h10 h11 h12 h13 h14 h15 h16 h17 now_32 kept isKept found order_32 doubts_32 doubtMany_32 weights_32 worn_32 pairs_32 isTwice_32 doer doneTo doers tape taped begins ends sort value isWrong items itemMany bowThen doubtThen deedThen sayingThen widths sizes numbers moved) → va_S A s.heap H locs → lv_has ls 5 [(0, .ref h0), (1, .int x1_32), (2, .int x2_32), (3, .int x3_32), (4, .int x4_32)] → (∀ {H : Heap} {locs : List Loc} {ls : Array Slot}, va_P G vwCl (wM ca ev h0 h1 h2 h3 h4 h5 h6 h7 h8 h9 h10 h11 h12 h13 h14 h15 h16 h17 now_32 kept isKept found order_32 doubts_32 doubtMany_32 weights_32 uL_32.2.1 uL_32.2.2.1 uL_32.2.2.2 doer doneTo doers tape taped begins ends sort value isWrong items itemMany bowThen doubtThen deedThen sayingThen widths sizes numbers moved) H → va_D A (wM ca ev h0 h1 h2 h3 h4 h5 h6 h7 h8 h9 h10 h11 h12 h13 h14 h15 h16 h17 now_32 kept isKept found order_32 doubts_32 doubtMany_32 weights_32 uL_32.2.1 uL_32.2.2.1 uL_32.2.2.2 doer doneTo doers tape taped begins ends sort value isWrong items itemMany bowThen doubtThen deedThen sayingThen widths sizes numbers moved) → va_S A s.heap H locs → lv_has ls 5 [(0, .ref h0), (3, .int uL_32.1)] → W p l e rm_X8_behind s m args below meth c H locs 0 0 Q (F0 m 80 ls [])) → W p l e rm_X8_behind s m args below meth c H locs 0 0 Q (F0 m 32 ls []) := by
        intro x1_32 x2_32 now_32 order_32 doubts_32 doubtMany_32 weights_32 n_32
        induction n_32 with
        | zero => intro x3_32 x4_32 worn_32 pairs_32 isTwice_32 uL_32 H locs ls h; exact absurd h (by rw [f_X8_behind_32]; exact fun z => nomatch z)
        | succ n_32 ih =>
          intro x3_32 x4_32 worn_32 pairs_32 isTwice_32 uL_32 H locs ls h hP hD hS hl JK_32
          rw [f_X8_behind_32] at h
          refine lv_iload hx hb dX8_behind_32 (lv_at hl 4 rfl) ?_
          refine lv_aload_n hx hb dX8_behind_34 rfl (lv_at hl 0 rfl) ?_
          obtain ⟨u_7, e_7, h⟩ := bd_some h
          refine cm_Vi (As := []) (rest := [.int x4_32]) ⟨hx, hb, hml, hown, hts⟩ (c_X8_nightsThere (ca := ca) (ev := ev) (h0 := h0) (h1 := h1) (h2 := h2) (h3 := h3) (h4 := h4) (h5 := h5) (h6 := h6) (h7 := h7) (h8 := h8) (h9 := h9) (h10 := h10) (h11 := h11) (h12 := h12) (h13 := h13) (h14 := h14) (h15 := h15) (h16 := h16) (h17 := h17) (now := now_32) (kept := kept) (isKept := isKept) (found := found) (order := order_32) (doubts := doubts_32) (doubtMany := doubtMany_32) (weights := weights_32) (worn := worn_32) (pairs := pairs_32) (isTwice := isTwice_32) (doer := doer) (doneTo := doneTo) (doers := doers) (tape := tape) (taped := taped) (begins := begins) (ends := ends) (sort := sort) (value := value) (isWrong := isWrong) (items := items) (itemMany := itemMany) (bowThen := bowThen) (doubtThen := doubtThen) (deedThen := deedThen) (sayingThen := sayingThen) (widths := widths) (sizes := sizes) (numbers := numbers) (moved := moved) e_7) (cwV 0 hts gX8_behind_X8_nightsThere rfl rfl rfl hd_X8_nightsThere ⟨Nat.le_of_ble_eq_true rfl, Nat.le_of_ble_eq_true rfl⟩) hK hP hD hS hA hE (q0 := 0) (ci := 8) rfl rfl rfl rfl hl.1 rfl (Nat.le_of_ble_eq_true rfl) dX8_behind_35 ⟨Nat.zero_le _, Nat.zero_le _⟩ (fun H locs hP hD hS => ?_)
          refine lv_icmp_ge (tgt := 80) hx hb dX8_behind_38 (by decide) (fun c_8 => ?_) (fun c_8 => ?_)
          · have h := ifp c_8 h
            obtain rfl := Option.some.inj h
            exact JK_32 hP hD hS (lv_sub hl [0, 3] rfl)
          · have h := ifn c_8 h
            refine lv_aload_n hx hb dX8_behind_41 rfl (lv_at hl 0 rfl) ?_
            refine lv_iload hx hb dX8_behind_42 (lv_at hl 4 rfl) ?_
            refine lv_iload_n hx hb dX8_behind_44 rfl (lv_at hl 2 rfl) ?_
            obtain ⟨u_9, e_9, h⟩ := bd_some h
            refine cm_Vv (As := [.int x4_32, .int x2_32]) (rest := []) ⟨hx, hb, hml, hown, hts⟩ (c_X8_goes (ca := ca) (ev := ev) (h0 := h0) (h1 := h1) (h2 := h2) (h3 := h3) (h4 := h4) (h5 := h5) (h6 := h6) (h7 := h7) (h8 := h8) (h9 := h9) (h10 := h10) (h11 := h11) (h12 := h12) (h13 := h13) (h14 := h14) (h15 := h15) (h16 := h16) (h17 := h17) (now := now_32) (kept := kept) (isKept := isKept) (found := found) (order := order_32) (doubts := doubts_32) (doubtMany := doubtMany_32) (weights := weights_32) (worn := worn_32) (pairs := pairs_32) (isTwice := isTwice_32) (doer := doer) (doneTo := doneTo) (doers := doers) (tape := tape) (taped := taped) (begins := begins) (ends := ends) (sort := sort) (value := value) (isWrong := isWrong) (items := items) (itemMany := itemMany) (bowThen := bowThen) (doubtThen := doubtThen) (deedThen := deedThen) (sayingThen := sayingThen) (widths := widths) (sizes := sizes) (numbers := numbers) (moved := moved) e_9) (cwV 2 hts gX8_behind_X8_goes rfl rfl rfl hd_X8_goes ⟨Nat.le_of_ble_eq_true rfl, Nat.le_of_ble_eq_true rfl⟩) hK hP hD hS hA hE (q0 := 0) (ci := 8) rfl rfl rfl rfl hl.1 rfl (Nat.le_of_ble_eq_true rfl) dX8_behind_45 ⟨Nat.zero_le _, Nat.zero_le _⟩ (fun H locs hP hD hS => ?_)
            refine lv_iload_n hx hb dX8_behind_48 rfl (lv_at hl 3 rfl) ?_
            refine lv_aload_n hx hb dX8_behind_49 rfl (lv_at hl 0 rfl) ?_
            refine va_get (D := G) (ci := 8) (v := .ref h6) (C := RX8) (T := TX8) (N := 32) hx hb hts hin_X8 hown hK hP 0 rfl rfl 7 (by decide) fk_25 (fun _ h9 => h9) rfl dX8_behind_50 ?_
            refine lv_iload hx hb dX8_behind_53 (lv_at hl 4 rfl) ?_
            obtain ⟨i_10, h⟩ := gd_some h
            refine va_lald hx hb hK hP 6 1 rfl rfl (ix_in i_10) dX8_behind_55 ?_
            refine lv_lconst (v := (0 : Int64)) hx hb dX8_behind_56 (by decide) ?_
            refine W.lcmp hx hb dX8_behind_57 ?_
            obtain ⟨u_11, e_11, h⟩ := bd_some h
            have J_11 : ∀ {H : Heap} {locs : List Loc} {ls : Array Slot}, va_P G vwCl (wM ca ev h0 h1 h2 h3 h4 h5 h6 h7 h8 h9 h10 h11 h12 h13 h14 h15 h16 h17 now_32 kept isKept found order_32 doubts_32 doubtMany_32 weights_32 u_9.1 u_9.2.1 u_9.2.2 doer doneTo doers tape taped begins ends sort value isWrong items itemMany bowThen doubtThen deedThen sayingThen widths sizes numbers moved) H → va_D A (wM ca ev h0 h1 h2 h3 h4 h5 h6 h7 h8 h9 h10 h11 h12 h13 h14 h15 h16 h17 now_32 kept isKept found order_32 doubts_32 doubtMany_32 weights_32 u_9.1 u_9.2.1 u_9.2.2 doer doneTo doers tape taped begins ends sort value isWrong items itemMany bowThen doubtThen deedThen sayingThen widths sizes numbers moved) → va_S A s.heap H locs → lv_has ls 5 [(0, .ref h0), (1, .int x1_32), (2, .int x2_32), (4, .int x4_32)] → W p l e rm_X8_behind s m args below meth c H locs 0 0 Q (F0 m 72 ls [.int u_11, .int x3_32]) := by
              intro H locs ls hP hD hS hl 
              refine lv_ior hx hb dX8_behind_72 ?_
              refine lv_istore_n (lv' := [(3, .int (x3_32 ||| u_11)), (0, .ref h0), (1, .int x1_32), (2, .int x2_32), (4, .int x4_32)]) hx hb dX8_behind_73 rfl hl (by decide) rfl (fun ls hl => ?_)
              refine lv_iinc (v := (x4_32 + (1 : Int32))) (lv' := [(4, .int (x4_32 + (1 : Int32))), (3, .int (x3_32 ||| u_11)), (0, .ref h0), (1, .int x1_32), (2, .int x2_32)]) hx hb dX8_behind_74 hl (k := 4) rfl rfl (by decide) rfl (fun ls hl => ?_)
              refine lv_goto (tgt := 32) hx hb dX8_behind_77 (by decide) ?_
              exact ih h hP hD hS (lv_sub hl [2, 3, 4, 1, 0] rfl) JK_32
            have h := e_11
            clear e_11
            refine lv_if_le (tgt := 71) hx hb dX8_behind_58 (by decide) (fun c_11 => ?_) (fun c_11 => ?_)
            · have h := ifp c_11 h
              refine lv_iconst (v := (0 : Int32)) hx hb dX8_behind_71 (by decide) ?_
              obtain rfl := Option.some.inj h
              exact J_11 hP hD hS (lv_sub hl [0, 1, 2, 4] rfl)
            · have h := ifn c_11 h
              refine lv_iconst (v := (1 : Int32)) hx hb dX8_behind_61 (by decide) ?_
              refine lv_aload_n hx hb dX8_behind_62 rfl (lv_at hl 0 rfl) ?_
              refine lv_iload_n hx hb dX8_behind_63 rfl (lv_at hl 1 rfl) ?_
              obtain ⟨u_12, e_12, h⟩ := bd_some h
              refine cm_Vi (As := [.int x1_32]) (rest := [.int (1 : Int32), .int x3_32]) ⟨hx, hb, hml, hown, hts⟩ (c_X8_maskOf (ca := ca) (ev := ev) (h0 := h0) (h1 := h1) (h2 := h2) (h3 := h3) (h4 := h4) (h5 := h5) (h6 := h6) (h7 := h7) (h8 := h8) (h9 := h9) (h10 := h10) (h11 := h11) (h12 := h12) (h13 := h13) (h14 := h14) (h15 := h15) (h16 := h16) (h17 := h17) (now := now_32) (kept := kept) (isKept := isKept) (found := found) (order := order_32) (doubts := doubts_32) (doubtMany := doubtMany_32) (weights := weights_32) (worn := u_9.1) (pairs := u_9.2.1) (isTwice := u_9.2.2) (doer := doer) (doneTo := doneTo) (doers := doers) (tape := tape) (taped := taped) (begins := begins) (ends := ends) (sort := sort) (value := value) (isWrong := isWrong) (items := items) (itemMany := itemMany) (bowThen := bowThen) (doubtThen := doubtThen) (deedThen := deedThen) (sayingThen := sayingThen) (widths := widths) (sizes := sizes) (numbers := numbers) (moved := moved) e_12) (cwV 1 hts gX8_behind_X8_maskOf rfl rfl rfl hd_X8_maskOf ⟨Nat.le_of_ble_eq_true rfl, Nat.le_of_ble_eq_true rfl⟩) hK hP hD hS hA hE (q0 := 0) (ci := 8) rfl rfl rfl rfl hl.1 rfl (Nat.le_of_ble_eq_true rfl) dX8_behind_64 ⟨Nat.zero_le _, Nat.zero_le _⟩ (fun H locs hP hD hS => ?_)
              refine lv_ishl hx hb dX8_behind_67 ?_
              refine lv_goto (tgt := 72) hx hb dX8_behind_68 (by decide) ?_
              obtain rfl := Option.some.inj h
              exact J_11 hP hD hS (lv_sub hl [0, 1, 2, 4] rfl)
      obtain ⟨u_13, e_13, h⟩ := bd_some h
      refine L_32 _ e_13 hP hD hS (lv_sub hl [2, 3, 4, 1, 0] rfl) ?_
      intro H locs ls hP hD hS hl
      refine lv_iload_n hx hb dX8_behind_80 rfl (lv_at hl 1 rfl) ?_
      obtain ⟨u_14, e_14, h⟩ := bd_some h
      refine cn_Si (As := [.int u_13.1]) (rest := []) ⟨hx, hb, hml, hown, hts⟩ (c_X8_only e_14) (va_cwS 1 hts gX8_behind_X8_only rfl rfl rfl hd_X8_only ⟨Nat.le_of_ble_eq_true rfl, Nat.le_of_ble_eq_true rfl⟩) hK hP hD hS hA hE rfl hl.1 rfl (Nat.le_of_ble_eq_true rfl) dX8_behind_81 ⟨Nat.zero_le _, Nat.zero_le _⟩ (fun H locs hP hD hS => ?_)
      refine lv_istore (lv' := [(4, .int u_14), (0, .ref h0), (3, .int u_13.1)]) hx hb dX8_behind_84 hl (by decide) rfl (fun ls hl => ?_)
      refine lv_iload hx hb dX8_behind_86 (lv_at hl 0 rfl) ?_
      refine lv_if_ge (tgt := 100) hx hb dX8_behind_88 (by decide) (fun c_15 => ?_) (fun c_15 => ?_)
      · have h := ifp c_15 h
        refine lv_iload hx hb dX8_behind_100 (lv_at hl 0 rfl) ?_
        obtain rfl := Option.some.inj h
        exact hRet hP hD hS dX8_behind_102
      · have h := ifn c_15 h
        refine lv_aload_n hx hb dX8_behind_91 rfl (lv_at hl 1 rfl) ?_
        refine lv_ldc (v := (-1000000004 : Int32)) hx hb hown (hts (.constant RX8 179 (-1000000004)) (by decide +kernel)) dX8_behind_92 ?_
        obtain ⟨u_16, e_16, h⟩ := bd_some h
        refine cm_Vi (As := [.int (-1000000004 : Int32)]) (rest := []) ⟨hx, hb, hml, hown, hts⟩ (c_X8_finding (ca := ca) (ev := ev) (h0 := h0) (h1 := h1) (h2 := h2) (h3 := h3) (h4 := h4) (h5 := h5) (h6 := h6) (h7 := h7) (h8 := h8) (h9 := h9) (h10 := h10) (h11 := h11) (h12 := h12) (h13 := h13) (h14 := h14) (h15 := h15) (h16 := h16) (h17 := h17) (now := now) (kept := kept) (isKept := isKept) (found := found) (order := u_6.2.1) (doubts := u_6.2.2.1) (doubtMany := u_6.2.2.2.1) (weights := u_6.2.2.2.2.1) (worn := u_13.2.1) (pairs := u_13.2.2.1) (isTwice := u_13.2.2.2) (doer := doer) (doneTo := doneTo) (doers := doers) (tape := tape) (taped := taped) (begins := begins) (ends := ends) (sort := sort) (value := value) (isWrong := isWrong) (items := items) (itemMany := itemMany) (bowThen := bowThen) (doubtThen := doubtThen) (deedThen := deedThen) (sayingThen := sayingThen) (widths := widths) (sizes := sizes) (numbers := numbers) (moved := moved) e_16) (cwV 1 hts gX8_behind_X8_finding rfl rfl rfl hd_X8_finding ⟨Nat.le_of_ble_eq_true rfl, Nat.le_of_ble_eq_true rfl⟩) hK hP hD hS hA hE (q0 := 0) (ci := 8) rfl rfl rfl rfl hl.1 rfl (Nat.le_of_ble_eq_true rfl) dX8_behind_94 ⟨Nat.zero_le _, Nat.zero_le _⟩ (fun H locs hP hD hS => ?_)
        refine lv_goto (tgt := 102) hx hb dX8_behind_97 (by decide) ?_
        obtain rfl := Option.some.inj h
        exact hRet hP hD hS dX8_behind_102
    · have h := ifp c_5 h
      refine lv_aload_n hx hb dX8_behind_15 rfl (lv_at hl 0 rfl) ?_
      refine lv_ldc (v := (-1000000001 : Int32)) hx hb hown (hts (.constant RX8 77 (-1000000001)) (by decide +kernel)) dX8_behind_16 ?_
      obtain ⟨u_17, e_17, h⟩ := bd_some h
      refine cm_Vi (As := [.int (-1000000001 : Int32)]) (rest := []) ⟨hx, hb, hml, hown, hts⟩ (c_X8_finding (ca := ca) (ev := ev) (h0 := h0) (h1 := h1) (h2 := h2) (h3 := h3) (h4 := h4) (h5 := h5) (h6 := h6) (h7 := h7) (h8 := h8) (h9 := h9) (h10 := h10) (h11 := h11) (h12 := h12) (h13 := h13) (h14 := h14) (h15 := h15) (h16 := h16) (h17 := h17) (now := now) (kept := kept) (isKept := isKept) (found := found) (order := order) (doubts := doubts) (doubtMany := doubtMany) (weights := weights) (worn := worn) (pairs := pairs) (isTwice := isTwice) (doer := doer) (doneTo := doneTo) (doers := doers) (tape := tape) (taped := taped) (begins := begins) (ends := ends) (sort := sort) (value := value) (isWrong := isWrong) (items := items) (itemMany := itemMany) (bowThen := bowThen) (doubtThen := doubtThen) (deedThen := deedThen) (sayingThen := sayingThen) (widths := widths) (sizes := sizes) (numbers := numbers) (moved := moved) e_17) (cwV 1 hts gX8_behind_X8_finding rfl rfl rfl hd_X8_finding ⟨Nat.le_of_ble_eq_true rfl, Nat.le_of_ble_eq_true rfl⟩) hK hP hD hS hA hE (q0 := 0) (ci := 8) rfl rfl rfl rfl hl.1 rfl (Nat.le_of_ble_eq_true rfl) dX8_behind_18 ⟨Nat.zero_le _, Nat.zero_le _⟩ (fun H locs hP hD hS => ?_)
      obtain rfl := Option.some.inj h
      exact hRet hP hD hS dX8_behind_21
abbrev rm_X8_met : Room := { frames := 5, cells := 0, slots := 0, locals := 120 }
theorem hd_X8_met : yX8_met.cls = RX8 ∧ yX8_met.cls ≠ "java/lang/invoke/MethodHandle" ∧ yX8_met.cls ≠ "java/lang/invoke/VarHandle" ∧ (parseMethodDescriptor yX8_met.desc).map (fun d => d.parameters.length) = some 1 := by decide +kernel
set_option maxHeartbeats 4000000 in
set_option maxRecDepth 100000 in
theorem c_X8_met {l : Launch} {G : va_G} {ca : Nat → ClassId} {ev : Nat → Nat} {h0 h1 h2 h3 h4 h5 h6 h7 h8 h9 h10 h11 h12 h13 h14 h15 h16 h17 : Nat} {now : (Nat → Int32)} {kept : (Nat → Int32)} {isKept : Int32} {found : (Nat → Int32)} {order : (Nat → Int32)} {doubts : (Nat → Int32)} {doubtMany : Int32} {weights : (Nat → Int64)} {worn : (Nat → Int32)} {pairs : Int64} {isTwice : Int32} {doer : (Nat → Int32)} {doneTo : (Nat → Int32)} {doers : (Nat → Int64)} {tape : (Nat → Int32)} {taped : Int32} {begins : Int32} {ends : Int32} {sort : Int32} {value : Int32} {isWrong : Int32} {items : (Nat → Int32)} {itemMany : Int32} {bowThen : Int32} {doubtThen : Int32} {deedThen : Int32} {sayingThen : Int32} {widths : (Nat → Int32)} {sizes : (Nat → Int32)} {numbers : (Nat → Int64)} {moved : (Nat → Int64)} {a1 : Int32} {N : Nat} {res : Int32 × (Nat → Int32) × (Nat → Int32) × (Nat → Int32) × Int32 × (Nat → Int64) × (Nat → Int32) × Int64 × Int32} (h : f_X8_met N now found order doubts doubtMany weights worn pairs isTwice a1 = some res) : CtI l yX8_met wsX8_met rm_X8_met G ca ev [.ref h0, .int a1] (wM ca ev h0 h1 h2 h3 h4 h5 h6 h7 h8 h9 h10 h11 h12 h13 h14 h15 h16 h17 now kept isKept found order doubts doubtMany weights worn pairs isTwice doer doneTo doers tape taped begins ends sort value isWrong items itemMany bowThen doubtThen deedThen sayingThen widths sizes numbers moved) (wM ca ev h0 h1 h2 h3 h4 h5 h6 h7 h8 h9 h10 h11 h12 h13 h14 h15 h16 h17 now kept isKept res.2.1 res.2.2.1 res.2.2.2.1 res.2.2.2.2.1 res.2.2.2.2.2.1 res.2.2.2.2.2.2.1 res.2.2.2.2.2.2.2.1 res.2.2.2.2.2.2.2.2 doer doneTo doers tape taped begins ends sort value isWrong items itemMany bowThen doubtThen deedThen sayingThen widths sizes numbers moved) res.1 := by
  unfold f_X8_met at h
  refine en_i (by decide) rfl (Nat.le_of_ble_eq_true rfl) ?_
  intro p e s m args below meth c A Q H locs ls hx hb hml hown hts hA hP hK hD hE hS hl hRet
  have hown : s.vm.findClass RX8 = some m.cls := hown
  have hl : lv_has ls 5 [(0, .ref h0), (1, .int a1)] := hl
  have hin_X8 : ∀ w ∈ u_ws RX8 TX8 32, w ∈ wsX8_met := fun w h9 => List.mem_cons_of_mem _ (List.mem_append_right _ h9)
  have fk_130 := hts (.fieldLink RX8 130 "MaskBowsModel" "pairs" "J") (by decide +kernel)
  have fk_25 := hts (.fieldLink RX8 25 "MaskBowsModel" "weights" "[J") (by decide +kernel)
  have fk_9 := hts (.fieldLink RX8 9 "MaskBowsModel" "now" "[I") (by decide +kernel)
  refine lv_aload_n hx hb dX8_met_0 rfl (lv_at hl 0 rfl) ?_
  refine lv_iload_n hx hb dX8_met_1 rfl (lv_at hl 1 rfl) ?_
  obtain ⟨u_1, e_1, h⟩ := bd_some h
  refine cm_Vi (As := [.int a1]) (rest := []) ⟨hx, hb, hml, hown, hts⟩ (c_X8_isOne (ca := ca) (ev := ev) (h0 := h0) (h1 := h1) (h2 := h2) (h3 := h3) (h4 := h4) (h5 := h5) (h6 := h6) (h7 := h7) (h8 := h8) (h9 := h9) (h10 := h10) (h11 := h11) (h12 := h12) (h13 := h13) (h14 := h14) (h15 := h15) (h16 := h16) (h17 := h17) (now := now) (kept := kept) (isKept := isKept) (found := found) (order := order) (doubts := doubts) (doubtMany := doubtMany) (weights := weights) (worn := worn) (pairs := pairs) (isTwice := isTwice) (doer := doer) (doneTo := doneTo) (doers := doers) (tape := tape) (taped := taped) (begins := begins) (ends := ends) (sort := sort) (value := value) (isWrong := isWrong) (items := items) (itemMany := itemMany) (bowThen := bowThen) (doubtThen := doubtThen) (deedThen := deedThen) (sayingThen := sayingThen) (widths := widths) (sizes := sizes) (numbers := numbers) (moved := moved) e_1) (cwV 1 hts gX8_met_X8_isOne rfl rfl rfl hd_X8_isOne ⟨Nat.le_of_ble_eq_true rfl, Nat.le_of_ble_eq_true rfl⟩) hK hP hD hS hA hE (q0 := 0) (ci := 8) rfl rfl rfl rfl hl.1 rfl (Nat.le_of_ble_eq_true rfl) dX8_met_2 ⟨Nat.zero_le _, Nat.zero_le _⟩ (fun H locs hP hD hS => ?_)
  refine lv_if_ne (tgt := 15) hx hb dX8_met_5 (by decide) (fun c_2 => ?_) (fun c_2 => ?_)
  · have h := ifn c_2 h
    refine lv_aload_n hx hb dX8_met_15 rfl (lv_at hl 0 rfl) ?_
    obtain ⟨u_3, e_3, h⟩ := bd_some h
    refine cm_Vl (As := []) (rest := []) ⟨hx, hb, hml, hown, hts⟩ (c_X8_weigh (ca := ca) (ev := ev) (h0 := h0) (h1 := h1) (h2 := h2) (h3 := h3) (h4 := h4) (h5 := h5) (h6 := h6) (h7 := h7) (h8 := h8) (h9 := h9) (h10 := h10) (h11 := h11) (h12 := h12) (h13 := h13) (h14 := h14) (h15 := h15) (h16 := h16) (h17 := h17) (now := now) (kept := kept) (isKept := isKept) (found := found) (order := order) (doubts := doubts) (doubtMany := doubtMany) (weights := weights) (worn := worn) (pairs := pairs) (isTwice := isTwice) (doer := doer) (doneTo := doneTo) (doers := doers) (tape := tape) (taped := taped) (begins := begins) (ends := ends) (sort := sort) (value := value) (isWrong := isWrong) (items := items) (itemMany := itemMany) (bowThen := bowThen) (doubtThen := doubtThen) (deedThen := deedThen) (sayingThen := sayingThen) (widths := widths) (sizes := sizes) (numbers := numbers) (moved := moved) e_3) (cwV 0 hts gX8_met_X8_weigh rfl rfl rfl hd_X8_weigh ⟨Nat.le_of_ble_eq_true rfl, Nat.le_of_ble_eq_true rfl⟩) hK hP hD hS hA hE (q0 := 0) (ci := 8) rfl rfl rfl rfl hl.1 rfl (Nat.le_of_ble_eq_true rfl) dX8_met_16 ⟨Nat.zero_le _, Nat.zero_le _⟩ (fun H locs hP hD hS => ?_)
    refine lv_pop2_2 hx hb dX8_met_19 rfl ?_
    refine lv_iconst (v := (0 : Int32)) hx hb dX8_met_20 (by decide) ?_
    refine lv_istore_n (lv' := [(2, .int (0 : Int32)), (0, .ref h0), (1, .int a1)]) hx hb dX8_met_21 rfl hl (by decide) rfl (fun ls hl => ?_)
    refine lv_iconst (v := (0 : Int32)) hx hb dX8_met_22 (by decide) ?_
    refine lv_istore_n (lv' := [(3, .int (0 : Int32)), (2, .int (0 : Int32)), (0, .ref h0), (1, .int a1)]) hx hb dX8_met_23 rfl hl (by decide) rfl (fun ls hl => ?_)
    have L_24 : ∀ {x1_24 : Int32} {now_24 : (Nat → Int32)} {order_24 : (Nat → Int32)} {doubts_24 : (Nat → Int32)} {doubtMany_24 : Int32} {weights_24 : (Nat → Int64)} (n_24 : Nat) {x2_24 : Int32} {x3_24 : Int32} {worn_24 : (Nat → Int32)} {pairs_24 : Int64} {isTwice_24 : Int32} {uL_24 : Int32 × (Nat → Int32) × Int64 × Int32} {H : Heap} {locs : List Loc} {ls : Array Slot}, f_X8_met_24 N x1_24 now_24 order_24 doubts_24 doubtMany_24 weights_24  n_24 x2_24 x3_24 worn_24 pairs_24 isTwice_24 = some uL_24 → va_P G vwCl (wM ca ev h0 h1 h2 h3 h4 h5 h6 h7 h8 h9 h10 h11 h12 h13 h14 h15 h16 h17 now_24 kept isKept found order_24 doubts_24 doubtMany_24 weights_24 worn_24 pairs_24 isTwice_24 doer doneTo doers tape taped begins ends sort value isWrong items itemMany bowThen doubtThen deedThen sayingThen widths sizes numbers moved) H → va_D A (wM ca ev h0 h1 h2 h3 h4 h5 h6 h7 h8 h9 h10 h11 h12 h13 h14 h15 h16 h17 now_24 kept isKept found order_24 doubts_24 doubtMany_24 weights_24 worn_24 pairs_24 isTwice_24 doer doneTo doers tape taped begins ends sort value isWrong items itemMany bowThen doubtThen deedThen sayingThen widths sizes numbers moved) → va_S A s.heap H locs → lv_has ls 5 [(0, .ref h0), (1, .int x1_24), (2, .int x2_24), (3, .int x3_24)] → (∀ {H : Heap} {locs : List Loc} {ls : Array Slot}, va_P G vwCl (wM ca ev h0 h1 h2 h3 h4 h5 h6 h7 h8 h9 h10 h11 h12 h13 h14 h15 h16 h17 now_24 kept isKept found order_24 doubts_24 doubtMany_24 weights_24 uL_24.2.1 uL_24.2.2.1 uL_24.2.2.2 doer doneTo doers tape taped begins ends sort value isWrong items itemMany bowThen doubtThen deedThen sayingThen widths sizes numbers moved) H → va_D A (wM ca ev h0 h1 h2 h3 h4 h5 h6 h7 h8 h9 h10 h11 h12 h13 h14 h15 h16 h17 now_24 kept isKept found order_24 doubts_24 doubtMany_24 weights_24 uL_24.2.1 uL_24.2.2.1 uL_24.2.2.2 doer doneTo doers tape taped begins ends sort value isWrong items itemMany bowThen doubtThen deedThen sayingThen widths sizes numbers moved) → va_S A s.heap H locs → lv_has ls 5 [(2, .int uL_24.1)] → W p l e rm_X8_met s m args below meth c H locs 0 0 Q (F0 m 106 ls [])) → W p l e rm_X8_met s m args below meth c H locs 0 0 Q (F0 m 24 ls []) := by
      intro x1_24 now_24 order_24 doubts_24 doubtMany_24 weights_24 n_24
      induction n_24 with
      | zero => intro x2_24 x3_24 worn_24 pairs_24 isTwice_24 uL_24 H locs ls h; exact absurd h (by rw [f_X8_met_24]; exact fun z => nomatch z)
      | succ n_24 ih =>
        intro x2_24 x3_24 worn_24 pairs_24 isTwice_24 uL_24 H locs ls h hP hD hS hl JK_24
        rw [f_X8_met_24] at h
        refine lv_iload_n hx hb dX8_met_24 rfl (lv_at hl 3 rfl) ?_
        refine lv_aload_n hx hb dX8_met_25 rfl (lv_at hl 0 rfl) ?_
        obtain ⟨u_4, e_4, h⟩ := bd_some h
        refine cm_Vi (As := []) (rest := [.int x3_24]) ⟨hx, hb, hml, hown, hts⟩ (c_X8_nightsThere (ca := ca) (ev := ev) (h0 := h0) (h1 := h1) (h2 := h2) (h3 := h3) (h4 := h4) (h5 := h5) (h6 := h6) (h7 := h7) (h8 := h8) (h9 := h9) (h10 := h10) (h11 := h11) (h12 := h12) (h13 := h13) (h14 := h14) (h15 := h15) (h16 := h16) (h17 := h17) (now := now_24) (kept := kept) (isKept := isKept) (found := found) (order := order_24) (doubts := doubts_24) (doubtMany := doubtMany_24) (weights := weights_24) (worn := worn_24) (pairs := pairs_24) (isTwice := isTwice_24) (doer := doer) (doneTo := doneTo) (doers := doers) (tape := tape) (taped := taped) (begins := begins) (ends := ends) (sort := sort) (value := value) (isWrong := isWrong) (items := items) (itemMany := itemMany) (bowThen := bowThen) (doubtThen := doubtThen) (deedThen := deedThen) (sayingThen := sayingThen) (widths := widths) (sizes := sizes) (numbers := numbers) (moved := moved) e_4) (cwV 0 hts gX8_met_X8_nightsThere rfl rfl rfl hd_X8_nightsThere ⟨Nat.le_of_ble_eq_true rfl, Nat.le_of_ble_eq_true rfl⟩) hK hP hD hS hA hE (q0 := 0) (ci := 8) rfl rfl rfl rfl hl.1 rfl (Nat.le_of_ble_eq_true rfl) dX8_met_26 ⟨Nat.zero_le _, Nat.zero_le _⟩ (fun H locs hP hD hS => ?_)
        refine lv_icmp_ge (tgt := 106) hx hb dX8_met_29 (by decide) (fun c_5 => ?_) (fun c_5 => ?_)
        · have h := ifp c_5 h
          obtain rfl := Option.some.inj h
          exact JK_24 hP hD hS (lv_sub hl [2] rfl)
        · have h := ifn c_5 h
          refine lv_aload_n hx hb dX8_met_32 rfl (lv_at hl 0 rfl) ?_
          refine lv_iload_n hx hb dX8_met_33 rfl (lv_at hl 3 rfl) ?_
          refine lv_bipush (v := (99 : Int32)) hx hb dX8_met_34 (by decide) ?_
          obtain ⟨u_6, e_6, h⟩ := bd_some h
          refine cm_Vv (As := [.int x3_24, .int (99 : Int32)]) (rest := []) ⟨hx, hb, hml, hown, hts⟩ (c_X8_goes (ca := ca) (ev := ev) (h0 := h0) (h1 := h1) (h2 := h2) (h3 := h3) (h4 := h4) (h5 := h5) (h6 := h6) (h7 := h7) (h8 := h8) (h9 := h9) (h10 := h10) (h11 := h11) (h12 := h12) (h13 := h13) (h14 := h14) (h15 := h15) (h16 := h16) (h17 := h17) (now := now_24) (kept := kept) (isKept := isKept) (found := found) (order := order_24) (doubts := doubts_24) (doubtMany := doubtMany_24) (weights := weights_24) (worn := worn_24) (pairs := pairs_24) (isTwice := isTwice_24) (doer := doer) (doneTo := doneTo) (doers := doers) (tape := tape) (taped := taped) (begins := begins) (ends := ends) (sort := sort) (value := value) (isWrong := isWrong) (items := items) (itemMany := itemMany) (bowThen := bowThen) (doubtThen := doubtThen) (deedThen := deedThen) (sayingThen := sayingThen) (widths := widths) (sizes := sizes) (numbers := numbers) (moved := moved) e_6) (cwV 2 hts gX8_met_X8_goes rfl rfl rfl hd_X8_goes ⟨Nat.le_of_ble_eq_true rfl, Nat.le_of_ble_eq_true rfl⟩) hK hP hD hS hA hE (q0 := 0) (ci := 8) rfl rfl rfl rfl hl.1 rfl (Nat.le_of_ble_eq_true rfl) dX8_met_36 ⟨Nat.zero_le _, Nat.zero_le _⟩ (fun H locs hP hD hS => ?_)
          refine lv_iconst (v := (0 : Int32)) hx hb dX8_met_39 (by decide) ?_
          refine lv_istore (lv' := [(4, .int (0 : Int32)), (0, .ref h0), (1, .int x1_24), (2, .int x2_24), (3, .int x3_24)]) hx hb dX8_met_40 hl (by decide) rfl (fun ls hl => ?_)
          have L_42 : ∀ {x1_42 : Int32} {x3_42 : Int32} {now_42 : (Nat → Int32)} {weights_42 : (Nat → Int64)} {pairs_42 : Int64} (n_42 : Nat) {x2_42 : Int32} {x4_42 : Int32} {uL_42 : Int32} {H : Heap} {locs : List Loc} {ls : Array Slot}, f_X8_met_42 x1_42 x3_42 now_42 weights_42 pairs_42  n_42 x2_42 x4_42 = some uL_42 → va_P G vwCl (wM ca ev h0 h1 h2 h3 h4 h5 h6 h7 h8 h9 h10 h11 h12 h13 h14 h15 h16 h17 now_42 kept isKept found order_24 doubts_24 doubtMany_24 weights_42 u_6.1 pairs_42 u_6.2.2 doer doneTo doers tape taped begins ends sort value isWrong items itemMany bowThen doubtThen deedThen sayingThen widths sizes numbers moved) H → va_D A (wM ca ev h0 h1 h2 h3 h4 h5 h6 h7 h8 h9 h10 h11 h12 h13 h14 h15 h16 h17 now_42 kept isKept found order_24 doubts_24 doubtMany_24 weights_42 u_6.1 pairs_42 u_6.2.2 doer doneTo doers tape taped begins ends sort value isWrong items itemMany bowThen doubtThen deedThen sayingThen widths sizes numbers moved) → va_S A s.heap H locs → lv_has ls 5 [(0, .ref h0), (1, .int x1_42), (2, .int x2_42), (3, .int x3_42), (4, .int x4_42)] → (∀ {H : Heap} {locs : List Loc} {ls : Array Slot}, va_P G vwCl (wM ca ev h0 h1 h2 h3 h4 h5 h6 h7 h8 h9 h10 h11 h12 h13 h14 h15 h16 h17 now_42 kept isKept found order_24 doubts_24 doubtMany_24 weights_42 u_6.1 pairs_42 u_6.2.2 doer doneTo doers tape taped begins ends sort value isWrong items itemMany bowThen doubtThen deedThen sayingThen widths sizes numbers moved) H → va_D A (wM ca ev h0 h1 h2 h3 h4 h5 h6 h7 h8 h9 h10 h11 h12 h13 h14 h15 h16 h17 now_42 kept isKept found order_24 doubts_24 doubtMany_24 weights_42 u_6.1 pairs_42 u_6.2.2 doer doneTo doers tape taped begins ends sort value isWrong items itemMany bowThen doubtThen deedThen sayingThen widths sizes numbers moved) → va_S A s.heap H locs → lv_has ls 5 [(0, .ref h0), (1, .int x1_42), (2, .int uL_42), (3, .int x3_42)] → W p l e rm_X8_met s m args below meth c H locs 0 0 Q (F0 m 100 ls [])) → W p l e rm_X8_met s m args below meth c H locs 0 0 Q (F0 m 42 ls []) := by
            intro x1_42 x3_42 now_42 weights_42 pairs_42 n_42
            induction n_42 with
            | zero => intro x2_42 x4_42 uL_42 H locs ls h; exact absurd h (by rw [f_X8_met_42]; exact fun z => nomatch z)
            | succ n_42 ih =>
              intro x2_42 x4_42 uL_42 H locs ls h hP hD hS hl JK_42
              rw [f_X8_met_42] at h
              refine lv_iload hx hb dX8_met_42 (lv_at hl 4 rfl) ?_
              refine lv_aload_n hx hb dX8_met_44 rfl (lv_at hl 0 rfl) ?_
              refine va_get (D := G) (ci := 8) (v := .ref h1) (C := RX8) (T := TX8) (N := 32) hx hb hts hin_X8 hown hK hP 0 rfl rfl 0 (by decide) fk_9 (fun _ h9 => h9) rfl dX8_met_45 ?_
              refine lv_iconst (v := (0 : Int32)) hx hb dX8_met_48 (by decide) ?_
              refine va_iald hx hb hK hP 1 0 rfl rfl (ix_in (by decide)) dX8_met_49 ?_
              refine lv_icmp_ge (tgt := 100) hx hb dX8_met_50 (by decide) (fun c_7 => ?_) (fun c_7 => ?_)
              · have h := ifp c_7 h
                obtain rfl := Option.some.inj h
                exact JK_42 hP hD hS (lv_sub hl [0, 1, 2, 3] rfl)
              · have h := ifn c_7 h
                refine lv_aload_n hx hb dX8_met_53 rfl (lv_at hl 0 rfl) ?_
                refine va_get (D := G) (ci := 8) (v := .ref h6) (C := RX8) (T := TX8) (N := 32) hx hb hts hin_X8 hown hK hP 0 rfl rfl 7 (by decide) fk_25 (fun _ h9 => h9) rfl dX8_met_54 ?_
                refine lv_iload_n hx hb dX8_met_57 rfl (lv_at hl 3 rfl) ?_
                obtain ⟨i_8, h⟩ := gd_some h
                refine va_lald hx hb hK hP 6 1 rfl rfl (ix_in i_8) dX8_met_58 ?_
                refine lv_lconst (v := (0 : Int64)) hx hb dX8_met_59 (by decide) ?_
                refine W.lcmp hx hb dX8_met_60 ?_
                refine lv_if_le (tgt := 100) hx hb dX8_met_61 (by decide) (fun c_9 => ?_) (fun c_9 => ?_)
                · have h := ifp c_9 h
                  obtain rfl := Option.some.inj h
                  exact JK_42 hP hD hS (lv_sub hl [0, 1, 2, 3] rfl)
                · have h := ifn c_9 h
                  refine lv_iload_n hx hb dX8_met_64 rfl (lv_at hl 2 rfl) ?_
                  refine lv_aload_n hx hb dX8_met_65 rfl (lv_at hl 0 rfl) ?_
                  refine va_get (D := G) (ci := 8) (v := .long pairs_42) (C := RX8) (T := TX8) (N := 32) hx hb hts hin_X8 hown hK hP 0 rfl rfl 9 (by decide) fk_130 (fun _ h9 => h9) rfl dX8_met_66 ?_
                  refine lv_bipush (v := (8 : Int32)) hx hb dX8_met_69 (by decide) ?_
                  refine lv_iload hx hb dX8_met_71 (lv_at hl 4 rfl) ?_
                  refine lv_iload_n hx hb dX8_met_73 rfl (lv_at hl 1 rfl) ?_
                  refine va_mmin hx hb (hml.trans hl.1.symm) hown (hts (.methodLink RX8 145 Lib.Math.min.name) (by decide +kernel)) (hts (.static Lib.Math.min.name) (by decide +kernel)) (hts (.initialized "java/lang/Math") (by decide +kernel)) (hts (.code Lib.Math.min.name Lib.Math.min.code 2 (some .int)) (by decide +kernel)) (Nat.le_of_ble_eq_true rfl) (Nat.le_of_ble_eq_true rfl) (Nat.zero_le _) (Nat.zero_le _) dX8_met_74 ?_
                  refine lv_imul hx hb dX8_met_77 ?_
                  refine lv_iload hx hb dX8_met_78 (lv_at hl 4 rfl) ?_
                  refine lv_iload_n hx hb dX8_met_80 rfl (lv_at hl 1 rfl) ?_
                  refine va_mmax hx hb (hml.trans hl.1.symm) hown (hts (.methodLink RX8 150 Lib.Math.max.name) (by decide +kernel)) (hts (.static Lib.Math.max.name) (by decide +kernel)) (hts (.initialized "java/lang/Math") (by decide +kernel)) (hts (.code Lib.Math.max.name Lib.Math.max.code 2 (some .int)) (by decide +kernel)) (Nat.le_of_ble_eq_true rfl) (Nat.le_of_ble_eq_true rfl) (Nat.zero_le _) (Nat.zero_le _) dX8_met_81 ?_
                  refine lv_iadd hx hb dX8_met_84 ?_
                  refine lv_lshr (v := (pairs_42 >>> ((((8 : Int32) * (if x1_42 < x4_42 then x1_42 else x4_42)) + (if x4_42 < x1_42 then x1_42 else x4_42)).toInt64 &&& 63))) hx hb dX8_met_85 rfl ?_
                  refine lv_lconst (v := (1 : Int64)) hx hb dX8_met_86 (by decide) ?_
                  refine lv_land hx hb dX8_met_87 ?_
                  refine lv_l2i (v := ((pairs_42 >>> ((((8 : Int32) * (if x1_42 < x4_42 then x1_42 else x4_42)) + (if x4_42 < x1_42 then x1_42 else x4_42)).toInt64 &&& 63)) &&& (1 : Int64)).toInt32) hx hb dX8_met_88 rfl ?_
                  refine lv_iload hx hb dX8_met_89 (lv_at hl 4 rfl) ?_
                  refine lv_ishl hx hb dX8_met_91 ?_
                  refine lv_ior hx hb dX8_met_92 ?_
                  refine lv_istore_n (lv' := [(2, .int (x2_42 ||| (((pairs_42 >>> ((((8 : Int32) * (if x1_42 < x4_42 then x1_42 else x4_42)) + (if x4_42 < x1_42 then x1_42 else x4_42)).toInt64 &&& 63)) &&& (1 : Int64)).toInt32 <<< (x4_42 &&& 31)))), (0, .ref h0), (1, .int x1_42), (3, .int x3_42), (4, .int x4_42)]) hx hb dX8_met_93 rfl hl (by decide) rfl (fun ls hl => ?_)
                  refine lv_iinc (v := (x4_42 + (1 : Int32))) (lv' := [(4, .int (x4_42 + (1 : Int32))), (2, .int (x2_42 ||| (((pairs_42 >>> ((((8 : Int32) * (if x1_42 < x4_42 then x1_42 else x4_42)) + (if x4_42 < x1_42 then x1_42 else x4_42)).toInt64 &&& 63)) &&& (1 : Int64)).toInt32 <<< (x4_42 &&& 31)))), (0, .ref h0), (1, .int x1_42), (3, .int x3_42)]) hx hb dX8_met_94 hl (k := 4) rfl rfl (by decide) rfl (fun ls hl => ?_)
                  refine lv_goto (tgt := 42) hx hb dX8_met_97 (by decide) ?_
                  exact ih h hP hD hS (lv_sub hl [2, 3, 1, 4, 0] rfl) JK_42
          obtain ⟨u_10, e_10, h⟩ := bd_some h
          refine L_42 _ e_10 hP hD hS (lv_sub hl [1, 2, 3, 4, 0] rfl) ?_
          intro H locs ls hP hD hS hl
          refine lv_iinc (v := (x3_24 + (1 : Int32))) (lv' := [(3, .int (x3_24 + (1 : Int32))), (0, .ref h0), (1, .int x1_24), (2, .int u_10)]) hx hb dX8_met_100 hl (k := 3) rfl rfl (by decide) rfl (fun ls hl => ?_)
          refine lv_goto (tgt := 24) hx hb dX8_met_103 (by decide) ?_
          exact ih h hP hD hS (lv_sub hl [1, 2, 3, 0] rfl) JK_24
    obtain ⟨u_11, e_11, h⟩ := bd_some h
    refine L_24 _ e_11 hP hD hS (lv_sub hl [2, 3, 1, 0] rfl) ?_
    intro H locs ls hP hD hS hl
    refine lv_iload_n hx hb dX8_met_106 rfl (lv_at hl 0 rfl) ?_
    obtain rfl := Option.some.inj h
    exact hRet hP hD hS dX8_met_107
  · have h := ifp c_2 h
    refine lv_aload_n hx hb dX8_met_8 rfl (lv_at hl 0 rfl) ?_
    refine lv_ldc (v := (-1000000001 : Int32)) hx hb hown (hts (.constant RX8 77 (-1000000001)) (by decide +kernel)) dX8_met_9 ?_
    obtain ⟨u_12, e_12, h⟩ := bd_some h
    refine cm_Vi (As := [.int (-1000000001 : Int32)]) (rest := []) ⟨hx, hb, hml, hown, hts⟩ (c_X8_finding (ca := ca) (ev := ev) (h0 := h0) (h1 := h1) (h2 := h2) (h3 := h3) (h4 := h4) (h5 := h5) (h6 := h6) (h7 := h7) (h8 := h8) (h9 := h9) (h10 := h10) (h11 := h11) (h12 := h12) (h13 := h13) (h14 := h14) (h15 := h15) (h16 := h16) (h17 := h17) (now := now) (kept := kept) (isKept := isKept) (found := found) (order := order) (doubts := doubts) (doubtMany := doubtMany) (weights := weights) (worn := worn) (pairs := pairs) (isTwice := isTwice) (doer := doer) (doneTo := doneTo) (doers := doers) (tape := tape) (taped := taped) (begins := begins) (ends := ends) (sort := sort) (value := value) (isWrong := isWrong) (items := items) (itemMany := itemMany) (bowThen := bowThen) (doubtThen := doubtThen) (deedThen := deedThen) (sayingThen := sayingThen) (widths := widths) (sizes := sizes) (numbers := numbers) (moved := moved) e_12) (cwV 1 hts gX8_met_X8_finding rfl rfl rfl hd_X8_finding ⟨Nat.le_of_ble_eq_true rfl, Nat.le_of_ble_eq_true rfl⟩) hK hP hD hS hA hE (q0 := 0) (ci := 8) rfl rfl rfl rfl hl.1 rfl (Nat.le_of_ble_eq_true rfl) dX8_met_11 ⟨Nat.zero_le _, Nat.zero_le _⟩ (fun H locs hP hD hS => ?_)
    obtain rfl := Option.some.inj h
    exact hRet hP hD hS dX8_met_14
abbrev rm_X8_lie : Room := { frames := 4, cells := 0, slots := 0, locals := 96 }
theorem hd_X8_lie : yX8_lie.cls = RX8 ∧ yX8_lie.cls ≠ "java/lang/invoke/MethodHandle" ∧ yX8_lie.cls ≠ "java/lang/invoke/VarHandle" ∧ (parseMethodDescriptor yX8_lie.desc).map (fun d => d.parameters.length) = some 0 := by decide +kernel
set_option maxHeartbeats 4000000 in
set_option maxRecDepth 100000 in
theorem c_X8_lie {l : Launch} {G : va_G} {ca : Nat → ClassId} {ev : Nat → Nat} {h0 h1 h2 h3 h4 h5 h6 h7 h8 h9 h10 h11 h12 h13 h14 h15 h16 h17 : Nat} {now : (Nat → Int32)} {kept : (Nat → Int32)} {isKept : Int32} {found : (Nat → Int32)} {order : (Nat → Int32)} {doubts : (Nat → Int32)} {doubtMany : Int32} {weights : (Nat → Int64)} {worn : (Nat → Int32)} {pairs : Int64} {isTwice : Int32} {doer : (Nat → Int32)} {doneTo : (Nat → Int32)} {doers : (Nat → Int64)} {tape : (Nat → Int32)} {taped : Int32} {begins : Int32} {ends : Int32} {sort : Int32} {value : Int32} {isWrong : Int32} {items : (Nat → Int32)} {itemMany : Int32} {bowThen : Int32} {doubtThen : Int32} {deedThen : Int32} {sayingThen : Int32} {widths : (Nat → Int32)} {sizes : (Nat → Int32)} {numbers : (Nat → Int64)} {moved : (Nat → Int64)}  {N : Nat} {res : Int32 × (Nat → Int32) × (Nat → Int32) × (Nat → Int32) × Int32 × (Nat → Int32) × Int64 × Int32} (h : f_X8_lie N now found order doubts doubtMany worn pairs isTwice = some res) : CtI l yX8_lie wsX8_lie rm_X8_lie G ca ev [.ref h0] (wM ca ev h0 h1 h2 h3 h4 h5 h6 h7 h8 h9 h10 h11 h12 h13 h14 h15 h16 h17 now kept isKept found order doubts doubtMany weights worn pairs isTwice doer doneTo doers tape taped begins ends sort value isWrong items itemMany bowThen doubtThen deedThen sayingThen widths sizes numbers moved) (wM ca ev h0 h1 h2 h3 h4 h5 h6 h7 h8 h9 h10 h11 h12 h13 h14 h15 h16 h17 now kept isKept res.2.1 res.2.2.1 res.2.2.2.1 res.2.2.2.2.1 weights res.2.2.2.2.2.1 res.2.2.2.2.2.2.1 res.2.2.2.2.2.2.2 doer doneTo doers tape taped begins ends sort value isWrong items itemMany bowThen doubtThen deedThen sayingThen widths sizes numbers moved) res.1 := by
  unfold f_X8_lie at h
  refine en_i (by decide) rfl (Nat.le_of_ble_eq_true rfl) ?_
  intro p e s m args below meth c A Q H locs ls hx hb hml hown hts hA hP hK hD hE hS hl hRet
  have hown : s.vm.findClass RX8 = some m.cls := hown
  have hl : lv_has ls 4 [(0, .ref h0)] := hl
  have hin_X8 : ∀ w ∈ u_ws RX8 TX8 32, w ∈ wsX8_lie := fun w h9 => List.mem_cons_of_mem _ (List.mem_append_right _ h9)
  have fk_9 := hts (.fieldLink RX8 9 "MaskBowsModel" "now" "[I") (by decide +kernel)
  refine lv_aload_n hx hb dX8_lie_0 rfl (lv_at hl 0 rfl) ?_
  obtain ⟨u_1, e_1, h⟩ := bd_some h
  refine cm_Vv (As := []) (rest := []) ⟨hx, hb, hml, hown, hts⟩ (c_X8_lay (ca := ca) (ev := ev) (h0 := h0) (h1 := h1) (h2 := h2) (h3 := h3) (h4 := h4) (h5 := h5) (h6 := h6) (h7 := h7) (h8 := h8) (h9 := h9) (h10 := h10) (h11 := h11) (h12 := h12) (h13 := h13) (h14 := h14) (h15 := h15) (h16 := h16) (h17 := h17) (now := now) (kept := kept) (isKept := isKept) (found := found) (order := order) (doubts := doubts) (doubtMany := doubtMany) (weights := weights) (worn := worn) (pairs := pairs) (isTwice := isTwice) (doer := doer) (doneTo := doneTo) (doers := doers) (tape := tape) (taped := taped) (begins := begins) (ends := ends) (sort := sort) (value := value) (isWrong := isWrong) (items := items) (itemMany := itemMany) (bowThen := bowThen) (doubtThen := doubtThen) (deedThen := deedThen) (sayingThen := sayingThen) (widths := widths) (sizes := sizes) (numbers := numbers) (moved := moved) e_1) (cwV 0 hts gX8_lie_X8_lay rfl rfl rfl hd_X8_lay ⟨Nat.le_of_ble_eq_true rfl, Nat.le_of_ble_eq_true rfl⟩) hK hP hD hS hA hE (q0 := 0) (ci := 8) rfl rfl rfl rfl hl.1 rfl (Nat.le_of_ble_eq_true rfl) dX8_lie_1 ⟨Nat.zero_le _, Nat.zero_le _⟩ (fun H locs hP hD hS => ?_)
  refine lv_iconst (v := (0 : Int32)) hx hb dX8_lie_4 (by decide) ?_
  refine lv_istore_n (lv' := [(1, .int (0 : Int32)), (0, .ref h0)]) hx hb dX8_lie_5 rfl hl (by decide) rfl (fun ls hl => ?_)
  have L_6 : ∀  {now_6 : (Nat → Int32)} {found_6 : (Nat → Int32)} {order_6 : (Nat → Int32)} {doubts_6 : (Nat → Int32)} {doubtMany_6 : Int32} {K_6 : ((Nat → Int32) × Int64 × Int32) → Option (Int32 × (Nat → Int32) × (Nat → Int32) × (Nat → Int32) × Int32 × (Nat → Int32) × Int64 × Int32)} (n_6 : Nat) {x1_6 : Int32} {worn_6 : (Nat → Int32)} {pairs_6 : Int64} {isTwice_6 : Int32} {H : Heap} {locs : List Loc} {ls : Array Slot}, f_X8_lie_6 N now_6 found_6 order_6 doubts_6 doubtMany_6 K_6  n_6 x1_6 worn_6 pairs_6 isTwice_6 = some res → (∀ {H : Heap} {locs : List Loc} {pc : Nat} {ls : Array Slot}, va_P G vwCl (wM ca ev h0 h1 h2 h3 h4 h5 h6 h7 h8 h9 h10 h11 h12 h13 h14 h15 h16 h17 now_6 kept isKept res.2.1 res.2.2.1 res.2.2.2.1 res.2.2.2.2.1 weights res.2.2.2.2.2.1 res.2.2.2.2.2.2.1 res.2.2.2.2.2.2.2 doer doneTo doers tape taped begins ends sort value isWrong items itemMany bowThen doubtThen deedThen sayingThen widths sizes numbers moved) H → va_D A (wM ca ev h0 h1 h2 h3 h4 h5 h6 h7 h8 h9 h10 h11 h12 h13 h14 h15 h16 h17 now_6 kept isKept res.2.1 res.2.2.1 res.2.2.2.1 res.2.2.2.2.1 weights res.2.2.2.2.2.1 res.2.2.2.2.2.2.1 res.2.2.2.2.2.2.2 doer doneTo doers tape taped begins ends sort value isWrong items itemMany bowThen doubtThen deedThen sayingThen widths sizes numbers moved) → va_S A s.heap H locs → decode cX8_lie pc = .ok (.ireturn, 1) → W p l e rm_X8_lie s m args below meth c H locs 0 0 Q (F0 m pc ls [.int res.1])) → va_P G vwCl (wM ca ev h0 h1 h2 h3 h4 h5 h6 h7 h8 h9 h10 h11 h12 h13 h14 h15 h16 h17 now_6 kept isKept found_6 order_6 doubts_6 doubtMany_6 weights worn_6 pairs_6 isTwice_6 doer doneTo doers tape taped begins ends sort value isWrong items itemMany bowThen doubtThen deedThen sayingThen widths sizes numbers moved) H → va_D A (wM ca ev h0 h1 h2 h3 h4 h5 h6 h7 h8 h9 h10 h11 h12 h13 h14 h15 h16 h17 now_6 kept isKept found_6 order_6 doubts_6 doubtMany_6 weights worn_6 pairs_6 isTwice_6 doer doneTo doers tape taped begins ends sort value isWrong items itemMany bowThen doubtThen deedThen sayingThen widths sizes numbers moved) → va_S A s.heap H locs → lv_has ls 4 [(0, .ref h0), (1, .int x1_6)] → (∀ {uL_6 : (Nat → Int32) × Int64 × Int32} {H : Heap} {locs : List Loc} {ls : Array Slot}, K_6 uL_6 = some res → va_P G vwCl (wM ca ev h0 h1 h2 h3 h4 h5 h6 h7 h8 h9 h10 h11 h12 h13 h14 h15 h16 h17 now_6 kept isKept found_6 order_6 doubts_6 doubtMany_6 weights uL_6.1 uL_6.2.1 uL_6.2.2 doer doneTo doers tape taped begins ends sort value isWrong items itemMany bowThen doubtThen deedThen sayingThen widths sizes numbers moved) H → va_D A (wM ca ev h0 h1 h2 h3 h4 h5 h6 h7 h8 h9 h10 h11 h12 h13 h14 h15 h16 h17 now_6 kept isKept found_6 order_6 doubts_6 doubtMany_6 weights uL_6.1 uL_6.2.1 uL_6.2.2 doer doneTo doers tape taped begins ends sort value isWrong items itemMany bowThen doubtThen deedThen sayingThen widths sizes numbers moved) → va_S A s.heap H locs → lv_has ls 4 [(0, .ref h0)] → W p l e rm_X8_lie s m args below meth c H locs 0 0 Q (F0 m 85 ls [])) → W p l e rm_X8_lie s m args below meth c H locs 0 0 Q (F0 m 6 ls []) := by
    intro now_6 found_6 order_6 doubts_6 doubtMany_6 K_6 n_6
    induction n_6 with
    | zero => intro x1_6 worn_6 pairs_6 isTwice_6 H locs ls h; exact absurd h (by rw [f_X8_lie_6]; exact fun z => nomatch z)
    | succ n_6 ih =>
      intro x1_6 worn_6 pairs_6 isTwice_6 H locs ls h hRet hP hD hS hl JK_6
      rw [f_X8_lie_6] at h
      refine lv_iload_n hx hb dX8_lie_6 rfl (lv_at hl 1 rfl) ?_
      refine lv_aload_n hx hb dX8_lie_7 rfl (lv_at hl 0 rfl) ?_
      refine va_get (D := G) (ci := 8) (v := .ref h1) (C := RX8) (T := TX8) (N := 32) hx hb hts hin_X8 hown hK hP 0 rfl rfl 0 (by decide) fk_9 (fun _ h9 => h9) rfl dX8_lie_8 ?_
      refine lv_iconst (v := (5 : Int32)) hx hb dX8_lie_11 (by decide) ?_
      refine va_iald hx hb hK hP 1 0 rfl rfl (ix_in (by decide)) dX8_lie_12 ?_
      refine lv_icmp_ge (tgt := 85) hx hb dX8_lie_13 (by decide) (fun c_2 => ?_) (fun c_2 => ?_)
      · have h := ifp c_2 h
        exact JK_6 h hP hD hS (lv_sub hl [0] rfl)
      · have h := ifn c_2 h
        refine lv_iconst (v := (0 : Int32)) hx hb dX8_lie_16 (by decide) ?_
        refine lv_istore_n (lv' := [(2, .int (0 : Int32)), (0, .ref h0), (1, .int x1_6)]) hx hb dX8_lie_17 rfl hl (by decide) rfl (fun ls hl => ?_)
        refine lv_iconst (v := (0 : Int32)) hx hb dX8_lie_18 (by decide) ?_
        refine lv_istore_n (lv' := [(3, .int (0 : Int32)), (2, .int (0 : Int32)), (0, .ref h0), (1, .int x1_6)]) hx hb dX8_lie_19 rfl hl (by decide) rfl (fun ls hl => ?_)
        have L_20 : ∀ {x1_20 : Int32} {now_20 : (Nat → Int32)} {order_20 : (Nat → Int32)} {doubts_20 : (Nat → Int32)} {doubtMany_20 : Int32} (n_20 : Nat) {x2_20 : Int32} {x3_20 : Int32} {worn_20 : (Nat → Int32)} {pairs_20 : Int64} {isTwice_20 : Int32} {uL_20 : Int32 × (Nat → Int32) × Int64 × Int32} {H : Heap} {locs : List Loc} {ls : Array Slot}, f_X8_lie_20 N x1_20 now_20 order_20 doubts_20 doubtMany_20  n_20 x2_20 x3_20 worn_20 pairs_20 isTwice_20 = some uL_20 → va_P G vwCl (wM ca ev h0 h1 h2 h3 h4 h5 h6 h7 h8 h9 h10 h11 h12 h13 h14 h15 h16 h17 now_20 kept isKept found_6 order_20 doubts_20 doubtMany_20 weights worn_20 pairs_20 isTwice_20 doer doneTo doers tape taped begins ends sort value isWrong items itemMany bowThen doubtThen deedThen sayingThen widths sizes numbers moved) H → va_D A (wM ca ev h0 h1 h2 h3 h4 h5 h6 h7 h8 h9 h10 h11 h12 h13 h14 h15 h16 h17 now_20 kept isKept found_6 order_20 doubts_20 doubtMany_20 weights worn_20 pairs_20 isTwice_20 doer doneTo doers tape taped begins ends sort value isWrong items itemMany bowThen doubtThen deedThen sayingThen widths sizes numbers moved) → va_S A s.heap H locs → lv_has ls 4 [(0, .ref h0), (1, .int x1_20), (2, .int x2_20), (3, .int x3_20)] → (∀ {H : Heap} {locs : List Loc} {ls : Array Slot}, va_P G vwCl (wM ca ev h0 h1 h2 h3 h4 h5 h6 h7 h8 h9 h10 h11 h12 h13 h14 h15 h16 h17 now_20 kept isKept found_6 order_20 doubts_20 doubtMany_20 weights uL_20.2.1 uL_20.2.2.1 uL_20.2.2.2 doer doneTo doers tape taped begins ends sort value isWrong items itemMany bowThen doubtThen deedThen sayingThen widths sizes numbers moved) H → va_D A (wM ca ev h0 h1 h2 h3 h4 h5 h6 h7 h8 h9 h10 h11 h12 h13 h14 h15 h16 h17 now_20 kept isKept found_6 order_20 doubts_20 doubtMany_20 weights uL_20.2.1 uL_20.2.2.1 uL_20.2.2.2 doer doneTo doers tape taped begins ends sort value isWrong items itemMany bowThen doubtThen deedThen sayingThen widths sizes numbers moved) → va_S A s.heap H locs → lv_has ls 4 [(0, .ref h0), (1, .int x1_20), (2, .int uL_20.1)] → W p l e rm_X8_lie s m args below meth c H locs 0 0 Q (F0 m 73 ls [])) → W p l e rm_X8_lie s m args below meth c H locs 0 0 Q (F0 m 20 ls []) := by
          intro x1_20 now_20 order_20 doubts_20 doubtMany_20 n_20
          induction n_20 with
          | zero => intro x2_20 x3_20 worn_20 pairs_20 isTwice_20 uL_20 H locs ls h; exact absurd h (by rw [f_X8_lie_20]; exact fun z => nomatch z)
          | succ n_20 ih =>
            intro x2_20 x3_20 worn_20 pairs_20 isTwice_20 uL_20 H locs ls h hP hD hS hl JK_20
            rw [f_X8_lie_20] at h
            refine lv_iload_n hx hb dX8_lie_20 rfl (lv_at hl 3 rfl) ?_
            refine lv_aload_n hx hb dX8_lie_21 rfl (lv_at hl 0 rfl) ?_
            obtain ⟨u_3, e_3, h⟩ := bd_some h
            refine cm_Vi (As := []) (rest := [.int x3_20]) ⟨hx, hb, hml, hown, hts⟩ (c_X8_nightsThere (ca := ca) (ev := ev) (h0 := h0) (h1 := h1) (h2 := h2) (h3 := h3) (h4 := h4) (h5 := h5) (h6 := h6) (h7 := h7) (h8 := h8) (h9 := h9) (h10 := h10) (h11 := h11) (h12 := h12) (h13 := h13) (h14 := h14) (h15 := h15) (h16 := h16) (h17 := h17) (now := now_20) (kept := kept) (isKept := isKept) (found := found_6) (order := order_20) (doubts := doubts_20) (doubtMany := doubtMany_20) (weights := weights) (worn := worn_20) (pairs := pairs_20) (isTwice := isTwice_20) (doer := doer) (doneTo := doneTo) (doers := doers) (tape := tape) (taped := taped) (begins := begins) (ends := ends) (sort := sort) (value := value) (isWrong := isWrong) (items := items) (itemMany := itemMany) (bowThen := bowThen) (doubtThen := doubtThen) (deedThen := deedThen) (sayingThen := sayingThen) (widths := widths) (sizes := sizes) (numbers := numbers) (moved := moved) e_3) (cwV 0 hts gX8_lie_X8_nightsThere rfl rfl rfl hd_X8_nightsThere ⟨Nat.le_of_ble_eq_true rfl, Nat.le_of_ble_eq_true rfl⟩) hK hP hD hS hA hE (q0 := 0) (ci := 8) rfl rfl rfl rfl hl.1 rfl (Nat.le_of_ble_eq_true rfl) dX8_lie_22 ⟨Nat.zero_le _, Nat.zero_le _⟩ (fun H locs hP hD hS => ?_)
            refine lv_icmp_ge (tgt := 73) hx hb dX8_lie_25 (by decide) (fun c_4 => ?_) (fun c_4 => ?_)
            · have h := ifp c_4 h
              obtain rfl := Option.some.inj h
              exact JK_20 hP hD hS (lv_sub hl [0, 1, 2] rfl)
            · have h := ifn c_4 h
              refine lv_iload_n hx hb dX8_lie_28 rfl (lv_at hl 2 rfl) ?_
              obtain ⟨u_5, e_5, h⟩ := bd_some h
              have J_5 : ∀ {H : Heap} {locs : List Loc} {ls : Array Slot}, va_P G vwCl (wM ca ev h0 h1 h2 h3 h4 h5 h6 h7 h8 h9 h10 h11 h12 h13 h14 h15 h16 h17 now_20 kept isKept found_6 order_20 doubts_20 doubtMany_20 weights u_5.2.1 u_5.2.2.1 u_5.2.2.2 doer doneTo doers tape taped begins ends sort value isWrong items itemMany bowThen doubtThen deedThen sayingThen widths sizes numbers moved) H → va_D A (wM ca ev h0 h1 h2 h3 h4 h5 h6 h7 h8 h9 h10 h11 h12 h13 h14 h15 h16 h17 now_20 kept isKept found_6 order_20 doubts_20 doubtMany_20 weights u_5.2.1 u_5.2.2.1 u_5.2.2.2 doer doneTo doers tape taped begins ends sort value isWrong items itemMany bowThen doubtThen deedThen sayingThen widths sizes numbers moved) → va_S A s.heap H locs → lv_has ls 4 [(0, .ref h0), (1, .int x1_20), (3, .int x3_20)] → (u_5.1 = 0 ∨ u_5.1 = 1) → W p l e rm_X8_lie s m args below meth c H locs 0 0 Q (F0 m 66 ls [.int u_5.1]) := by
                intro H locs ls hP hD hS hl zj_5_0
                refine lv_istore_n (lv' := [(2, .int u_5.1), (0, .ref h0), (1, .int x1_20), (3, .int x3_20)]) hx hb dX8_lie_66 rfl hl (by decide) rfl (fun ls hl => ?_)
                refine lv_iinc (v := (x3_20 + (1 : Int32))) (lv' := [(3, .int (x3_20 + (1 : Int32))), (2, .int u_5.1), (0, .ref h0), (1, .int x1_20)]) hx hb dX8_lie_67 hl (k := 3) rfl rfl (by decide) rfl (fun ls hl => ?_)
                refine lv_goto (tgt := 20) hx hb dX8_lie_70 (by decide) ?_
                exact ih h hP hD hS (lv_sub hl [2, 3, 1, 0] rfl) JK_20
              have h := e_5
              clear e_5
              refine lv_if_ne (tgt := 61) hx hb dX8_lie_29 (by decide) (fun c_5 => ?_) (fun c_5 => ?_)
              · have h := ifn c_5 h
                refine lv_iconst (v := (1 : Int32)) hx hb dX8_lie_61 (by decide) ?_
                refine lv_goto (tgt := 66) hx hb dX8_lie_62 (by decide) ?_
                obtain rfl := Option.some.inj h
                exact J_5 hP hD hS (lv_sub hl [0, 1, 3] rfl) zb_1
              · have h := ifp c_5 h
                refine lv_aload_n hx hb dX8_lie_32 rfl (lv_at hl 0 rfl) ?_
                refine lv_iload_n hx hb dX8_lie_33 rfl (lv_at hl 3 rfl) ?_
                obtain ⟨u_6, e_6, h⟩ := bd_some h
                refine cm_Vl (As := [.int x3_20]) (rest := []) ⟨hx, hb, hml, hown, hts⟩ (c_X8_weightOf (ca := ca) (ev := ev) (h0 := h0) (h1 := h1) (h2 := h2) (h3 := h3) (h4 := h4) (h5 := h5) (h6 := h6) (h7 := h7) (h8 := h8) (h9 := h9) (h10 := h10) (h11 := h11) (h12 := h12) (h13 := h13) (h14 := h14) (h15 := h15) (h16 := h16) (h17 := h17) (now := now_20) (kept := kept) (isKept := isKept) (found := found_6) (order := order_20) (doubts := doubts_20) (doubtMany := doubtMany_20) (weights := weights) (worn := worn_20) (pairs := pairs_20) (isTwice := isTwice_20) (doer := doer) (doneTo := doneTo) (doers := doers) (tape := tape) (taped := taped) (begins := begins) (ends := ends) (sort := sort) (value := value) (isWrong := isWrong) (items := items) (itemMany := itemMany) (bowThen := bowThen) (doubtThen := doubtThen) (deedThen := deedThen) (sayingThen := sayingThen) (widths := widths) (sizes := sizes) (numbers := numbers) (moved := moved) e_6) (cwV 1 hts gX8_lie_X8_weightOf rfl rfl rfl hd_X8_weightOf ⟨Nat.le_of_ble_eq_true rfl, Nat.le_of_ble_eq_true rfl⟩) hK hP hD hS hA hE (q0 := 0) (ci := 8) rfl rfl rfl rfl hl.1 rfl (Nat.le_of_ble_eq_true rfl) dX8_lie_34 ⟨Nat.zero_le _, Nat.zero_le _⟩ (fun H locs hP hD hS => ?_)
                refine lv_lconst (v := (0 : Int64)) hx hb dX8_lie_37 (by decide) ?_
                refine W.lcmp hx hb dX8_lie_38 ?_
                refine lv_if_le (tgt := 65) hx hb dX8_lie_39 (by decide) (fun c_7 => ?_) (fun c_7 => ?_)
                · have h := ifp c_7 h
                  refine lv_iconst (v := (0 : Int32)) hx hb dX8_lie_65 (by decide) ?_
                  obtain rfl := Option.some.inj h
                  exact J_5 hP hD hS (lv_sub hl [0, 1, 3] rfl) zb_0
                · have h := ifn c_7 h
                  refine lv_aload_n hx hb dX8_lie_42 rfl (lv_at hl 0 rfl) ?_
                  refine lv_iload_n hx hb dX8_lie_43 rfl (lv_at hl 3 rfl) ?_
                  obtain ⟨u_8, e_8, h⟩ := bd_some h
                  refine cm_Vi (As := [.int x3_20]) (rest := []) ⟨hx, hb, hml, hown, hts⟩ (c_X8_breaksRule (ca := ca) (ev := ev) (h0 := h0) (h1 := h1) (h2 := h2) (h3 := h3) (h4 := h4) (h5 := h5) (h6 := h6) (h7 := h7) (h8 := h8) (h9 := h9) (h10 := h10) (h11 := h11) (h12 := h12) (h13 := h13) (h14 := h14) (h15 := h15) (h16 := h16) (h17 := h17) (now := now_20) (kept := kept) (isKept := isKept) (found := found_6) (order := order_20) (doubts := doubts_20) (doubtMany := doubtMany_20) (weights := weights) (worn := worn_20) (pairs := pairs_20) (isTwice := isTwice_20) (doer := doer) (doneTo := doneTo) (doers := doers) (tape := tape) (taped := taped) (begins := begins) (ends := ends) (sort := sort) (value := value) (isWrong := isWrong) (items := items) (itemMany := itemMany) (bowThen := bowThen) (doubtThen := doubtThen) (deedThen := deedThen) (sayingThen := sayingThen) (widths := widths) (sizes := sizes) (numbers := numbers) (moved := moved) e_8) (cwV 1 hts gX8_lie_X8_breaksRule rfl rfl rfl hd_X8_breaksRule ⟨Nat.le_of_ble_eq_true rfl, Nat.le_of_ble_eq_true rfl⟩) hK hP hD hS hA hE (q0 := 0) (ci := 8) rfl rfl rfl rfl hl.1 rfl (Nat.le_of_ble_eq_true rfl) dX8_lie_44 ⟨Nat.zero_le _, Nat.zero_le _⟩ (fun H locs hP hD hS => ?_)
                  refine lv_if_ne (tgt := 65) hx hb dX8_lie_47 (by decide) (fun c_9 => ?_) (fun c_9 => ?_)
                  · have h := ifn c_9 h
                    refine lv_iconst (v := (0 : Int32)) hx hb dX8_lie_65 (by decide) ?_
                    obtain rfl := Option.some.inj h
                    exact J_5 hP hD hS (lv_sub hl [0, 1, 3] rfl) zb_0
                  · have h := ifp c_9 h
                    refine lv_aload_n hx hb dX8_lie_50 rfl (lv_at hl 0 rfl) ?_
                    refine lv_iload_n hx hb dX8_lie_51 rfl (lv_at hl 3 rfl) ?_
                    refine lv_iload_n hx hb dX8_lie_52 rfl (lv_at hl 1 rfl) ?_
                    refine lv_iconst (v := (1 : Int32)) hx hb dX8_lie_53 (by decide) ?_
                    refine lv_iadd hx hb dX8_lie_54 ?_
                    obtain ⟨u_10, e_10, h⟩ := bd_some h
                    refine cm_Vi (As := [.int x3_20, .int (x1_20 + (1 : Int32))]) (rest := []) ⟨hx, hb, hml, hown, hts⟩ (c_X8_areSo (ca := ca) (ev := ev) (h0 := h0) (h1 := h1) (h2 := h2) (h3 := h3) (h4 := h4) (h5 := h5) (h6 := h6) (h7 := h7) (h8 := h8) (h9 := h9) (h10 := h10) (h11 := h11) (h12 := h12) (h13 := h13) (h14 := h14) (h15 := h15) (h16 := h16) (h17 := h17) (now := now_20) (kept := kept) (isKept := isKept) (found := found_6) (order := order_20) (doubts := doubts_20) (doubtMany := doubtMany_20) (weights := weights) (worn := u_8.2.1) (pairs := u_8.2.2.1) (isTwice := u_8.2.2.2) (doer := doer) (doneTo := doneTo) (doers := doers) (tape := tape) (taped := taped) (begins := begins) (ends := ends) (sort := sort) (value := value) (isWrong := isWrong) (items := items) (itemMany := itemMany) (bowThen := bowThen) (doubtThen := doubtThen) (deedThen := deedThen) (sayingThen := sayingThen) (widths := widths) (sizes := sizes) (numbers := numbers) (moved := moved) e_10) (cwV 2 hts gX8_lie_X8_areSo rfl rfl rfl hd_X8_areSo ⟨Nat.le_of_ble_eq_true rfl, Nat.le_of_ble_eq_true rfl⟩) hK hP hD hS hA hE (q0 := 0) (ci := 8) rfl rfl rfl rfl hl.1 rfl (Nat.le_of_ble_eq_true rfl) dX8_lie_55 ⟨Nat.zero_le _, Nat.zero_le _⟩ (fun H locs hP hD hS => ?_)
                    refine lv_if_eq (tgt := 65) hx hb dX8_lie_58 (by decide) (fun c_11 => ?_) (fun c_11 => ?_)
                    · have h := ifp c_11 h
                      refine lv_iconst (v := (0 : Int32)) hx hb dX8_lie_65 (by decide) ?_
                      obtain rfl := Option.some.inj h
                      exact J_5 hP hD hS (lv_sub hl [0, 1, 3] rfl) zb_0
                    · have h := ifn c_11 h
                      refine lv_iconst (v := (1 : Int32)) hx hb dX8_lie_61 (by decide) ?_
                      refine lv_goto (tgt := 66) hx hb dX8_lie_62 (by decide) ?_
                      obtain rfl := Option.some.inj h
                      exact J_5 hP hD hS (lv_sub hl [0, 1, 3] rfl) zb_1
        obtain ⟨u_12, e_12, h⟩ := bd_some h
        refine L_20 _ e_12 hP hD hS (lv_sub hl [2, 3, 1, 0] rfl) ?_
        intro H locs ls hP hD hS hl
        refine lv_iload_n hx hb dX8_lie_73 rfl (lv_at hl 2 rfl) ?_
        refine lv_if_ne (tgt := 79) hx hb dX8_lie_74 (by decide) (fun c_13 => ?_) (fun c_13 => ?_)
        · have h := ifn c_13 h
          refine lv_iinc (v := (x1_6 + (1 : Int32))) (lv' := [(1, .int (x1_6 + (1 : Int32))), (0, .ref h0), (2, .int u_12.1)]) hx hb dX8_lie_79 hl (k := 1) rfl rfl (by decide) rfl (fun ls hl => ?_)
          refine lv_goto (tgt := 6) hx hb dX8_lie_82 (by decide) ?_
          exact ih h hRet hP hD hS (lv_sub hl [1, 0] rfl) JK_6
        · have h := ifp c_13 h
          refine lv_iload_n hx hb dX8_lie_77 rfl (lv_at hl 1 rfl) ?_
          obtain rfl := Option.some.inj h
          exact hRet hP hD hS dX8_lie_78
  refine L_6 _ h hRet hP hD hS (lv_sub hl [1, 0] rfl) ?_
  clear h
  intro u_14 H locs ls h hP hD hS hl
  refine lv_aload_n hx hb dX8_lie_85 rfl (lv_at hl 0 rfl) ?_
  refine lv_ldc (v := (-1000000004 : Int32)) hx hb hown (hts (.constant RX8 179 (-1000000004)) (by decide +kernel)) dX8_lie_86 ?_
  obtain ⟨u_15, e_15, h⟩ := bd_some h
  refine cm_Vi (As := [.int (-1000000004 : Int32)]) (rest := []) ⟨hx, hb, hml, hown, hts⟩ (c_X8_finding (ca := ca) (ev := ev) (h0 := h0) (h1 := h1) (h2 := h2) (h3 := h3) (h4 := h4) (h5 := h5) (h6 := h6) (h7 := h7) (h8 := h8) (h9 := h9) (h10 := h10) (h11 := h11) (h12 := h12) (h13 := h13) (h14 := h14) (h15 := h15) (h16 := h16) (h17 := h17) (now := now) (kept := kept) (isKept := isKept) (found := found) (order := u_1.1) (doubts := u_1.2.1) (doubtMany := u_1.2.2) (weights := weights) (worn := u_14.1) (pairs := u_14.2.1) (isTwice := u_14.2.2) (doer := doer) (doneTo := doneTo) (doers := doers) (tape := tape) (taped := taped) (begins := begins) (ends := ends) (sort := sort) (value := value) (isWrong := isWrong) (items := items) (itemMany := itemMany) (bowThen := bowThen) (doubtThen := doubtThen) (deedThen := deedThen) (sayingThen := sayingThen) (widths := widths) (sizes := sizes) (numbers := numbers) (moved := moved) e_15) (cwV 1 hts gX8_lie_X8_finding rfl rfl rfl hd_X8_finding ⟨Nat.le_of_ble_eq_true rfl, Nat.le_of_ble_eq_true rfl⟩) hK hP hD hS hA hE (q0 := 0) (ci := 8) rfl rfl rfl rfl hl.1 rfl (Nat.le_of_ble_eq_true rfl) dX8_lie_88 ⟨Nat.zero_le _, Nat.zero_le _⟩ (fun H locs hP hD hS => ?_)
  obtain rfl := Option.some.inj h
  exact hRet hP hD hS dX8_lie_91
abbrev rm_X8_isKind : Room := { frames := 1, cells := 0, slots := 0, locals := 22 }
theorem hd_X8_isKind : yX8_isKind.cls ≠ "java/lang/invoke/MethodHandle" ∧ yX8_isKind.cls ≠ "java/lang/invoke/VarHandle" ∧ (parseMethodDescriptor yX8_isKind.desc).map (fun d => d.parameters.length) = some 1 := by decide +kernel
set_option maxHeartbeats 4000000 in
set_option maxRecDepth 100000 in
theorem c_X8_isKind {l : Launch} {G : va_G} {ca : Nat → ClassId} {ev : Nat → Nat}  {a0 : Int32} {res : Int32} (h : f_X8_isKind a0 = some res) : CtI l yX8_isKind wsX8_isKind rm_X8_isKind G ca ev [.int a0] [] [] res := by
  unfold f_X8_isKind at h
  refine en_z (by decide) rfl (Nat.le_of_ble_eq_true rfl) ?_
  intro p e s m args below meth c A Q H locs ls hx hb hml hown hts hA hP hK hD hE hS hl hRet
  have hown : s.vm.findClass RX8 = some m.cls := hown
  have hl : lv_has ls 1 [(0, .int a0)] := hl
  refine lv_iload_n hx hb dX8_isKind_0 rfl (lv_at hl 0 rfl) ?_
  refine lv_iconst (v := (0 : Int32)) hx hb dX8_isKind_1 (by decide) ?_
  refine lv_iconst (v := (5 : Int32)) hx hb dX8_isKind_2 (by decide) ?_
  obtain ⟨u_1, e_1, h⟩ := bd_some h
  refine cn_Si (As := [.int a0, .int (0 : Int32), .int (5 : Int32)]) (rest := []) ⟨hx, hb, hml, hown, hts⟩ (c_X8_within e_1) (va_cwS 3 hts gX8_isKind_X8_within rfl rfl rfl hd_X8_within ⟨Nat.le_of_ble_eq_true rfl, Nat.le_of_ble_eq_true rfl⟩) hK hP hD hS hA hE rfl hl.1 rfl (Nat.le_of_ble_eq_true rfl) dX8_isKind_3 ⟨Nat.zero_le _, Nat.zero_le _⟩ (fun H locs hP hD hS => ?_)
  obtain ⟨z_2, h⟩ := gd_some h
  obtain rfl := Option.some.inj h
  exact hRet hP hD hS (isb_or z_2) dX8_isKind_6
abbrev rm_X8_isDeed : Room := { frames := 1, cells := 0, slots := 0, locals := 22 }
theorem hd_X8_isDeed : yX8_isDeed.cls = RX8 ∧ yX8_isDeed.cls ≠ "java/lang/invoke/MethodHandle" ∧ yX8_isDeed.cls ≠ "java/lang/invoke/VarHandle" ∧ (parseMethodDescriptor yX8_isDeed.desc).map (fun d => d.parameters.length) = some 1 := by decide +kernel
set_option maxHeartbeats 4000000 in
set_option maxRecDepth 100000 in
theorem c_X8_isDeed {l : Launch} {G : va_G} {ca : Nat → ClassId} {ev : Nat → Nat} {h0 h1 h2 h3 h4 h5 h6 h7 h8 h9 h10 h11 h12 h13 h14 h15 h16 h17 : Nat} {now : (Nat → Int32)} {kept : (Nat → Int32)} {isKept : Int32} {found : (Nat → Int32)} {order : (Nat → Int32)} {doubts : (Nat → Int32)} {doubtMany : Int32} {weights : (Nat → Int64)} {worn : (Nat → Int32)} {pairs : Int64} {isTwice : Int32} {doer : (Nat → Int32)} {doneTo : (Nat → Int32)} {doers : (Nat → Int64)} {tape : (Nat → Int32)} {taped : Int32} {begins : Int32} {ends : Int32} {sort : Int32} {value : Int32} {isWrong : Int32} {items : (Nat → Int32)} {itemMany : Int32} {bowThen : Int32} {doubtThen : Int32} {deedThen : Int32} {sayingThen : Int32} {widths : (Nat → Int32)} {sizes : (Nat → Int32)} {numbers : (Nat → Int64)} {moved : (Nat → Int64)} {a1 : Int32} {res : Int32} (h : f_X8_isDeed now a1 = some res) : CtI l yX8_isDeed wsX8_isDeed rm_X8_isDeed G ca ev [.ref h0, .int a1] (wM ca ev h0 h1 h2 h3 h4 h5 h6 h7 h8 h9 h10 h11 h12 h13 h14 h15 h16 h17 now kept isKept found order doubts doubtMany weights worn pairs isTwice doer doneTo doers tape taped begins ends sort value isWrong items itemMany bowThen doubtThen deedThen sayingThen widths sizes numbers moved) (wM ca ev h0 h1 h2 h3 h4 h5 h6 h7 h8 h9 h10 h11 h12 h13 h14 h15 h16 h17 now kept isKept found order doubts doubtMany weights worn pairs isTwice doer doneTo doers tape taped begins ends sort value isWrong items itemMany bowThen doubtThen deedThen sayingThen widths sizes numbers moved) res := by
  unfold f_X8_isDeed at h
  refine en_z (by decide) rfl (Nat.le_of_ble_eq_true rfl) ?_
  intro p e s m args below meth c A Q H locs ls hx hb hml hown hts hA hP hK hD hE hS hl hRet
  have hown : s.vm.findClass RX8 = some m.cls := hown
  have hl : lv_has ls 2 [(0, .ref h0), (1, .int a1)] := hl
  have hin_X8 : ∀ w ∈ u_ws RX8 TX8 32, w ∈ wsX8_isDeed := fun w h9 => List.mem_cons_of_mem _ (List.mem_append_right _ h9)
  have fk_9 := hts (.fieldLink RX8 9 "MaskBowsModel" "now" "[I") (by decide +kernel)
  refine lv_iload_n hx hb dX8_isDeed_0 rfl (lv_at hl 1 rfl) ?_
  refine lv_iconst (v := (0 : Int32)) hx hb dX8_isDeed_1 (by decide) ?_
  refine lv_aload_n hx hb dX8_isDeed_2 rfl (lv_at hl 0 rfl) ?_
  refine va_get (D := G) (ci := 8) (v := .ref h1) (C := RX8) (T := TX8) (N := 32) hx hb hts hin_X8 hown hK hP 0 rfl rfl 0 (by decide) fk_9 (fun _ h9 => h9) rfl dX8_isDeed_3 ?_
  refine lv_iconst (v := (4 : Int32)) hx hb dX8_isDeed_6 (by decide) ?_
  refine va_iald hx hb hK hP 1 0 rfl rfl (ix_in (by decide)) dX8_isDeed_7 ?_
  refine lv_iconst (v := (1 : Int32)) hx hb dX8_isDeed_8 (by decide) ?_
  refine lv_isub hx hb dX8_isDeed_9 ?_
  obtain ⟨u_1, e_1, h⟩ := bd_some h
  refine cn_Si (As := [.int a1, .int (0 : Int32), .int ((now (4 : Int32).toNatClampNeg) - (1 : Int32))]) (rest := []) ⟨hx, hb, hml, hown, hts⟩ (c_X8_within e_1) (va_cwS 3 hts gX8_isDeed_X8_within rfl rfl rfl hd_X8_within ⟨Nat.le_of_ble_eq_true rfl, Nat.le_of_ble_eq_true rfl⟩) hK hP hD hS hA hE rfl hl.1 rfl (Nat.le_of_ble_eq_true rfl) dX8_isDeed_10 ⟨Nat.zero_le _, Nat.zero_le _⟩ (fun H locs hP hD hS => ?_)
  obtain ⟨z_2, h⟩ := gd_some h
  obtain rfl := Option.some.inj h
  exact hRet hP hD hS (isb_or z_2) dX8_isDeed_13
abbrev rm_X8_deedIs : Room := { frames := 0, cells := 0, slots := 0, locals := 0 }
theorem hd_X8_deedIs : yX8_deedIs.cls = RX8 ∧ yX8_deedIs.cls ≠ "java/lang/invoke/MethodHandle" ∧ yX8_deedIs.cls ≠ "java/lang/invoke/VarHandle" ∧ (parseMethodDescriptor yX8_deedIs.desc).map (fun d => d.parameters.length) = some 2 := by decide +kernel
set_option maxHeartbeats 4000000 in
set_option maxRecDepth 100000 in
theorem c_X8_deedIs {l : Launch} {G : va_G} {ca : Nat → ClassId} {ev : Nat → Nat} {h0 h1 h2 h3 h4 h5 h6 h7 h8 h9 h10 h11 h12 h13 h14 h15 h16 h17 : Nat} {now : (Nat → Int32)} {kept : (Nat → Int32)} {isKept : Int32} {found : (Nat → Int32)} {order : (Nat → Int32)} {doubts : (Nat → Int32)} {doubtMany : Int32} {weights : (Nat → Int64)} {worn : (Nat → Int32)} {pairs : Int64} {isTwice : Int32} {doer : (Nat → Int32)} {doneTo : (Nat → Int32)} {doers : (Nat → Int64)} {tape : (Nat → Int32)} {taped : Int32} {begins : Int32} {ends : Int32} {sort : Int32} {value : Int32} {isWrong : Int32} {items : (Nat → Int32)} {itemMany : Int32} {bowThen : Int32} {doubtThen : Int32} {deedThen : Int32} {sayingThen : Int32} {widths : (Nat → Int32)} {sizes : (Nat → Int32)} {numbers : (Nat → Int64)} {moved : (Nat → Int64)} {a1 : Int32} {a2 : Int32} {res : Int32} (h : f_X8_deedIs now a1 a2 = some res) : CtI l yX8_deedIs wsX8_deedIs rm_X8_deedIs G ca ev [.ref h0, .int a1, .int a2] (wM ca ev h0 h1 h2 h3 h4 h5 h6 h7 h8 h9 h10 h11 h12 h13 h14 h15 h16 h17 now kept isKept found order doubts doubtMany weights worn pairs isTwice doer doneTo doers tape taped begins ends sort value isWrong items itemMany bowThen doubtThen deedThen sayingThen widths sizes numbers moved) (wM ca ev h0 h1 h2 h3 h4 h5 h6 h7 h8 h9 h10 h11 h12 h13 h14 h15 h16 h17 now kept isKept found order doubts doubtMany weights worn pairs isTwice doer doneTo doers tape taped begins ends sort value isWrong items itemMany bowThen doubtThen deedThen sayingThen widths sizes numbers moved) res := by
  unfold f_X8_deedIs at h
  refine en_i (by decide) rfl (Nat.le_of_ble_eq_true rfl) ?_
  intro p e s m args below meth c A Q H locs ls hx hb hml hown hts hA hP hK hD hE hS hl hRet
  have hown : s.vm.findClass RX8 = some m.cls := hown
  have hl : lv_has ls 3 [(0, .ref h0), (1, .int a1), (2, .int a2)] := hl
  have hin_X8 : ∀ w ∈ u_ws RX8 TX8 32, w ∈ wsX8_deedIs := fun w h9 => List.mem_cons_of_mem _ (List.mem_append_right _ h9)
  have fk_9 := hts (.fieldLink RX8 9 "MaskBowsModel" "now" "[I") (by decide +kernel)
  refine lv_aload_n hx hb dX8_deedIs_0 rfl (lv_at hl 0 rfl) ?_
  refine va_get (D := G) (ci := 8) (v := .ref h1) (C := RX8) (T := TX8) (N := 32) hx hb hts hin_X8 hown hK hP 0 rfl rfl 0 (by decide) fk_9 (fun _ h9 => h9) rfl dX8_deedIs_1 ?_
  refine lv_bipush (v := (86 : Int32)) hx hb dX8_deedIs_4 (by decide) ?_
  refine lv_iconst (v := (5 : Int32)) hx hb dX8_deedIs_6 (by decide) ?_
  refine lv_iload_n hx hb dX8_deedIs_7 rfl (lv_at hl 1 rfl) ?_
  refine lv_imul hx hb dX8_deedIs_8 ?_
  refine lv_iadd hx hb dX8_deedIs_9 ?_
  refine lv_iload_n hx hb dX8_deedIs_10 rfl (lv_at hl 2 rfl) ?_
  refine lv_iadd hx hb dX8_deedIs_11 ?_
  obtain ⟨i_1, h⟩ := gd_some h
  refine va_iald hx hb hK hP 1 0 rfl rfl (ix_in i_1) dX8_deedIs_12 ?_
  obtain rfl := Option.some.inj h
  exact hRet hP hD hS dX8_deedIs_13
abbrev rm_X8_done : Room := { frames := 0, cells := 0, slots := 0, locals := 0 }
theorem hd_X8_done : yX8_done.cls = RX8 ∧ yX8_done.cls ≠ "java/lang/invoke/MethodHandle" ∧ yX8_done.cls ≠ "java/lang/invoke/VarHandle" ∧ (parseMethodDescriptor yX8_done.desc).map (fun d => d.parameters.length) = some 5 := by decide +kernel
set_option maxHeartbeats 4000000 in
set_option maxRecDepth 100000 in
theorem c_X8_done {l : Launch} {G : va_G} {ca : Nat → ClassId} {ev : Nat → Nat} {h0 h1 h2 h3 h4 h5 h6 h7 h8 h9 h10 h11 h12 h13 h14 h15 h16 h17 : Nat} {now : (Nat → Int32)} {kept : (Nat → Int32)} {isKept : Int32} {found : (Nat → Int32)} {order : (Nat → Int32)} {doubts : (Nat → Int32)} {doubtMany : Int32} {weights : (Nat → Int64)} {worn : (Nat → Int32)} {pairs : Int64} {isTwice : Int32} {doer : (Nat → Int32)} {doneTo : (Nat → Int32)} {doers : (Nat → Int64)} {tape : (Nat → Int32)} {taped : Int32} {begins : Int32} {ends : Int32} {sort : Int32} {value : Int32} {isWrong : Int32} {items : (Nat → Int32)} {itemMany : Int32} {bowThen : Int32} {doubtThen : Int32} {deedThen : Int32} {sayingThen : Int32} {widths : (Nat → Int32)} {sizes : (Nat → Int32)} {numbers : (Nat → Int64)} {moved : (Nat → Int64)} {a1 : Int32} {a2 : Int32} {a3 : Int32} {a4 : Int32} {a5 : Int32} {res : Int32 × (Nat → Int32)} (h : f_X8_done now a1 a2 a3 a4 a5 = some res) : CtI l yX8_done wsX8_done rm_X8_done G ca ev [.ref h0, .int a1, .int a2, .int a3, .int a4, .int a5] (wM ca ev h0 h1 h2 h3 h4 h5 h6 h7 h8 h9 h10 h11 h12 h13 h14 h15 h16 h17 now kept isKept found order doubts doubtMany weights worn pairs isTwice doer doneTo doers tape taped begins ends sort value isWrong items itemMany bowThen doubtThen deedThen sayingThen widths sizes numbers moved) (wM ca ev h0 h1 h2 h3 h4 h5 h6 h7 h8 h9 h10 h11 h12 h13 h14 h15 h16 h17 res.2 kept isKept found order doubts doubtMany weights worn pairs isTwice doer doneTo doers tape taped begins ends sort value isWrong items itemMany bowThen doubtThen deedThen sayingThen widths sizes numbers moved) res.1 := by
  unfold f_X8_done at h
  refine en_i (by decide) rfl (Nat.le_of_ble_eq_true rfl) ?_
  intro p e s m args below meth c A Q H locs ls hx hb hml hown hts hA hP hK hD hE hS hl hRet
  have hown : s.vm.findClass RX8 = some m.cls := hown
  have hl : lv_has ls 8 [(0, .ref h0), (1, .int a1), (2, .int a2), (3, .int a3), (4, .int a4), (5, .int a5)] := hl
  have hin_X8 : ∀ w ∈ u_ws RX8 TX8 32, w ∈ wsX8_done := fun w h9 => List.mem_cons_of_mem _ (List.mem_append_right _ h9)
  have fk_9 := hts (.fieldLink RX8 9 "MaskBowsModel" "now" "[I") (by decide +kernel)
  refine lv_aload_n hx hb dX8_done_0 rfl (lv_at hl 0 rfl) ?_
  refine va_get (D := G) (ci := 8) (v := .ref h1) (C := RX8) (T := TX8) (N := 32) hx hb hts hin_X8 hown hK hP 0 rfl rfl 0 (by decide) fk_9 (fun _ h9 => h9) rfl dX8_done_1 ?_
  refine lv_iconst (v := (4 : Int32)) hx hb dX8_done_4 (by decide) ?_
  refine va_iald hx hb hK hP 1 0 rfl rfl (ix_in (by decide)) dX8_done_5 ?_
  refine lv_istore (lv' := [(6, .int (now (4 : Int32).toNatClampNeg)), (0, .ref h0), (1, .int a1), (2, .int a2), (3, .int a3), (4, .int a4), (5, .int a5)]) hx hb dX8_done_6 hl (by decide) rfl (fun ls hl => ?_)
  refine lv_bipush (v := (86 : Int32)) hx hb dX8_done_8 (by decide) ?_
  refine lv_iconst (v := (5 : Int32)) hx hb dX8_done_10 (by decide) ?_
  refine lv_iload hx hb dX8_done_11 (lv_at hl 0 rfl) ?_
  refine lv_imul hx hb dX8_done_13 ?_
  refine lv_iadd hx hb dX8_done_14 ?_
  refine lv_istore (lv' := [(7, .int ((86 : Int32) + ((5 : Int32) * (now (4 : Int32).toNatClampNeg)))), (6, .int (now (4 : Int32).toNatClampNeg)), (0, .ref h0), (1, .int a1), (2, .int a2), (3, .int a3), (4, .int a4), (5, .int a5)]) hx hb dX8_done_15 hl (by decide) rfl (fun ls hl => ?_)
  refine lv_aload_n hx hb dX8_done_17 rfl (lv_at hl 2 rfl) ?_
  refine va_get (D := G) (ci := 8) (v := .ref h1) (C := RX8) (T := TX8) (N := 32) hx hb hts hin_X8 hown hK hP 0 rfl rfl 0 (by decide) fk_9 (fun _ h9 => h9) rfl dX8_done_18 ?_
  refine lv_iload hx hb dX8_done_21 (lv_at hl 0 rfl) ?_
  refine lv_iconst (v := (0 : Int32)) hx hb dX8_done_23 (by decide) ?_
  refine lv_iadd hx hb dX8_done_24 ?_
  refine lv_iload_n hx hb dX8_done_25 rfl (lv_at hl 3 rfl) ?_
  obtain ⟨i_1, h⟩ := gd_some h
  refine va_iast hx hb hK hP hD hS 1 0 rfl rfl (ix_in i_1) dX8_done_26 (fun H locs hP hD hS => ?_)
  have hP : va_P G vwCl (wM ca ev h0 h1 h2 h3 h4 h5 h6 h7 h8 h9 h10 h11 h12 h13 h14 h15 h16 h17 (upd now (((86 : Int32) + ((5 : Int32) * (now (4 : Int32).toNatClampNeg))) + (0 : Int32)).toNatClampNeg a1) kept isKept found order doubts doubtMany weights worn pairs isTwice doer doneTo doers tape taped begins ends sort value isWrong items itemMany bowThen doubtThen deedThen sayingThen widths sizes numbers moved) H := hP
  have hD : va_D A (wM ca ev h0 h1 h2 h3 h4 h5 h6 h7 h8 h9 h10 h11 h12 h13 h14 h15 h16 h17 (upd now (((86 : Int32) + ((5 : Int32) * (now (4 : Int32).toNatClampNeg))) + (0 : Int32)).toNatClampNeg a1) kept isKept found order doubts doubtMany weights worn pairs isTwice doer doneTo doers tape taped begins ends sort value isWrong items itemMany bowThen doubtThen deedThen sayingThen widths sizes numbers moved) := hD
  refine lv_aload_n hx hb dX8_done_27 rfl (lv_at hl 2 rfl) ?_
  refine va_get (D := G) (ci := 8) (v := .ref h1) (C := RX8) (T := TX8) (N := 32) hx hb hts hin_X8 hown hK hP 0 rfl rfl 0 (by decide) fk_9 (fun _ h9 => h9) rfl dX8_done_28 ?_
  refine lv_iload hx hb dX8_done_31 (lv_at hl 0 rfl) ?_
  refine lv_iconst (v := (1 : Int32)) hx hb dX8_done_33 (by decide) ?_
  refine lv_iadd hx hb dX8_done_34 ?_
  refine lv_iload_n hx hb dX8_done_35 rfl (lv_at hl 4 rfl) ?_
  obtain ⟨i_2, h⟩ := gd_some h
  refine va_iast hx hb hK hP hD hS 1 0 rfl rfl (ix_in i_2) dX8_done_36 (fun H locs hP hD hS => ?_)
  have hP : va_P G vwCl (wM ca ev h0 h1 h2 h3 h4 h5 h6 h7 h8 h9 h10 h11 h12 h13 h14 h15 h16 h17 (upd (upd now (((86 : Int32) + ((5 : Int32) * (now (4 : Int32).toNatClampNeg))) + (0 : Int32)).toNatClampNeg a1) (((86 : Int32) + ((5 : Int32) * (now (4 : Int32).toNatClampNeg))) + (1 : Int32)).toNatClampNeg a2) kept isKept found order doubts doubtMany weights worn pairs isTwice doer doneTo doers tape taped begins ends sort value isWrong items itemMany bowThen doubtThen deedThen sayingThen widths sizes numbers moved) H := hP
  have hD : va_D A (wM ca ev h0 h1 h2 h3 h4 h5 h6 h7 h8 h9 h10 h11 h12 h13 h14 h15 h16 h17 (upd (upd now (((86 : Int32) + ((5 : Int32) * (now (4 : Int32).toNatClampNeg))) + (0 : Int32)).toNatClampNeg a1) (((86 : Int32) + ((5 : Int32) * (now (4 : Int32).toNatClampNeg))) + (1 : Int32)).toNatClampNeg a2) kept isKept found order doubts doubtMany weights worn pairs isTwice doer doneTo doers tape taped begins ends sort value isWrong items itemMany bowThen doubtThen deedThen sayingThen widths sizes numbers moved) := hD
  refine lv_aload_n hx hb dX8_done_37 rfl (lv_at hl 2 rfl) ?_
  refine va_get (D := G) (ci := 8) (v := .ref h1) (C := RX8) (T := TX8) (N := 32) hx hb hts hin_X8 hown hK hP 0 rfl rfl 0 (by decide) fk_9 (fun _ h9 => h9) rfl dX8_done_38 ?_
  refine lv_iload hx hb dX8_done_41 (lv_at hl 0 rfl) ?_
  refine lv_iconst (v := (2 : Int32)) hx hb dX8_done_43 (by decide) ?_
  refine lv_iadd hx hb dX8_done_44 ?_
  refine lv_iload_n hx hb dX8_done_45 rfl (lv_at hl 5 rfl) ?_
  obtain ⟨i_3, h⟩ := gd_some h
  refine va_iast hx hb hK hP hD hS 1 0 rfl rfl (ix_in i_3) dX8_done_46 (fun H locs hP hD hS => ?_)
  have hP : va_P G vwCl (wM ca ev h0 h1 h2 h3 h4 h5 h6 h7 h8 h9 h10 h11 h12 h13 h14 h15 h16 h17 (upd (upd (upd now (((86 : Int32) + ((5 : Int32) * (now (4 : Int32).toNatClampNeg))) + (0 : Int32)).toNatClampNeg a1) (((86 : Int32) + ((5 : Int32) * (now (4 : Int32).toNatClampNeg))) + (1 : Int32)).toNatClampNeg a2) (((86 : Int32) + ((5 : Int32) * (now (4 : Int32).toNatClampNeg))) + (2 : Int32)).toNatClampNeg a3) kept isKept found order doubts doubtMany weights worn pairs isTwice doer doneTo doers tape taped begins ends sort value isWrong items itemMany bowThen doubtThen deedThen sayingThen widths sizes numbers moved) H := hP
  have hD : va_D A (wM ca ev h0 h1 h2 h3 h4 h5 h6 h7 h8 h9 h10 h11 h12 h13 h14 h15 h16 h17 (upd (upd (upd now (((86 : Int32) + ((5 : Int32) * (now (4 : Int32).toNatClampNeg))) + (0 : Int32)).toNatClampNeg a1) (((86 : Int32) + ((5 : Int32) * (now (4 : Int32).toNatClampNeg))) + (1 : Int32)).toNatClampNeg a2) (((86 : Int32) + ((5 : Int32) * (now (4 : Int32).toNatClampNeg))) + (2 : Int32)).toNatClampNeg a3) kept isKept found order doubts doubtMany weights worn pairs isTwice doer doneTo doers tape taped begins ends sort value isWrong items itemMany bowThen doubtThen deedThen sayingThen widths sizes numbers moved) := hD
  refine lv_aload_n hx hb dX8_done_47 rfl (lv_at hl 2 rfl) ?_
  refine va_get (D := G) (ci := 8) (v := .ref h1) (C := RX8) (T := TX8) (N := 32) hx hb hts hin_X8 hown hK hP 0 rfl rfl 0 (by decide) fk_9 (fun _ h9 => h9) rfl dX8_done_48 ?_
  refine lv_iload hx hb dX8_done_51 (lv_at hl 0 rfl) ?_
  refine lv_iconst (v := (3 : Int32)) hx hb dX8_done_53 (by decide) ?_
  refine lv_iadd hx hb dX8_done_54 ?_
  refine lv_iload hx hb dX8_done_55 (lv_at hl 6 rfl) ?_
  obtain ⟨i_4, h⟩ := gd_some h
  refine va_iast hx hb hK hP hD hS 1 0 rfl rfl (ix_in i_4) dX8_done_57 (fun H locs hP hD hS => ?_)
  have hP : va_P G vwCl (wM ca ev h0 h1 h2 h3 h4 h5 h6 h7 h8 h9 h10 h11 h12 h13 h14 h15 h16 h17 (upd (upd (upd (upd now (((86 : Int32) + ((5 : Int32) * (now (4 : Int32).toNatClampNeg))) + (0 : Int32)).toNatClampNeg a1) (((86 : Int32) + ((5 : Int32) * (now (4 : Int32).toNatClampNeg))) + (1 : Int32)).toNatClampNeg a2) (((86 : Int32) + ((5 : Int32) * (now (4 : Int32).toNatClampNeg))) + (2 : Int32)).toNatClampNeg a3) (((86 : Int32) + ((5 : Int32) * (now (4 : Int32).toNatClampNeg))) + (3 : Int32)).toNatClampNeg a4) kept isKept found order doubts doubtMany weights worn pairs isTwice doer doneTo doers tape taped begins ends sort value isWrong items itemMany bowThen doubtThen deedThen sayingThen widths sizes numbers moved) H := hP
  have hD : va_D A (wM ca ev h0 h1 h2 h3 h4 h5 h6 h7 h8 h9 h10 h11 h12 h13 h14 h15 h16 h17 (upd (upd (upd (upd now (((86 : Int32) + ((5 : Int32) * (now (4 : Int32).toNatClampNeg))) + (0 : Int32)).toNatClampNeg a1) (((86 : Int32) + ((5 : Int32) * (now (4 : Int32).toNatClampNeg))) + (1 : Int32)).toNatClampNeg a2) (((86 : Int32) + ((5 : Int32) * (now (4 : Int32).toNatClampNeg))) + (2 : Int32)).toNatClampNeg a3) (((86 : Int32) + ((5 : Int32) * (now (4 : Int32).toNatClampNeg))) + (3 : Int32)).toNatClampNeg a4) kept isKept found order doubts doubtMany weights worn pairs isTwice doer doneTo doers tape taped begins ends sort value isWrong items itemMany bowThen doubtThen deedThen sayingThen widths sizes numbers moved) := hD
  refine lv_aload_n hx hb dX8_done_58 rfl (lv_at hl 2 rfl) ?_
  refine va_get (D := G) (ci := 8) (v := .ref h1) (C := RX8) (T := TX8) (N := 32) hx hb hts hin_X8 hown hK hP 0 rfl rfl 0 (by decide) fk_9 (fun _ h9 => h9) rfl dX8_done_59 ?_
  refine lv_iload hx hb dX8_done_62 (lv_at hl 0 rfl) ?_
  refine lv_iconst (v := (4 : Int32)) hx hb dX8_done_64 (by decide) ?_
  refine lv_iadd hx hb dX8_done_65 ?_
  refine lv_iload hx hb dX8_done_66 (lv_at hl 7 rfl) ?_
  obtain ⟨i_5, h⟩ := gd_some h
  refine va_iast hx hb hK hP hD hS 1 0 rfl rfl (ix_in i_5) dX8_done_68 (fun H locs hP hD hS => ?_)
  have hP : va_P G vwCl (wM ca ev h0 h1 h2 h3 h4 h5 h6 h7 h8 h9 h10 h11 h12 h13 h14 h15 h16 h17 (upd (upd (upd (upd (upd now (((86 : Int32) + ((5 : Int32) * (now (4 : Int32).toNatClampNeg))) + (0 : Int32)).toNatClampNeg a1) (((86 : Int32) + ((5 : Int32) * (now (4 : Int32).toNatClampNeg))) + (1 : Int32)).toNatClampNeg a2) (((86 : Int32) + ((5 : Int32) * (now (4 : Int32).toNatClampNeg))) + (2 : Int32)).toNatClampNeg a3) (((86 : Int32) + ((5 : Int32) * (now (4 : Int32).toNatClampNeg))) + (3 : Int32)).toNatClampNeg a4) (((86 : Int32) + ((5 : Int32) * (now (4 : Int32).toNatClampNeg))) + (4 : Int32)).toNatClampNeg a5) kept isKept found order doubts doubtMany weights worn pairs isTwice doer doneTo doers tape taped begins ends sort value isWrong items itemMany bowThen doubtThen deedThen sayingThen widths sizes numbers moved) H := hP
  have hD : va_D A (wM ca ev h0 h1 h2 h3 h4 h5 h6 h7 h8 h9 h10 h11 h12 h13 h14 h15 h16 h17 (upd (upd (upd (upd (upd now (((86 : Int32) + ((5 : Int32) * (now (4 : Int32).toNatClampNeg))) + (0 : Int32)).toNatClampNeg a1) (((86 : Int32) + ((5 : Int32) * (now (4 : Int32).toNatClampNeg))) + (1 : Int32)).toNatClampNeg a2) (((86 : Int32) + ((5 : Int32) * (now (4 : Int32).toNatClampNeg))) + (2 : Int32)).toNatClampNeg a3) (((86 : Int32) + ((5 : Int32) * (now (4 : Int32).toNatClampNeg))) + (3 : Int32)).toNatClampNeg a4) (((86 : Int32) + ((5 : Int32) * (now (4 : Int32).toNatClampNeg))) + (4 : Int32)).toNatClampNeg a5) kept isKept found order doubts doubtMany weights worn pairs isTwice doer doneTo doers tape taped begins ends sort value isWrong items itemMany bowThen doubtThen deedThen sayingThen widths sizes numbers moved) := hD
  refine lv_aload_n hx hb dX8_done_69 rfl (lv_at hl 2 rfl) ?_
  refine va_get (D := G) (ci := 8) (v := .ref h1) (C := RX8) (T := TX8) (N := 32) hx hb hts hin_X8 hown hK hP 0 rfl rfl 0 (by decide) fk_9 (fun _ h9 => h9) rfl dX8_done_70 ?_
  refine lv_iconst (v := (4 : Int32)) hx hb dX8_done_73 (by decide) ?_
  refine lv_dup2_11 hx hb dX8_done_74 rfl rfl ?_
  refine va_iald hx hb hK hP 1 0 rfl rfl (ix_in (by decide)) dX8_done_75 ?_
  refine lv_iconst (v := (1 : Int32)) hx hb dX8_done_76 (by decide) ?_
  refine lv_iadd hx hb dX8_done_77 ?_
  refine va_iast hx hb hK hP hD hS 1 0 rfl rfl (ix_in (by decide)) dX8_done_78 (fun H locs hP hD hS => ?_)
  have hP : va_P G vwCl (wM ca ev h0 h1 h2 h3 h4 h5 h6 h7 h8 h9 h10 h11 h12 h13 h14 h15 h16 h17 (upd (upd (upd (upd (upd (upd now (((86 : Int32) + ((5 : Int32) * (now (4 : Int32).toNatClampNeg))) + (0 : Int32)).toNatClampNeg a1) (((86 : Int32) + ((5 : Int32) * (now (4 : Int32).toNatClampNeg))) + (1 : Int32)).toNatClampNeg a2) (((86 : Int32) + ((5 : Int32) * (now (4 : Int32).toNatClampNeg))) + (2 : Int32)).toNatClampNeg a3) (((86 : Int32) + ((5 : Int32) * (now (4 : Int32).toNatClampNeg))) + (3 : Int32)).toNatClampNeg a4) (((86 : Int32) + ((5 : Int32) * (now (4 : Int32).toNatClampNeg))) + (4 : Int32)).toNatClampNeg a5) (4 : Int32).toNatClampNeg (((upd (upd (upd (upd (upd now (((86 : Int32) + ((5 : Int32) * (now (4 : Int32).toNatClampNeg))) + (0 : Int32)).toNatClampNeg a1) (((86 : Int32) + ((5 : Int32) * (now (4 : Int32).toNatClampNeg))) + (1 : Int32)).toNatClampNeg a2) (((86 : Int32) + ((5 : Int32) * (now (4 : Int32).toNatClampNeg))) + (2 : Int32)).toNatClampNeg a3) (((86 : Int32) + ((5 : Int32) * (now (4 : Int32).toNatClampNeg))) + (3 : Int32)).toNatClampNeg a4) (((86 : Int32) + ((5 : Int32) * (now (4 : Int32).toNatClampNeg))) + (4 : Int32)).toNatClampNeg a5) (4 : Int32).toNatClampNeg) + (1 : Int32))) kept isKept found order doubts doubtMany weights worn pairs isTwice doer doneTo doers tape taped begins ends sort value isWrong items itemMany bowThen doubtThen deedThen sayingThen widths sizes numbers moved) H := hP
  have hD : va_D A (wM ca ev h0 h1 h2 h3 h4 h5 h6 h7 h8 h9 h10 h11 h12 h13 h14 h15 h16 h17 (upd (upd (upd (upd (upd (upd now (((86 : Int32) + ((5 : Int32) * (now (4 : Int32).toNatClampNeg))) + (0 : Int32)).toNatClampNeg a1) (((86 : Int32) + ((5 : Int32) * (now (4 : Int32).toNatClampNeg))) + (1 : Int32)).toNatClampNeg a2) (((86 : Int32) + ((5 : Int32) * (now (4 : Int32).toNatClampNeg))) + (2 : Int32)).toNatClampNeg a3) (((86 : Int32) + ((5 : Int32) * (now (4 : Int32).toNatClampNeg))) + (3 : Int32)).toNatClampNeg a4) (((86 : Int32) + ((5 : Int32) * (now (4 : Int32).toNatClampNeg))) + (4 : Int32)).toNatClampNeg a5) (4 : Int32).toNatClampNeg (((upd (upd (upd (upd (upd now (((86 : Int32) + ((5 : Int32) * (now (4 : Int32).toNatClampNeg))) + (0 : Int32)).toNatClampNeg a1) (((86 : Int32) + ((5 : Int32) * (now (4 : Int32).toNatClampNeg))) + (1 : Int32)).toNatClampNeg a2) (((86 : Int32) + ((5 : Int32) * (now (4 : Int32).toNatClampNeg))) + (2 : Int32)).toNatClampNeg a3) (((86 : Int32) + ((5 : Int32) * (now (4 : Int32).toNatClampNeg))) + (3 : Int32)).toNatClampNeg a4) (((86 : Int32) + ((5 : Int32) * (now (4 : Int32).toNatClampNeg))) + (4 : Int32)).toNatClampNeg a5) (4 : Int32).toNatClampNeg) + (1 : Int32))) kept isKept found order doubts doubtMany weights worn pairs isTwice doer doneTo doers tape taped begins ends sort value isWrong items itemMany bowThen doubtThen deedThen sayingThen widths sizes numbers moved) := hD
  refine lv_iload hx hb dX8_done_79 (lv_at hl 1 rfl) ?_
  obtain rfl := Option.some.inj h
  exact hRet hP hD hS dX8_done_81
abbrev rm_X8_deed : Room := { frames := 3, cells := 0, slots := 0, locals := 65 }
theorem hd_X8_deed : yX8_deed.cls = RX8 ∧ yX8_deed.cls ≠ "java/lang/invoke/MethodHandle" ∧ yX8_deed.cls ≠ "java/lang/invoke/VarHandle" ∧ (parseMethodDescriptor yX8_deed.desc).map (fun d => d.parameters.length) = some 5 := by decide +kernel
set_option maxHeartbeats 4000000 in
set_option maxRecDepth 100000 in
theorem c_X8_deed {l : Launch} {G : va_G} {ca : Nat → ClassId} {ev : Nat → Nat} {h0 h1 h2 h3 h4 h5 h6 h7 h8 h9 h10 h11 h12 h13 h14 h15 h16 h17 : Nat} {now : (Nat → Int32)} {kept : (Nat → Int32)} {isKept : Int32} {found : (Nat → Int32)} {order : (Nat → Int32)} {doubts : (Nat → Int32)} {doubtMany : Int32} {weights : (Nat → Int64)} {worn : (Nat → Int32)} {pairs : Int64} {isTwice : Int32} {doer : (Nat → Int32)} {doneTo : (Nat → Int32)} {doers : (Nat → Int64)} {tape : (Nat → Int32)} {taped : Int32} {begins : Int32} {ends : Int32} {sort : Int32} {value : Int32} {isWrong : Int32} {items : (Nat → Int32)} {itemMany : Int32} {bowThen : Int32} {doubtThen : Int32} {deedThen : Int32} {sayingThen : Int32} {widths : (Nat → Int32)} {sizes : (Nat → Int32)} {numbers : (Nat → Int64)} {moved : (Nat → Int64)} {a1 : Int32} {a2 : Int32} {a3 : Int32} {a4 : Int32} {a5 : Int32} {res : Int32 × (Nat → Int32) × (Nat → Int32)} (h : f_X8_deed now found a1 a2 a3 a4 a5 = some res) : CtI l yX8_deed wsX8_deed rm_X8_deed G ca ev [.ref h0, .int a1, .int a2, .int a3, .int a4, .int a5] (wM ca ev h0 h1 h2 h3 h4 h5 h6 h7 h8 h9 h10 h11 h12 h13 h14 h15 h16 h17 now kept isKept found order doubts doubtMany weights worn pairs isTwice doer doneTo doers tape taped begins ends sort value isWrong items itemMany bowThen doubtThen deedThen sayingThen widths sizes numbers moved) (wM ca ev h0 h1 h2 h3 h4 h5 h6 h7 h8 h9 h10 h11 h12 h13 h14 h15 h16 h17 res.2.1 kept isKept res.2.2 order doubts doubtMany weights worn pairs isTwice doer doneTo doers tape taped begins ends sort value isWrong items itemMany bowThen doubtThen deedThen sayingThen widths sizes numbers moved) res.1 := by
  unfold f_X8_deed at h
  refine en_i (by decide) rfl (Nat.le_of_ble_eq_true rfl) ?_
  intro p e s m args below meth c A Q H locs ls hx hb hml hown hts hA hP hK hD hE hS hl hRet
  have hown : s.vm.findClass RX8 = some m.cls := hown
  have hl : lv_has ls 6 [(0, .ref h0), (1, .int a1), (2, .int a2), (3, .int a3), (4, .int a4), (5, .int a5)] := hl
  have hin_X8 : ∀ w ∈ u_ws RX8 TX8 32, w ∈ wsX8_deed := fun w h9 => List.mem_cons_of_mem _ (List.mem_append_right _ h9)
  have fk_9 := hts (.fieldLink RX8 9 "MaskBowsModel" "now" "[I") (by decide +kernel)
  refine lv_iload_n hx hb dX8_deed_0 rfl (lv_at hl 1 rfl) ?_
  obtain ⟨u_1, e_1, h⟩ := bd_some h
  refine cn_Si (As := [.int a1]) (rest := []) ⟨hx, hb, hml, hown, hts⟩ (c_X8_isKind e_1) (va_cwS 1 hts gX8_deed_X8_isKind rfl rfl rfl hd_X8_isKind ⟨Nat.le_of_ble_eq_true rfl, Nat.le_of_ble_eq_true rfl⟩) hK hP hD hS hA hE rfl hl.1 rfl (Nat.le_of_ble_eq_true rfl) dX8_deed_1 ⟨Nat.zero_le _, Nat.zero_le _⟩ (fun H locs hP hD hS => ?_)
  refine lv_if_eq (tgt := 36) hx hb dX8_deed_4 (by decide) (fun c_2 => ?_) (fun c_2 => ?_)
  · have h := ifp c_2 h
    refine lv_aload_n hx hb dX8_deed_36 rfl (lv_at hl 0 rfl) ?_
    refine lv_ldc (v := (-1000000001 : Int32)) hx hb hown (hts (.constant RX8 77 (-1000000001)) (by decide +kernel)) dX8_deed_37 ?_
    obtain ⟨u_3, e_3, h⟩ := bd_some h
    refine cm_Vi (As := [.int (-1000000001 : Int32)]) (rest := []) ⟨hx, hb, hml, hown, hts⟩ (c_X8_finding (ca := ca) (ev := ev) (h0 := h0) (h1 := h1) (h2 := h2) (h3 := h3) (h4 := h4) (h5 := h5) (h6 := h6) (h7 := h7) (h8 := h8) (h9 := h9) (h10 := h10) (h11 := h11) (h12 := h12) (h13 := h13) (h14 := h14) (h15 := h15) (h16 := h16) (h17 := h17) (now := now) (kept := kept) (isKept := isKept) (found := found) (order := order) (doubts := doubts) (doubtMany := doubtMany) (weights := weights) (worn := worn) (pairs := pairs) (isTwice := isTwice) (doer := doer) (doneTo := doneTo) (doers := doers) (tape := tape) (taped := taped) (begins := begins) (ends := ends) (sort := sort) (value := value) (isWrong := isWrong) (items := items) (itemMany := itemMany) (bowThen := bowThen) (doubtThen := doubtThen) (deedThen := deedThen) (sayingThen := sayingThen) (widths := widths) (sizes := sizes) (numbers := numbers) (moved := moved) e_3) (cwV 1 hts gX8_deed_X8_finding rfl rfl rfl hd_X8_finding ⟨Nat.le_of_ble_eq_true rfl, Nat.le_of_ble_eq_true rfl⟩) hK hP hD hS hA hE (q0 := 0) (ci := 8) rfl rfl rfl rfl hl.1 rfl (Nat.le_of_ble_eq_true rfl) dX8_deed_39 ⟨Nat.zero_le _, Nat.zero_le _⟩ (fun H locs hP hD hS => ?_)
    obtain rfl := Option.some.inj h
    exact hRet hP hD hS dX8_deed_42
  · have h := ifn c_2 h
    refine lv_iload_n hx hb dX8_deed_7 rfl (lv_at hl 2 rfl) ?_
    obtain ⟨u_4, e_4, h⟩ := bd_some h
    refine cn_Si (As := [.int a2]) (rest := []) ⟨hx, hb, hml, hown, hts⟩ (c_X8_isHour e_4) (va_cwS 1 hts gX8_deed_X8_isHour rfl rfl rfl hd_X8_isHour ⟨Nat.le_of_ble_eq_true rfl, Nat.le_of_ble_eq_true rfl⟩) hK hP hD hS hA hE rfl hl.1 rfl (Nat.le_of_ble_eq_true rfl) dX8_deed_8 ⟨Nat.zero_le _, Nat.zero_le _⟩ (fun H locs hP hD hS => ?_)
    refine lv_if_eq (tgt := 36) hx hb dX8_deed_11 (by decide) (fun c_5 => ?_) (fun c_5 => ?_)
    · have h := ifp c_5 h
      refine lv_aload_n hx hb dX8_deed_36 rfl (lv_at hl 0 rfl) ?_
      refine lv_ldc (v := (-1000000001 : Int32)) hx hb hown (hts (.constant RX8 77 (-1000000001)) (by decide +kernel)) dX8_deed_37 ?_
      obtain ⟨u_6, e_6, h⟩ := bd_some h
      refine cm_Vi (As := [.int (-1000000001 : Int32)]) (rest := []) ⟨hx, hb, hml, hown, hts⟩ (c_X8_finding (ca := ca) (ev := ev) (h0 := h0) (h1 := h1) (h2 := h2) (h3 := h3) (h4 := h4) (h5 := h5) (h6 := h6) (h7 := h7) (h8 := h8) (h9 := h9) (h10 := h10) (h11 := h11) (h12 := h12) (h13 := h13) (h14 := h14) (h15 := h15) (h16 := h16) (h17 := h17) (now := now) (kept := kept) (isKept := isKept) (found := found) (order := order) (doubts := doubts) (doubtMany := doubtMany) (weights := weights) (worn := worn) (pairs := pairs) (isTwice := isTwice) (doer := doer) (doneTo := doneTo) (doers := doers) (tape := tape) (taped := taped) (begins := begins) (ends := ends) (sort := sort) (value := value) (isWrong := isWrong) (items := items) (itemMany := itemMany) (bowThen := bowThen) (doubtThen := doubtThen) (deedThen := deedThen) (sayingThen := sayingThen) (widths := widths) (sizes := sizes) (numbers := numbers) (moved := moved) e_6) (cwV 1 hts gX8_deed_X8_finding rfl rfl rfl hd_X8_finding ⟨Nat.le_of_ble_eq_true rfl, Nat.le_of_ble_eq_true rfl⟩) hK hP hD hS hA hE (q0 := 0) (ci := 8) rfl rfl rfl rfl hl.1 rfl (Nat.le_of_ble_eq_true rfl) dX8_deed_39 ⟨Nat.zero_le _, Nat.zero_le _⟩ (fun H locs hP hD hS => ?_)
      obtain rfl := Option.some.inj h
      exact hRet hP hD hS dX8_deed_42
    · have h := ifn c_5 h
      refine lv_aload_n hx hb dX8_deed_14 rfl (lv_at hl 0 rfl) ?_
      refine lv_iload_n hx hb dX8_deed_15 rfl (lv_at hl 3 rfl) ?_
      refine lv_iload hx hb dX8_deed_16 (lv_at hl 4 rfl) ?_
      obtain ⟨u_7, e_7, h⟩ := bd_some h
      refine cm_Vi (As := [.int a3, .int a4]) (rest := []) ⟨hx, hb, hml, hown, hts⟩ (c_X8_areTwo (ca := ca) (ev := ev) (h0 := h0) (h1 := h1) (h2 := h2) (h3 := h3) (h4 := h4) (h5 := h5) (h6 := h6) (h7 := h7) (h8 := h8) (h9 := h9) (h10 := h10) (h11 := h11) (h12 := h12) (h13 := h13) (h14 := h14) (h15 := h15) (h16 := h16) (h17 := h17) (now := now) (kept := kept) (isKept := isKept) (found := found) (order := order) (doubts := doubts) (doubtMany := doubtMany) (weights := weights) (worn := worn) (pairs := pairs) (isTwice := isTwice) (doer := doer) (doneTo := doneTo) (doers := doers) (tape := tape) (taped := taped) (begins := begins) (ends := ends) (sort := sort) (value := value) (isWrong := isWrong) (items := items) (itemMany := itemMany) (bowThen := bowThen) (doubtThen := doubtThen) (deedThen := deedThen) (sayingThen := sayingThen) (widths := widths) (sizes := sizes) (numbers := numbers) (moved := moved) e_7) (cwV 2 hts gX8_deed_X8_areTwo rfl rfl rfl hd_X8_areTwo ⟨Nat.le_of_ble_eq_true rfl, Nat.le_of_ble_eq_true rfl⟩) hK hP hD hS hA hE (q0 := 0) (ci := 8) rfl rfl rfl rfl hl.1 rfl (Nat.le_of_ble_eq_true rfl) dX8_deed_18 ⟨Nat.zero_le _, Nat.zero_le _⟩ (fun H locs hP hD hS => ?_)
      refine lv_if_eq (tgt := 36) hx hb dX8_deed_21 (by decide) (fun c_8 => ?_) (fun c_8 => ?_)
      · have h := ifp c_8 h
        refine lv_aload_n hx hb dX8_deed_36 rfl (lv_at hl 0 rfl) ?_
        refine lv_ldc (v := (-1000000001 : Int32)) hx hb hown (hts (.constant RX8 77 (-1000000001)) (by decide +kernel)) dX8_deed_37 ?_
        obtain ⟨u_9, e_9, h⟩ := bd_some h
        refine cm_Vi (As := [.int (-1000000001 : Int32)]) (rest := []) ⟨hx, hb, hml, hown, hts⟩ (c_X8_finding (ca := ca) (ev := ev) (h0 := h0) (h1 := h1) (h2 := h2) (h3 := h3) (h4 := h4) (h5 := h5) (h6 := h6) (h7 := h7) (h8 := h8) (h9 := h9) (h10 := h10) (h11 := h11) (h12 := h12) (h13 := h13) (h14 := h14) (h15 := h15) (h16 := h16) (h17 := h17) (now := now) (kept := kept) (isKept := isKept) (found := found) (order := order) (doubts := doubts) (doubtMany := doubtMany) (weights := weights) (worn := worn) (pairs := pairs) (isTwice := isTwice) (doer := doer) (doneTo := doneTo) (doers := doers) (tape := tape) (taped := taped) (begins := begins) (ends := ends) (sort := sort) (value := value) (isWrong := isWrong) (items := items) (itemMany := itemMany) (bowThen := bowThen) (doubtThen := doubtThen) (deedThen := deedThen) (sayingThen := sayingThen) (widths := widths) (sizes := sizes) (numbers := numbers) (moved := moved) e_9) (cwV 1 hts gX8_deed_X8_finding rfl rfl rfl hd_X8_finding ⟨Nat.le_of_ble_eq_true rfl, Nat.le_of_ble_eq_true rfl⟩) hK hP hD hS hA hE (q0 := 0) (ci := 8) rfl rfl rfl rfl hl.1 rfl (Nat.le_of_ble_eq_true rfl) dX8_deed_39 ⟨Nat.zero_le _, Nat.zero_le _⟩ (fun H locs hP hD hS => ?_)
        obtain rfl := Option.some.inj h
        exact hRet hP hD hS dX8_deed_42
      · have h := ifn c_8 h
        refine lv_iload hx hb dX8_deed_24 (lv_at hl 5 rfl) ?_
        refine lv_iconst (v := (0 : Int32)) hx hb dX8_deed_26 (by decide) ?_
        refine lv_sipush (v := (999 : Int32)) hx hb dX8_deed_27 (by decide) ?_
        obtain ⟨u_10, e_10, h⟩ := bd_some h
        refine cn_Si (As := [.int a5, .int (0 : Int32), .int (999 : Int32)]) (rest := []) ⟨hx, hb, hml, hown, hts⟩ (c_X8_within e_10) (va_cwS 3 hts gX8_deed_X8_within rfl rfl rfl hd_X8_within ⟨Nat.le_of_ble_eq_true rfl, Nat.le_of_ble_eq_true rfl⟩) hK hP hD hS hA hE rfl hl.1 rfl (Nat.le_of_ble_eq_true rfl) dX8_deed_30 ⟨Nat.zero_le _, Nat.zero_le _⟩ (fun H locs hP hD hS => ?_)
        refine lv_if_ne (tgt := 43) hx hb dX8_deed_33 (by decide) (fun c_11 => ?_) (fun c_11 => ?_)
        · have h := ifn c_11 h
          refine lv_aload_n hx hb dX8_deed_43 rfl (lv_at hl 0 rfl) ?_
          refine va_get (D := G) (ci := 8) (v := .ref h1) (C := RX8) (T := TX8) (N := 32) hx hb hts hin_X8 hown hK hP 0 rfl rfl 0 (by decide) fk_9 (fun _ h9 => h9) rfl dX8_deed_44 ?_
          refine lv_iconst (v := (4 : Int32)) hx hb dX8_deed_47 (by decide) ?_
          refine va_iald hx hb hK hP 1 0 rfl rfl (ix_in (by decide)) dX8_deed_48 ?_
          refine lv_bipush (v := (12 : Int32)) hx hb dX8_deed_49 (by decide) ?_
          refine lv_icmp_ne (tgt := 63) hx hb dX8_deed_51 (by decide) (fun c_12 => ?_) (fun c_12 => ?_)
          · have h := ifn c_12 h
            refine lv_aload_n hx hb dX8_deed_63 rfl (lv_at hl 0 rfl) ?_
            refine lv_iload_n hx hb dX8_deed_64 rfl (lv_at hl 1 rfl) ?_
            refine lv_iload_n hx hb dX8_deed_65 rfl (lv_at hl 2 rfl) ?_
            refine lv_iload_n hx hb dX8_deed_66 rfl (lv_at hl 3 rfl) ?_
            refine lv_iload hx hb dX8_deed_67 (lv_at hl 4 rfl) ?_
            refine lv_iload hx hb dX8_deed_69 (lv_at hl 5 rfl) ?_
            obtain ⟨u_13, e_13, h⟩ := bd_some h
            refine cm_Vi (As := [.int a1, .int a2, .int a3, .int a4, .int a5]) (rest := []) ⟨hx, hb, hml, hown, hts⟩ (c_X8_done (ca := ca) (ev := ev) (h0 := h0) (h1 := h1) (h2 := h2) (h3 := h3) (h4 := h4) (h5 := h5) (h6 := h6) (h7 := h7) (h8 := h8) (h9 := h9) (h10 := h10) (h11 := h11) (h12 := h12) (h13 := h13) (h14 := h14) (h15 := h15) (h16 := h16) (h17 := h17) (now := now) (kept := kept) (isKept := isKept) (found := found) (order := order) (doubts := doubts) (doubtMany := doubtMany) (weights := weights) (worn := worn) (pairs := pairs) (isTwice := isTwice) (doer := doer) (doneTo := doneTo) (doers := doers) (tape := tape) (taped := taped) (begins := begins) (ends := ends) (sort := sort) (value := value) (isWrong := isWrong) (items := items) (itemMany := itemMany) (bowThen := bowThen) (doubtThen := doubtThen) (deedThen := deedThen) (sayingThen := sayingThen) (widths := widths) (sizes := sizes) (numbers := numbers) (moved := moved) e_13) (cwV 5 hts gX8_deed_X8_done rfl rfl rfl hd_X8_done ⟨Nat.le_of_ble_eq_true rfl, Nat.le_of_ble_eq_true rfl⟩) hK hP hD hS hA hE (q0 := 0) (ci := 8) rfl rfl rfl rfl hl.1 rfl (Nat.le_of_ble_eq_true rfl) dX8_deed_71 ⟨Nat.zero_le _, Nat.zero_le _⟩ (fun H locs hP hD hS => ?_)
            obtain rfl := Option.some.inj h
            exact hRet hP hD hS dX8_deed_74
          · have h := ifp c_12 h
            refine lv_aload_n hx hb dX8_deed_54 rfl (lv_at hl 0 rfl) ?_
            refine lv_ldc (v := (-1000000002 : Int32)) hx hb hown (hts (.constant RX8 109 (-1000000002)) (by decide +kernel)) dX8_deed_55 ?_
            obtain ⟨u_14, e_14, h⟩ := bd_some h
            refine cm_Vi (As := [.int (-1000000002 : Int32)]) (rest := []) ⟨hx, hb, hml, hown, hts⟩ (c_X8_finding (ca := ca) (ev := ev) (h0 := h0) (h1 := h1) (h2 := h2) (h3 := h3) (h4 := h4) (h5 := h5) (h6 := h6) (h7 := h7) (h8 := h8) (h9 := h9) (h10 := h10) (h11 := h11) (h12 := h12) (h13 := h13) (h14 := h14) (h15 := h15) (h16 := h16) (h17 := h17) (now := now) (kept := kept) (isKept := isKept) (found := found) (order := order) (doubts := doubts) (doubtMany := doubtMany) (weights := weights) (worn := worn) (pairs := pairs) (isTwice := isTwice) (doer := doer) (doneTo := doneTo) (doers := doers) (tape := tape) (taped := taped) (begins := begins) (ends := ends) (sort := sort) (value := value) (isWrong := isWrong) (items := items) (itemMany := itemMany) (bowThen := bowThen) (doubtThen := doubtThen) (deedThen := deedThen) (sayingThen := sayingThen) (widths := widths) (sizes := sizes) (numbers := numbers) (moved := moved) e_14) (cwV 1 hts gX8_deed_X8_finding rfl rfl rfl hd_X8_finding ⟨Nat.le_of_ble_eq_true rfl, Nat.le_of_ble_eq_true rfl⟩) hK hP hD hS hA hE (q0 := 0) (ci := 8) rfl rfl rfl rfl hl.1 rfl (Nat.le_of_ble_eq_true rfl) dX8_deed_57 ⟨Nat.zero_le _, Nat.zero_le _⟩ (fun H locs hP hD hS => ?_)
            refine lv_goto (tgt := 74) hx hb dX8_deed_60 (by decide) ?_
            obtain rfl := Option.some.inj h
            exact hRet hP hD hS dX8_deed_74
        · have h := ifp c_11 h
          refine lv_aload_n hx hb dX8_deed_36 rfl (lv_at hl 0 rfl) ?_
          refine lv_ldc (v := (-1000000001 : Int32)) hx hb hown (hts (.constant RX8 77 (-1000000001)) (by decide +kernel)) dX8_deed_37 ?_
          obtain ⟨u_15, e_15, h⟩ := bd_some h
          refine cm_Vi (As := [.int (-1000000001 : Int32)]) (rest := []) ⟨hx, hb, hml, hown, hts⟩ (c_X8_finding (ca := ca) (ev := ev) (h0 := h0) (h1 := h1) (h2 := h2) (h3 := h3) (h4 := h4) (h5 := h5) (h6 := h6) (h7 := h7) (h8 := h8) (h9 := h9) (h10 := h10) (h11 := h11) (h12 := h12) (h13 := h13) (h14 := h14) (h15 := h15) (h16 := h16) (h17 := h17) (now := now) (kept := kept) (isKept := isKept) (found := found) (order := order) (doubts := doubts) (doubtMany := doubtMany) (weights := weights) (worn := worn) (pairs := pairs) (isTwice := isTwice) (doer := doer) (doneTo := doneTo) (doers := doers) (tape := tape) (taped := taped) (begins := begins) (ends := ends) (sort := sort) (value := value) (isWrong := isWrong) (items := items) (itemMany := itemMany) (bowThen := bowThen) (doubtThen := doubtThen) (deedThen := deedThen) (sayingThen := sayingThen) (widths := widths) (sizes := sizes) (numbers := numbers) (moved := moved) e_15) (cwV 1 hts gX8_deed_X8_finding rfl rfl rfl hd_X8_finding ⟨Nat.le_of_ble_eq_true rfl, Nat.le_of_ble_eq_true rfl⟩) hK hP hD hS hA hE (q0 := 0) (ci := 8) rfl rfl rfl rfl hl.1 rfl (Nat.le_of_ble_eq_true rfl) dX8_deed_39 ⟨Nat.zero_le _, Nat.zero_le _⟩ (fun H locs hP hD hS => ?_)
          obtain rfl := Option.some.inj h
          exact hRet hP hD hS dX8_deed_42
abbrev rm_X8_pays : Room := { frames := 1, cells := 0, slots := 0, locals := 22 }
theorem hd_X8_pays : yX8_pays.cls = RX8 ∧ yX8_pays.cls ≠ "java/lang/invoke/MethodHandle" ∧ yX8_pays.cls ≠ "java/lang/invoke/VarHandle" ∧ (parseMethodDescriptor yX8_pays.desc).map (fun d => d.parameters.length) = some 1 := by decide +kernel
set_option maxHeartbeats 4000000 in
set_option maxRecDepth 100000 in
theorem c_X8_pays {l : Launch} {G : va_G} {ca : Nat → ClassId} {ev : Nat → Nat} {h0 h1 h2 h3 h4 h5 h6 h7 h8 h9 h10 h11 h12 h13 h14 h15 h16 h17 : Nat} {now : (Nat → Int32)} {kept : (Nat → Int32)} {isKept : Int32} {found : (Nat → Int32)} {order : (Nat → Int32)} {doubts : (Nat → Int32)} {doubtMany : Int32} {weights : (Nat → Int64)} {worn : (Nat → Int32)} {pairs : Int64} {isTwice : Int32} {doer : (Nat → Int32)} {doneTo : (Nat → Int32)} {doers : (Nat → Int64)} {tape : (Nat → Int32)} {taped : Int32} {begins : Int32} {ends : Int32} {sort : Int32} {value : Int32} {isWrong : Int32} {items : (Nat → Int32)} {itemMany : Int32} {bowThen : Int32} {doubtThen : Int32} {deedThen : Int32} {sayingThen : Int32} {widths : (Nat → Int32)} {sizes : (Nat → Int32)} {numbers : (Nat → Int64)} {moved : (Nat → Int64)} {a1 : Int32} {res : Int32} (h : f_X8_pays now a1 = some res) : CtI l yX8_pays wsX8_pays rm_X8_pays G ca ev [.ref h0, .int a1] (wM ca ev h0 h1 h2 h3 h4 h5 h6 h7 h8 h9 h10 h11 h12 h13 h14 h15 h16 h17 now kept isKept found order doubts doubtMany weights worn pairs isTwice doer doneTo doers tape taped begins ends sort value isWrong items itemMany bowThen doubtThen deedThen sayingThen widths sizes numbers moved) (wM ca ev h0 h1 h2 h3 h4 h5 h6 h7 h8 h9 h10 h11 h12 h13 h14 h15 h16 h17 now kept isKept found order doubts doubtMany weights worn pairs isTwice doer doneTo doers tape taped begins ends sort value isWrong items itemMany bowThen doubtThen deedThen sayingThen widths sizes numbers moved) res := by
  unfold f_X8_pays at h
  refine en_i (by decide) rfl (Nat.le_of_ble_eq_true rfl) ?_
  intro p e s m args below meth c A Q H locs ls hx hb hml hown hts hA hP hK hD hE hS hl hRet
  have hown : s.vm.findClass RX8 = some m.cls := hown
  have hl : lv_has ls 3 [(0, .ref h0), (1, .int a1)] := hl
  refine lv_aload_n hx hb dX8_pays_0 rfl (lv_at hl 0 rfl) ?_
  refine lv_iload_n hx hb dX8_pays_1 rfl (lv_at hl 1 rfl) ?_
  refine lv_iconst (v := (4 : Int32)) hx hb dX8_pays_2 (by decide) ?_
  obtain ⟨u_1, e_1, h⟩ := bd_some h
  refine cm_Vi (As := [.int a1, .int (4 : Int32)]) (rest := []) ⟨hx, hb, hml, hown, hts⟩ (c_X8_deedIs (ca := ca) (ev := ev) (h0 := h0) (h1 := h1) (h2 := h2) (h3 := h3) (h4 := h4) (h5 := h5) (h6 := h6) (h7 := h7) (h8 := h8) (h9 := h9) (h10 := h10) (h11 := h11) (h12 := h12) (h13 := h13) (h14 := h14) (h15 := h15) (h16 := h16) (h17 := h17) (now := now) (kept := kept) (isKept := isKept) (found := found) (order := order) (doubts := doubts) (doubtMany := doubtMany) (weights := weights) (worn := worn) (pairs := pairs) (isTwice := isTwice) (doer := doer) (doneTo := doneTo) (doers := doers) (tape := tape) (taped := taped) (begins := begins) (ends := ends) (sort := sort) (value := value) (isWrong := isWrong) (items := items) (itemMany := itemMany) (bowThen := bowThen) (doubtThen := doubtThen) (deedThen := deedThen) (sayingThen := sayingThen) (widths := widths) (sizes := sizes) (numbers := numbers) (moved := moved) e_1) (cwV 2 hts gX8_pays_X8_deedIs rfl rfl rfl hd_X8_deedIs ⟨Nat.le_of_ble_eq_true rfl, Nat.le_of_ble_eq_true rfl⟩) hK hP hD hS hA hE (q0 := 0) (ci := 8) rfl rfl rfl rfl hl.1 rfl (Nat.le_of_ble_eq_true rfl) dX8_pays_3 ⟨Nat.zero_le _, Nat.zero_le _⟩ (fun H locs hP hD hS => ?_)
  refine lv_istore_n (lv' := [(2, .int u_1), (0, .ref h0), (1, .int a1)]) hx hb dX8_pays_6 rfl hl (by decide) rfl (fun ls hl => ?_)
  refine lv_aload_n hx hb dX8_pays_7 rfl (lv_at hl 1 rfl) ?_
  refine lv_iload_n hx hb dX8_pays_8 rfl (lv_at hl 2 rfl) ?_
  refine lv_iconst (v := (0 : Int32)) hx hb dX8_pays_9 (by decide) ?_
  obtain ⟨u_2, e_2, h⟩ := bd_some h
  refine cm_Vi (As := [.int a1, .int (0 : Int32)]) (rest := []) ⟨hx, hb, hml, hown, hts⟩ (c_X8_deedIs (ca := ca) (ev := ev) (h0 := h0) (h1 := h1) (h2 := h2) (h3 := h3) (h4 := h4) (h5 := h5) (h6 := h6) (h7 := h7) (h8 := h8) (h9 := h9) (h10 := h10) (h11 := h11) (h12 := h12) (h13 := h13) (h14 := h14) (h15 := h15) (h16 := h16) (h17 := h17) (now := now) (kept := kept) (isKept := isKept) (found := found) (order := order) (doubts := doubts) (doubtMany := doubtMany) (weights := weights) (worn := worn) (pairs := pairs) (isTwice := isTwice) (doer := doer) (doneTo := doneTo) (doers := doers) (tape := tape) (taped := taped) (begins := begins) (ends := ends) (sort := sort) (value := value) (isWrong := isWrong) (items := items) (itemMany := itemMany) (bowThen := bowThen) (doubtThen := doubtThen) (deedThen := deedThen) (sayingThen := sayingThen) (widths := widths) (sizes := sizes) (numbers := numbers) (moved := moved) e_2) (cwV 2 hts gX8_pays_X8_deedIs rfl rfl rfl hd_X8_deedIs ⟨Nat.le_of_ble_eq_true rfl, Nat.le_of_ble_eq_true rfl⟩) hK hP hD hS hA hE (q0 := 0) (ci := 8) rfl rfl rfl rfl hl.1 rfl (Nat.le_of_ble_eq_true rfl) dX8_pays_10 ⟨Nat.zero_le _, Nat.zero_le _⟩ (fun H locs hP hD hS => ?_)
  by_cases c_3 : u_2 = (1 : Int32)
  · have h := ifp c_3 h
    rw [c_3]
    refine lv_tableIn (tgt := 48) hx hb dX8_pays_13 (by decide) (by decide) rfl (by decide) ?_
    refine lv_iload_n hx hb dX8_pays_48 rfl (lv_at hl 0 rfl) ?_
    obtain rfl := Option.some.inj h
    exact hRet hP hD hS dX8_pays_49
  · have h := ifn c_3 h
    by_cases c_4 : u_2 = (2 : Int32)
    · have h := ifp c_4 h
      rw [c_4]
      refine lv_tableIn (tgt := 50) hx hb dX8_pays_13 (by decide) (by decide) rfl (by decide) ?_
      refine lv_iload_n hx hb dX8_pays_50 rfl (lv_at hl 0 rfl) ?_
      refine lv_bipush (v := (10 : Int32)) hx hb dX8_pays_51 (by decide) ?_
      refine lv_idiv hx hb dX8_pays_53 (by decide) ?_
      refine lv_ineg hx hb dX8_pays_54 ?_
      obtain rfl := Option.some.inj h
      exact hRet hP hD hS dX8_pays_55
    · have h := ifn c_4 h
      by_cases c_5 : u_2 = (3 : Int32)
      · have h := ifp c_5 h
        rw [c_5]
        refine lv_tableIn (tgt := 56) hx hb dX8_pays_13 (by decide) (by decide) rfl (by decide) ?_
        refine lv_iconst (v := (1 : Int32)) hx hb dX8_pays_56 (by decide) ?_
        obtain rfl := Option.some.inj h
        exact hRet hP hD hS dX8_pays_57
      · have h := ifn c_5 h
        by_cases c_6 : u_2 = (4 : Int32)
        · have h := ifp c_6 h
          rw [c_6]
          refine lv_tableIn (tgt := 58) hx hb dX8_pays_13 (by decide) (by decide) rfl (by decide) ?_
          refine lv_iconst (v := (1 : Int32)) hx hb dX8_pays_58 (by decide) ?_
          refine lv_iload_n hx hb dX8_pays_59 rfl (lv_at hl 0 rfl) ?_
          refine lv_iconst (v := (2 : Int32)) hx hb dX8_pays_60 (by decide) ?_
          refine lv_idiv hx hb dX8_pays_61 (by decide) ?_
          refine lv_iadd hx hb dX8_pays_62 ?_
          obtain rfl := Option.some.inj h
          exact hRet hP hD hS dX8_pays_63
        · have h := ifn c_6 h
          by_cases c_7 : u_2 = (5 : Int32)
          · have h := ifp c_7 h
            rw [c_7]
            refine lv_tableIn (tgt := 64) hx hb dX8_pays_13 (by decide) (by decide) rfl (by decide) ?_
            refine lv_iconst (v := (2 : Int32)) hx hb dX8_pays_64 (by decide) ?_
            refine lv_iload_n hx hb dX8_pays_65 rfl (lv_at hl 0 rfl) ?_
            refine lv_imul hx hb dX8_pays_66 ?_
            obtain rfl := Option.some.inj h
            exact hRet hP hD hS dX8_pays_67
          · have h := ifn c_7 h
            refine lv_tableOut (tgt := 68) hx hb dX8_pays_13 (by by_cases q : u_2.toInt < 1 ∨ 5 < u_2.toInt; exact q; exfalso; have z0 : u_2.toInt = 1 ∨ u_2.toInt = 2 ∨ u_2.toInt = 3 ∨ u_2.toInt = 4 ∨ u_2.toInt = 5 := (by omega); rcases z0 with z | z | z | z | z; exact c_3 (Int32.toInt_inj.mp (z.trans (by decide))); exact c_4 (Int32.toInt_inj.mp (z.trans (by decide))); exact c_5 (Int32.toInt_inj.mp (z.trans (by decide))); exact c_6 (Int32.toInt_inj.mp (z.trans (by decide))); exact c_7 (Int32.toInt_inj.mp (z.trans (by decide)))) (by decide) ?_
            refine lv_iconst (v := (0 : Int32)) hx hb dX8_pays_68 (by decide) ?_
            obtain rfl := Option.some.inj h
            exact hRet hP hD hS dX8_pays_69
