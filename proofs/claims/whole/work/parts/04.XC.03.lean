abbrev rm_X7_changed : Room := { frames := 1, cells := 0, slots := 0, locals := 21 }
theorem hd_X7_changed : yX7_changed.cls ≠ "java/lang/invoke/MethodHandle" ∧ yX7_changed.cls ≠ "java/lang/invoke/VarHandle" ∧ (parseMethodDescriptor yX7_changed.desc).map (fun d => d.parameters.length) = some 3 := by decide +kernel
set_option maxHeartbeats 4000000 in
set_option maxRecDepth 100000 in
theorem c_X7_changed {l : Launch} {G : va_G} {ca : Nat → ClassId} {ev : Nat → Nat}  {a0 : Int32} {a1 : Int32} {a2 : Int32} {res : Int32} (h : f_X7_changed a0 a1 a2 = some res) : CtI l yX7_changed wsX7_changed rm_X7_changed G ca ev [.int a0, .int a1, .int a2] [] [] res := by
  unfold f_X7_changed at h
  refine en_i (by decide) rfl (Nat.le_of_ble_eq_true rfl) ?_
  intro p e s m args below meth c A Q H locs ls hx hb hml hown hts hA hP hK hD hE hS hl hRet
  have hown : s.vm.findClass RX7 = some m.cls := hown
  have hl : lv_has ls 4 [(0, .int a0), (1, .int a1), (2, .int a2)] := hl
  refine lv_iload_n hx hb dX7_changed_0 rfl (lv_at hl 0 rfl) ?_
  refine lv_iload_n hx hb dX7_changed_1 rfl (lv_at hl 1 rfl) ?_
  obtain ⟨u_1, e_1, h⟩ := bd_some h
  refine cn_Si (As := [.int a0, .int a1]) (rest := []) ⟨hx, hb, hml, hown, hts⟩ (c_X7_wearer e_1) (va_cwS 2 hts gX7_changed_X7_wearer rfl rfl rfl hd_X7_wearer ⟨Nat.le_of_ble_eq_true rfl, Nat.le_of_ble_eq_true rfl⟩) hK hP hD hS hA hE rfl hl.1 rfl (Nat.le_of_ble_eq_true rfl) dX7_changed_2 ⟨Nat.zero_le _, Nat.zero_le _⟩ (fun H locs hP hD hS => ?_)
  refine lv_iload_n hx hb dX7_changed_5 rfl (lv_at hl 0 rfl) ?_
  refine lv_iload_n hx hb dX7_changed_6 rfl (lv_at hl 2 rfl) ?_
  obtain ⟨u_2, e_2, h⟩ := bd_some h
  refine cn_Si (As := [.int a0, .int a2]) (rest := [.int u_1]) ⟨hx, hb, hml, hown, hts⟩ (c_X7_wearer e_2) (va_cwS 2 hts gX7_changed_X7_wearer rfl rfl rfl hd_X7_wearer ⟨Nat.le_of_ble_eq_true rfl, Nat.le_of_ble_eq_true rfl⟩) hK hP hD hS hA hE rfl hl.1 rfl (Nat.le_of_ble_eq_true rfl) dX7_changed_7 ⟨Nat.zero_le _, Nat.zero_le _⟩ (fun H locs hP hD hS => ?_)
  refine lv_ixor hx hb dX7_changed_10 ?_
  refine lv_istore_n (lv' := [(3, .int (u_1 ^^^ u_2)), (0, .int a0), (1, .int a1), (2, .int a2)]) hx hb dX7_changed_11 rfl hl (by decide) rfl (fun ls hl => ?_)
  refine lv_iload_n hx hb dX7_changed_12 rfl (lv_at hl 1 rfl) ?_
  refine lv_iload_n hx hb dX7_changed_13 rfl (lv_at hl 0 rfl) ?_
  refine lv_iconst (v := (3 : Int32)) hx hb dX7_changed_14 (by decide) ?_
  refine lv_iload_n hx hb dX7_changed_15 rfl (lv_at hl 2 rfl) ?_
  refine lv_imul hx hb dX7_changed_16 ?_
  refine lv_ishl hx hb dX7_changed_17 ?_
  refine lv_ixor hx hb dX7_changed_18 ?_
  refine lv_iload_n hx hb dX7_changed_19 rfl (lv_at hl 0 rfl) ?_
  refine lv_iconst (v := (3 : Int32)) hx hb dX7_changed_20 (by decide) ?_
  refine lv_iload_n hx hb dX7_changed_21 rfl (lv_at hl 3 rfl) ?_
  refine lv_imul hx hb dX7_changed_22 ?_
  refine lv_ishl hx hb dX7_changed_23 ?_
  refine lv_ixor hx hb dX7_changed_24 ?_
  obtain rfl := Option.some.inj h
  exact hRet hP hD hS dX7_changed_25
abbrev rm_X2_makeBows : Room := { frames := 2, cells := 0, slots := 0, locals := 44 }
theorem hd_X2_makeBows : yX2_makeBows.cls = RX2 ∧ yX2_makeBows.cls ≠ "java/lang/invoke/MethodHandle" ∧ yX2_makeBows.cls ≠ "java/lang/invoke/VarHandle" ∧ (parseMethodDescriptor yX2_makeBows.desc).map (fun d => d.parameters.length) = some 1 := by decide +kernel
set_option maxHeartbeats 4000000 in
set_option maxRecDepth 100000 in
theorem c_X2_makeBows {l : Launch} {G : va_G} {ca : Nat → ClassId} {ev : Nat → Nat} {n0 n1 n2 n3 n4 n5 n6 n7 c0 c1 c2 c3 c4 c5 c6 : Nat} {order : (Nat → Int32)} {stepsAt : (Nat → Int32)} {doubts : (Nat → Int32)} {weights : (Nat → Int32)} {rows : (Nat → Int32)} {metEver : (Nat → Int32)} {bowedTo : (Nat → Int32)} {isStale : Int32} {bowCount : Int32} {doubtCount : Int32} {seenBows : Int32} {likeliest : Int32} {mostSayingsSo : Int32} {bsize : Int32} {bcells : (Nat → Int32)} {ssize : Int32} {scells : (Nat → Int32)} {dsize : Int32} {dcells : (Nat → Int32)} {people : Int32} {rule : Int32} {believed : Int32} {a1 : Int32} {N : Nat} {res : Int32 × (Nat → Int32) × (Nat → Int32)} (h : f_X2_makeBows N order doubts rows bowedTo bowCount doubtCount seenBows bsize bcells a1 = some res) : CtI l yX2_makeBows wsX2_makeBows rm_X2_makeBows G ca ev [.ref n0, .int a1] (wN ca ev n0 n1 n2 n3 n4 n5 n6 n7 c0 c1 c2 c3 c4 c5 c6 order stepsAt doubts weights rows metEver bowedTo isStale bowCount doubtCount seenBows likeliest mostSayingsSo bsize bcells ssize scells dsize dcells people rule believed) (wN ca ev n0 n1 n2 n3 n4 n5 n6 n7 c0 c1 c2 c3 c4 c5 c6 order stepsAt doubts weights res.2.1 metEver res.2.2 isStale bowCount doubtCount seenBows likeliest mostSayingsSo bsize bcells ssize scells dsize dcells people rule believed) res.1 := by
  unfold f_X2_makeBows at h
  refine en_z (by decide) rfl (Nat.le_of_ble_eq_true rfl) ?_
  intro p e s m args below meth c A Q H locs ls hx hb hml hown hts hA hP hK hD hE hS hl hRet
  have hown : s.vm.findClass RX2 = some m.cls := hown
  have hl : lv_has ls 9 [(0, .ref n0), (1, .int a1)] := hl
  have hin_X0 : ∀ w ∈ u_ws RX0 TX0 6, w ∈ wsX2_makeBows := fun w h9 => List.mem_cons_of_mem _ (List.mem_append_left _ (List.mem_append_right _ h9))
  have hin_X2 : ∀ w ∈ u_ws RX2 TX2 14, w ∈ wsX2_makeBows := fun w h9 => List.mem_cons_of_mem _ (List.mem_append_left _ (List.mem_append_left _ (List.mem_append_right _ h9)))
  have fk_24 := hts (.fieldLink RX2 24 "MaskBows$Nights" "rows" "[I") (by decide +kernel)
  have fk_30 := hts (.fieldLink RX2 30 "MaskBows$Nights" "bowedTo" "[I") (by decide +kernel)
  have fk_37 := hts (.fieldLink RX2 37 "MaskBows$Nights" "bowCount" "I") (by decide +kernel)
  have fk_53 := hts (.fieldLink RX2 53 "MaskBows$Nights" "carnival" "LMaskBows$Carnival;") (by decide +kernel)
  have fk_57 := va_Nw.use (A := args) rfl (hE.1 ("MaskBows$Nights", 57, "MaskBows$Carnival", "bows", "LMaskBows$Rows;", "MaskBows") (by decide +kernel))
  have fk_9 := hts (.fieldLink RX2 9 "MaskBows$Nights" "order" "[I") (by decide +kernel)
  refine lv_iconst (v := (0 : Int32)) hx hb dX2_makeBows_0 (by decide) ?_
  refine lv_istore_n (lv' := [(2, .int (0 : Int32)), (0, .ref n0), (1, .int a1)]) hx hb dX2_makeBows_1 rfl hl (by decide) rfl (fun ls hl => ?_)
  have L_2 : ∀   (n_2 : Nat) {x2_2 : Int32} {bowedTo_2 : (Nat → Int32)} {uL_2 : (Nat → Int32)} {H : Heap} {locs : List Loc} {ls : Array Slot}, f_X2_makeBows_2   n_2 x2_2 bowedTo_2 = some uL_2 → va_P G vwCl (wN ca ev n0 n1 n2 n3 n4 n5 n6 n7 c0 c1 c2 c3 c4 c5 c6 order stepsAt doubts weights rows metEver bowedTo_2 isStale bowCount doubtCount seenBows likeliest mostSayingsSo bsize bcells ssize scells dsize dcells people rule believed) H → va_D A (wN ca ev n0 n1 n2 n3 n4 n5 n6 n7 c0 c1 c2 c3 c4 c5 c6 order stepsAt doubts weights rows metEver bowedTo_2 isStale bowCount doubtCount seenBows likeliest mostSayingsSo bsize bcells ssize scells dsize dcells people rule believed) → va_S A s.heap H locs → lv_has ls 9 [(0, .ref n0), (1, .int a1), (2, .int x2_2)] → (∀ {H : Heap} {locs : List Loc} {ls : Array Slot}, va_P G vwCl (wN ca ev n0 n1 n2 n3 n4 n5 n6 n7 c0 c1 c2 c3 c4 c5 c6 order stepsAt doubts weights rows metEver uL_2 isStale bowCount doubtCount seenBows likeliest mostSayingsSo bsize bcells ssize scells dsize dcells people rule believed) H → va_D A (wN ca ev n0 n1 n2 n3 n4 n5 n6 n7 c0 c1 c2 c3 c4 c5 c6 order stepsAt doubts weights rows metEver uL_2 isStale bowCount doubtCount seenBows likeliest mostSayingsSo bsize bcells ssize scells dsize dcells people rule believed) → va_S A s.heap H locs → lv_has ls 9 [(0, .ref n0), (1, .int a1)] → W p l e rm_X2_makeBows s m args below meth c H locs 0 0 Q (F0 m 21 ls [])) → W p l e rm_X2_makeBows s m args below meth c H locs 0 0 Q (F0 m 2 ls []) := by
    intro n_2
    induction n_2 with
    | zero => intro x2_2 bowedTo_2 uL_2 H locs ls h; exact absurd h (by rw [f_X2_makeBows_2]; exact fun z => nomatch z)
    | succ n_2 ih =>
      intro x2_2 bowedTo_2 uL_2 H locs ls h hP hD hS hl JK_2
      rw [f_X2_makeBows_2] at h
      refine lv_iload_n hx hb dX2_makeBows_2 rfl (lv_at hl 2 rfl) ?_
      refine lv_bipush (v := (8 : Int32)) hx hb dX2_makeBows_3 (by decide) ?_
      refine lv_icmp_ge (tgt := 21) hx hb dX2_makeBows_5 (by decide) (fun c_1 => ?_) (fun c_1 => ?_)
      · have h := ifp c_1 h
        obtain rfl := Option.some.inj h
        exact JK_2 hP hD hS (lv_sub hl [0, 1] rfl)
      · have h := ifn c_1 h
        refine lv_aload_n hx hb dX2_makeBows_8 rfl (lv_at hl 0 rfl) ?_
        refine va_get (D := G) (ci := 2) (v := .ref n7) (C := RX2) (T := TX2) (N := 14) hx hb hts hin_X2 hown hK hP 0 rfl rfl 7 (by decide) fk_30 (fun _ h9 => h9) rfl dX2_makeBows_9 ?_
        refine lv_iload_n hx hb dX2_makeBows_12 rfl (lv_at hl 2 rfl) ?_
        refine lv_iconst (v := (0 : Int32)) hx hb dX2_makeBows_13 (by decide) ?_
        obtain ⟨i_2, h⟩ := gd_some h
        refine va_iast hx hb hK hP hD hS 7 0 rfl rfl (ix_in i_2) dX2_makeBows_14 (fun H locs hP hD hS => ?_)
        have hP : va_P G vwCl (wN ca ev n0 n1 n2 n3 n4 n5 n6 n7 c0 c1 c2 c3 c4 c5 c6 order stepsAt doubts weights rows metEver (upd bowedTo_2 x2_2.toNatClampNeg (0 : Int32)) isStale bowCount doubtCount seenBows likeliest mostSayingsSo bsize bcells ssize scells dsize dcells people rule believed) H := hP
        have hD : va_D A (wN ca ev n0 n1 n2 n3 n4 n5 n6 n7 c0 c1 c2 c3 c4 c5 c6 order stepsAt doubts weights rows metEver (upd bowedTo_2 x2_2.toNatClampNeg (0 : Int32)) isStale bowCount doubtCount seenBows likeliest mostSayingsSo bsize bcells ssize scells dsize dcells people rule believed) := hD
        refine lv_iinc (v := (x2_2 + (1 : Int32))) (lv' := [(2, .int (x2_2 + (1 : Int32))), (0, .ref n0), (1, .int a1)]) hx hb dX2_makeBows_15 hl (k := 2) rfl rfl (by decide) rfl (fun ls hl => ?_)
        refine lv_goto (tgt := 2) hx hb dX2_makeBows_18 (by decide) ?_
        exact ih h hP hD hS (lv_sub hl [1, 2, 0] rfl) JK_2
  obtain ⟨u_3, e_3, h⟩ := bd_some h
  refine L_2 _ e_3 hP hD hS (lv_sub hl [1, 2, 0] rfl) ?_
  intro H locs ls hP hD hS hl
  refine lv_aload_n hx hb dX2_makeBows_21 rfl (lv_at hl 0 rfl) ?_
  refine lv_iload_n hx hb dX2_makeBows_22 rfl (lv_at hl 1 rfl) ?_
  obtain ⟨u_4, e_4, h⟩ := bd_some h
  refine cm_Vi (As := [.int a1]) (rest := []) ⟨hx, hb, hml, hown, hts⟩ (c_X2_bowsMadeIn (ca := ca) (ev := ev) (n0 := n0) (n1 := n1) (n2 := n2) (n3 := n3) (n4 := n4) (n5 := n5) (n6 := n6) (n7 := n7) (c0 := c0) (c1 := c1) (c2 := c2) (c3 := c3) (c4 := c4) (c5 := c5) (c6 := c6) (order := order) (stepsAt := stepsAt) (doubts := doubts) (weights := weights) (rows := rows) (metEver := metEver) (bowedTo := u_3) (isStale := isStale) (bowCount := bowCount) (doubtCount := doubtCount) (seenBows := seenBows) (likeliest := likeliest) (mostSayingsSo := mostSayingsSo) (bsize := bsize) (bcells := bcells) (ssize := ssize) (scells := scells) (dsize := dsize) (dcells := dcells) (people := people) (rule := rule) (believed := believed) e_4) (cwV 1 hts gX2_makeBows_X2_bowsMadeIn rfl rfl rfl hd_X2_bowsMadeIn ⟨Nat.le_of_ble_eq_true rfl, Nat.le_of_ble_eq_true rfl⟩) hK hP hD hS hA hE (q0 := 0) (ci := 2) rfl rfl rfl rfl hl.1 rfl (Nat.le_of_ble_eq_true rfl) dX2_makeBows_23 ⟨Nat.zero_le _, Nat.zero_le _⟩ (fun H locs hP hD hS => ?_)
  refine lv_istore_n (lv' := [(2, .int u_4), (0, .ref n0), (1, .int a1)]) hx hb dX2_makeBows_26 rfl hl (by decide) rfl (fun ls hl => ?_)
  refine lv_ldc (v := (16434824 : Int32)) hx hb hown (hts (.constant RX2 96 (16434824)) (by decide +kernel)) dX2_makeBows_27 ?_
  refine lv_istore_n (lv' := [(3, .int (16434824 : Int32)), (2, .int u_4), (0, .ref n0), (1, .int a1)]) hx hb dX2_makeBows_29 rfl hl (by decide) rfl (fun ls hl => ?_)
  refine lv_iconst (v := (0 : Int32)) hx hb dX2_makeBows_30 (by decide) ?_
  refine lv_istore (lv' := [(4, .int (0 : Int32)), (3, .int (16434824 : Int32)), (2, .int u_4), (0, .ref n0), (1, .int a1)]) hx hb dX2_makeBows_31 hl (by decide) rfl (fun ls hl => ?_)
  refine lv_aload_n hx hb dX2_makeBows_33 rfl (lv_at hl 3 rfl) ?_
  refine va_get (D := G) (ci := 2) (v := .ref n5) (C := RX2) (T := TX2) (N := 14) hx hb hts hin_X2 hown hK hP 0 rfl rfl 5 (by decide) fk_24 (fun _ h9 => h9) rfl dX2_makeBows_34 ?_
  refine lv_iload_n hx hb dX2_makeBows_37 rfl (lv_at hl 4 rfl) ?_
  refine lv_bipush (v := (21 : Int32)) hx hb dX2_makeBows_38 (by decide) ?_
  refine lv_imul hx hb dX2_makeBows_40 ?_
  refine lv_iload_n hx hb dX2_makeBows_41 rfl (lv_at hl 1 rfl) ?_
  obtain ⟨i_5, h⟩ := gd_some h
  refine va_iast hx hb hK hP hD hS 5 0 rfl rfl (ix_in i_5) dX2_makeBows_42 (fun H locs hP hD hS => ?_)
  have hP : va_P G vwCl (wN ca ev n0 n1 n2 n3 n4 n5 n6 n7 c0 c1 c2 c3 c4 c5 c6 order stepsAt doubts weights (upd rows (a1 * (21 : Int32)).toNatClampNeg (16434824 : Int32)) metEver u_3 isStale bowCount doubtCount seenBows likeliest mostSayingsSo bsize bcells ssize scells dsize dcells people rule believed) H := hP
  have hD : va_D A (wN ca ev n0 n1 n2 n3 n4 n5 n6 n7 c0 c1 c2 c3 c4 c5 c6 order stepsAt doubts weights (upd rows (a1 * (21 : Int32)).toNatClampNeg (16434824 : Int32)) metEver u_3 isStale bowCount doubtCount seenBows likeliest mostSayingsSo bsize bcells ssize scells dsize dcells people rule believed) := hD
  refine lv_iconst (v := (0 : Int32)) hx hb dX2_makeBows_43 (by decide) ?_
  refine lv_istore (lv' := [(5, .int (0 : Int32)), (4, .int (0 : Int32)), (3, .int (16434824 : Int32)), (2, .int u_4), (0, .ref n0), (1, .int a1)]) hx hb dX2_makeBows_44 hl (by decide) rfl (fun ls hl => ?_)
  have L_46 : ∀ {x1_46 : Int32} {x2_46 : Int32} {order_46 : (Nat → Int32)} {bowCount_46 : Int32} {bsize_46 : Int32} {bcells_46 : (Nat → Int32)} (n_46 : Nat) {x3_46 : Int32} {x4_46 : Int32} {x5_46 : Int32} {rows_46 : (Nat → Int32)} {bowedTo_46 : (Nat → Int32)} {uL_46 : Int32 × (Nat → Int32) × (Nat → Int32)} {H : Heap} {locs : List Loc} {ls : Array Slot}, f_X2_makeBows_46 x1_46 x2_46 order_46 bowCount_46 bsize_46 bcells_46  n_46 x3_46 x4_46 x5_46 rows_46 bowedTo_46 = some uL_46 → va_P G vwCl (wN ca ev n0 n1 n2 n3 n4 n5 n6 n7 c0 c1 c2 c3 c4 c5 c6 order_46 stepsAt doubts weights rows_46 metEver bowedTo_46 isStale bowCount_46 doubtCount seenBows likeliest mostSayingsSo bsize_46 bcells_46 ssize scells dsize dcells people rule believed) H → va_D A (wN ca ev n0 n1 n2 n3 n4 n5 n6 n7 c0 c1 c2 c3 c4 c5 c6 order_46 stepsAt doubts weights rows_46 metEver bowedTo_46 isStale bowCount_46 doubtCount seenBows likeliest mostSayingsSo bsize_46 bcells_46 ssize scells dsize dcells people rule believed) → va_S A s.heap H locs → lv_has ls 9 [(0, .ref n0), (1, .int x1_46), (2, .int x2_46), (3, .int x3_46), (4, .int x4_46), (5, .int x5_46)] → (∀ {H : Heap} {locs : List Loc} {ls : Array Slot}, va_P G vwCl (wN ca ev n0 n1 n2 n3 n4 n5 n6 n7 c0 c1 c2 c3 c4 c5 c6 order_46 stepsAt doubts weights uL_46.2.1 metEver uL_46.2.2 isStale bowCount_46 doubtCount seenBows likeliest mostSayingsSo bsize_46 bcells_46 ssize scells dsize dcells people rule believed) H → va_D A (wN ca ev n0 n1 n2 n3 n4 n5 n6 n7 c0 c1 c2 c3 c4 c5 c6 order_46 stepsAt doubts weights uL_46.2.1 metEver uL_46.2.2 isStale bowCount_46 doubtCount seenBows likeliest mostSayingsSo bsize_46 bcells_46 ssize scells dsize dcells people rule believed) → va_S A s.heap H locs → lv_has ls 9 [(4, .int uL_46.1)] → W p l e rm_X2_makeBows s m args below meth c H locs 0 0 Q (F0 m 155 ls [])) → W p l e rm_X2_makeBows s m args below meth c H locs 0 0 Q (F0 m 46 ls []) := by
    intro x1_46 x2_46 order_46 bowCount_46 bsize_46 bcells_46 n_46
    induction n_46 with
    | zero => intro x3_46 x4_46 x5_46 rows_46 bowedTo_46 uL_46 H locs ls h; exact absurd h (by rw [f_X2_makeBows_46]; exact fun z => nomatch z)
    | succ n_46 ih =>
      intro x3_46 x4_46 x5_46 rows_46 bowedTo_46 uL_46 H locs ls h hP hD hS hl JK_46
      rw [f_X2_makeBows_46] at h
      refine lv_iload hx hb dX2_makeBows_46 (lv_at hl 5 rfl) ?_
      refine lv_aload_n hx hb dX2_makeBows_48 rfl (lv_at hl 0 rfl) ?_
      refine va_get (D := G) (ci := 2) (v := .int bowCount_46) (C := RX2) (T := TX2) (N := 14) hx hb hts hin_X2 hown hK hP 0 rfl rfl 9 (by decide) fk_37 (fun _ h9 => h9) rfl dX2_makeBows_49 ?_
      refine lv_icmp_ge (tgt := 155) hx hb dX2_makeBows_52 (by decide) (fun c_6 => ?_) (fun c_6 => ?_)
      · have h := ifp c_6 h
        obtain rfl := Option.some.inj h
        exact JK_46 hP hD hS (lv_sub hl [4] rfl)
      · have h := ifn c_6 h
        refine lv_aload_n hx hb dX2_makeBows_55 rfl (lv_at hl 0 rfl) ?_
        refine va_get (D := G) (ci := 2) (v := .ref n1) (C := RX2) (T := TX2) (N := 14) hx hb hts hin_X2 hown hK hP 0 rfl rfl 1 (by decide) fk_9 (fun _ h9 => h9) rfl dX2_makeBows_56 ?_
        refine lv_iload hx hb dX2_makeBows_59 (lv_at hl 5 rfl) ?_
        obtain ⟨i_7, h⟩ := gd_some h
        refine va_iald hx hb hK hP 1 0 rfl rfl (ix_in i_7) dX2_makeBows_61 ?_
        refine lv_istore (lv' := [(6, .int (order_46 x5_46.toNatClampNeg)), (0, .ref n0), (1, .int x1_46), (2, .int x2_46), (3, .int x3_46), (4, .int x4_46), (5, .int x5_46)]) hx hb dX2_makeBows_62 hl (by decide) rfl (fun ls hl => ?_)
        refine lv_iload_n hx hb dX2_makeBows_64 rfl (lv_at hl 3 rfl) ?_
        refine lv_iload hx hb dX2_makeBows_65 (lv_at hl 0 rfl) ?_
        refine lv_ishr hx hb dX2_makeBows_67 ?_
        refine lv_iconst (v := (1 : Int32)) hx hb dX2_makeBows_68 (by decide) ?_
        refine lv_iand hx hb dX2_makeBows_69 ?_
        refine lv_iconst (v := (1 : Int32)) hx hb dX2_makeBows_70 (by decide) ?_
        obtain ⟨u_8, e_8, h⟩ := bd_some h
        have J_8 : ∀ {H : Heap} {locs : List Loc} {ls : Array Slot}, va_P G vwCl (wN ca ev n0 n1 n2 n3 n4 n5 n6 n7 c0 c1 c2 c3 c4 c5 c6 order_46 stepsAt doubts weights rows_46 metEver u_8.2.2 isStale bowCount_46 doubtCount seenBows likeliest mostSayingsSo bsize_46 bcells_46 ssize scells dsize dcells people rule believed) H → va_D A (wN ca ev n0 n1 n2 n3 n4 n5 n6 n7 c0 c1 c2 c3 c4 c5 c6 order_46 stepsAt doubts weights rows_46 metEver u_8.2.2 isStale bowCount_46 doubtCount seenBows likeliest mostSayingsSo bsize_46 bcells_46 ssize scells dsize dcells people rule believed) → va_S A s.heap H locs → lv_has ls 9 [(0, .ref n0), (1, .int x1_46), (2, .int x2_46), (3, .int u_8.1), (4, .int u_8.2.1), (5, .int x5_46)] → W p l e rm_X2_makeBows s m args below meth c H locs 0 0 Q (F0 m 134 ls []) := by
          intro H locs ls hP hD hS hl 
          refine lv_aload_n hx hb dX2_makeBows_134 rfl (lv_at hl 0 rfl) ?_
          refine va_get (D := G) (ci := 2) (v := .ref n5) (C := RX2) (T := TX2) (N := 14) hx hb hts hin_X2 hown hK hP 0 rfl rfl 5 (by decide) fk_24 (fun _ h9 => h9) rfl dX2_makeBows_135 ?_
          refine lv_iload_n hx hb dX2_makeBows_138 rfl (lv_at hl 1 rfl) ?_
          refine lv_bipush (v := (21 : Int32)) hx hb dX2_makeBows_139 (by decide) ?_
          refine lv_imul hx hb dX2_makeBows_141 ?_
          refine lv_iload hx hb dX2_makeBows_142 (lv_at hl 5 rfl) ?_
          refine lv_iadd hx hb dX2_makeBows_144 ?_
          refine lv_iconst (v := (1 : Int32)) hx hb dX2_makeBows_145 (by decide) ?_
          refine lv_iadd hx hb dX2_makeBows_146 ?_
          refine lv_iload_n hx hb dX2_makeBows_147 rfl (lv_at hl 3 rfl) ?_
          obtain ⟨i_15, h⟩ := gd_some h
          refine va_iast hx hb hK hP hD hS 5 0 rfl rfl (ix_in i_15) dX2_makeBows_148 (fun H locs hP hD hS => ?_)
          have hP : va_P G vwCl (wN ca ev n0 n1 n2 n3 n4 n5 n6 n7 c0 c1 c2 c3 c4 c5 c6 order_46 stepsAt doubts weights (upd rows_46 (((x1_46 * (21 : Int32)) + x5_46) + (1 : Int32)).toNatClampNeg u_8.1) metEver u_8.2.2 isStale bowCount_46 doubtCount seenBows likeliest mostSayingsSo bsize_46 bcells_46 ssize scells dsize dcells people rule believed) H := hP
          have hD : va_D A (wN ca ev n0 n1 n2 n3 n4 n5 n6 n7 c0 c1 c2 c3 c4 c5 c6 order_46 stepsAt doubts weights (upd rows_46 (((x1_46 * (21 : Int32)) + x5_46) + (1 : Int32)).toNatClampNeg u_8.1) metEver u_8.2.2 isStale bowCount_46 doubtCount seenBows likeliest mostSayingsSo bsize_46 bcells_46 ssize scells dsize dcells people rule believed) := hD
          refine lv_iinc (v := (x5_46 + (1 : Int32))) (lv' := [(5, .int (x5_46 + (1 : Int32))), (0, .ref n0), (1, .int x1_46), (2, .int x2_46), (3, .int u_8.1), (4, .int u_8.2.1)]) hx hb dX2_makeBows_149 hl (k := 5) rfl rfl (by decide) rfl (fun ls hl => ?_)
          refine lv_goto (tgt := 46) hx hb dX2_makeBows_152 (by decide) ?_
          exact ih h hP hD hS (lv_sub hl [1, 2, 3, 4, 5, 0] rfl) JK_46
        have h := e_8
        clear e_8
        refine lv_icmp_ne (tgt := 134) hx hb dX2_makeBows_71 (by decide) (fun c_8 => ?_) (fun c_8 => ?_)
        · have h := ifn c_8 h
          obtain rfl := Option.some.inj h
          exact J_8 hP hD hS (lv_sub hl [1, 2, 3, 4, 5, 6] rfl)
        · have h := ifp c_8 h
          refine lv_aload_n hx hb dX2_makeBows_74 rfl (lv_at hl 1 rfl) ?_
          refine va_get (D := G) (ci := 2) (v := .ref c0) (C := RX2) (T := TX2) (N := 14) hx hb hts hin_X2 hown hK hP 0 rfl rfl 0 (by decide) fk_53 (fun _ h9 => h9) rfl dX2_makeBows_75 ?_
          refine va_getN (D := G) (ci := 0) (v := .ref c1) (C := RX0) (T := TX0) (N := 6) hx hb hts hin_X0 hown hK hP 8 rfl rfl 0 (by decide) fk_57 (fun _ h9 => h9) rfl dX2_makeBows_78 ?_
          refine lv_iload hx hb dX2_makeBows_81 (lv_at hl 0 rfl) ?_
          refine lv_iconst (v := (1 : Int32)) hx hb dX2_makeBows_83 (by decide) ?_
          obtain ⟨u_9, e_9, h⟩ := bd_some h
          refine cl_Vi (As := [.int (order_46 x5_46.toNatClampNeg), .int (1 : Int32)]) (rest := []) (Wn := (wN ca ev n0 n1 n2 n3 n4 n5 n6 n7 c0 c1 c2 c3 c4 c5 c6 order_46 stepsAt doubts weights rows_46 metEver bowedTo_46 isStale bowCount_46 doubtCount seenBows likeliest mostSayingsSo bsize_46 bcells_46 ssize scells dsize dcells people rule believed)) ⟨hx, hb, hml, hown, hts⟩ (c_X4_cell (ca := ca) (ev := ev) (r0 := c1) (r1 := c2) (limit := (20 : Int32)) (width := (4 : Int32)) (size := bsize_46) (cells := bcells_46) (nc := 80) e_9) (cwV 2 hts gX2_makeBows_X4_cell rfl rfl rfl hd_X4_cell ⟨Nat.le_of_ble_eq_true rfl, Nat.le_of_ble_eq_true rfl⟩) hK hP hD hS hA hE wp_10 (q0 := 0) (ci := 4) rfl rfl rfl rfl hl.1 rfl (Nat.le_of_ble_eq_true rfl) dX2_makeBows_84 ⟨Nat.zero_le _, Nat.zero_le _⟩ (fun H locs hP hD hS => ?_)
          refine lv_istore (lv' := [(7, .int u_9), (6, .int (order_46 x5_46.toNatClampNeg)), (0, .ref n0), (1, .int x1_46), (2, .int x2_46), (3, .int x3_46), (4, .int x4_46), (5, .int x5_46)]) hx hb dX2_makeBows_87 hl (by decide) rfl (fun ls hl => ?_)
          refine lv_aload_n hx hb dX2_makeBows_89 rfl (lv_at hl 2 rfl) ?_
          refine va_get (D := G) (ci := 2) (v := .ref c0) (C := RX2) (T := TX2) (N := 14) hx hb hts hin_X2 hown hK hP 0 rfl rfl 0 (by decide) fk_53 (fun _ h9 => h9) rfl dX2_makeBows_90 ?_
          refine va_getN (D := G) (ci := 0) (v := .ref c1) (C := RX0) (T := TX0) (N := 6) hx hb hts hin_X0 hown hK hP 8 rfl rfl 0 (by decide) fk_57 (fun _ h9 => h9) rfl dX2_makeBows_93 ?_
          refine lv_iload hx hb dX2_makeBows_96 (lv_at hl 1 rfl) ?_
          refine lv_iconst (v := (2 : Int32)) hx hb dX2_makeBows_98 (by decide) ?_
          obtain ⟨u_10, e_10, h⟩ := bd_some h
          refine cl_Vi (As := [.int (order_46 x5_46.toNatClampNeg), .int (2 : Int32)]) (rest := []) (Wn := (wN ca ev n0 n1 n2 n3 n4 n5 n6 n7 c0 c1 c2 c3 c4 c5 c6 order_46 stepsAt doubts weights rows_46 metEver bowedTo_46 isStale bowCount_46 doubtCount seenBows likeliest mostSayingsSo bsize_46 bcells_46 ssize scells dsize dcells people rule believed)) ⟨hx, hb, hml, hown, hts⟩ (c_X4_cell (ca := ca) (ev := ev) (r0 := c1) (r1 := c2) (limit := (20 : Int32)) (width := (4 : Int32)) (size := bsize_46) (cells := bcells_46) (nc := 80) e_10) (cwV 2 hts gX2_makeBows_X4_cell rfl rfl rfl hd_X4_cell ⟨Nat.le_of_ble_eq_true rfl, Nat.le_of_ble_eq_true rfl⟩) hK hP hD hS hA hE wp_10 (q0 := 0) (ci := 4) rfl rfl rfl rfl hl.1 rfl (Nat.le_of_ble_eq_true rfl) dX2_makeBows_99 ⟨Nat.zero_le _, Nat.zero_le _⟩ (fun H locs hP hD hS => ?_)
          refine lv_istore (lv' := [(8, .int u_10), (7, .int u_9), (6, .int (order_46 x5_46.toNatClampNeg)), (0, .ref n0), (1, .int x1_46), (2, .int x2_46), (3, .int x3_46), (4, .int x4_46), (5, .int x5_46)]) hx hb dX2_makeBows_102 hl (by decide) rfl (fun ls hl => ?_)
          refine lv_iload hx hb dX2_makeBows_104 (lv_at hl 7 rfl) ?_
          refine lv_aload_n hx hb dX2_makeBows_106 rfl (lv_at hl 3 rfl) ?_
          refine lv_iload_n hx hb dX2_makeBows_107 rfl (lv_at hl 6 rfl) ?_
          refine lv_iload hx hb dX2_makeBows_108 (lv_at hl 1 rfl) ?_
          obtain ⟨u_11, e_11, h⟩ := bd_some h
          refine cn_Ni (As := [.int x3_46, .int u_9]) (rest := [.ref n0, .int x4_46]) ⟨hx, hb, hml, hown, hts⟩ (c_X7_wearer e_11) (⟨va_cnB 2 hts gX2_makeBows_X7_wearer_n107 rfl rfl rfl (hE.2.1 ("MaskBows$Nights", 107, ⟨"MaskBows", "wearer", "(II)I"⟩, "MaskBows") (by decide +kernel)) (hts (.initialized RX7) (by decide +kernel)) hd_X7_wearer ⟨Nat.le_of_ble_eq_true rfl, Nat.le_of_ble_eq_true rfl⟩, hts (.static yX7_wearer) (by decide +kernel), trivial⟩) hK hP hD hS hA hE rfl hl.1 rfl (Nat.le_of_ble_eq_true rfl) dX2_makeBows_110 ⟨Nat.zero_le _, Nat.zero_le _⟩ (fun H locs hP hD hS => ?_)
          refine lv_iload_n hx hb dX2_makeBows_113 rfl (lv_at hl 6 rfl) ?_
          refine lv_iload hx hb dX2_makeBows_114 (lv_at hl 0 rfl) ?_
          obtain ⟨u_12, e_12, h⟩ := bd_some h
          refine cn_Ni (As := [.int x3_46, .int u_10]) (rest := [.int u_11, .ref n0, .int x4_46]) ⟨hx, hb, hml, hown, hts⟩ (c_X7_wearer e_12) (⟨va_cnB 2 hts gX2_makeBows_X7_wearer_n107 rfl rfl rfl (hE.2.1 ("MaskBows$Nights", 107, ⟨"MaskBows", "wearer", "(II)I"⟩, "MaskBows") (by decide +kernel)) (hts (.initialized RX7) (by decide +kernel)) hd_X7_wearer ⟨Nat.le_of_ble_eq_true rfl, Nat.le_of_ble_eq_true rfl⟩, hts (.static yX7_wearer) (by decide +kernel), trivial⟩) hK hP hD hS hA hE rfl hl.1 rfl (Nat.le_of_ble_eq_true rfl) dX2_makeBows_116 ⟨Nat.zero_le _, Nat.zero_le _⟩ (fun H locs hP hD hS => ?_)
          obtain ⟨u_13, e_13, h⟩ := bd_some h
          refine cm_Vi (As := [.int u_11, .int u_12]) (rest := [.int x4_46]) ⟨hx, hb, hml, hown, hts⟩ (c_X2_noteBow (ca := ca) (ev := ev) (n0 := n0) (n1 := n1) (n2 := n2) (n3 := n3) (n4 := n4) (n5 := n5) (n6 := n6) (n7 := n7) (c0 := c0) (c1 := c1) (c2 := c2) (c3 := c3) (c4 := c4) (c5 := c5) (c6 := c6) (order := order_46) (stepsAt := stepsAt) (doubts := doubts) (weights := weights) (rows := rows_46) (metEver := metEver) (bowedTo := bowedTo_46) (isStale := isStale) (bowCount := bowCount_46) (doubtCount := doubtCount) (seenBows := seenBows) (likeliest := likeliest) (mostSayingsSo := mostSayingsSo) (bsize := bsize_46) (bcells := bcells_46) (ssize := ssize) (scells := scells) (dsize := dsize) (dcells := dcells) (people := people) (rule := rule) (believed := believed) e_13) (cwV 2 hts gX2_makeBows_X2_noteBow rfl rfl rfl hd_X2_noteBow ⟨Nat.le_of_ble_eq_true rfl, Nat.le_of_ble_eq_true rfl⟩) hK hP hD hS hA hE (q0 := 0) (ci := 2) rfl rfl rfl rfl hl.1 rfl (Nat.le_of_ble_eq_true rfl) dX2_makeBows_119 ⟨Nat.zero_le _, Nat.zero_le _⟩ (fun H locs hP hD hS => ?_)
          refine lv_ior hx hb dX2_makeBows_122 ?_
          refine lv_istore (lv' := [(4, .int (x4_46 ||| u_13.1)), (8, .int u_10), (7, .int u_9), (6, .int (order_46 x5_46.toNatClampNeg)), (0, .ref n0), (1, .int x1_46), (2, .int x2_46), (3, .int x3_46), (5, .int x5_46)]) hx hb dX2_makeBows_123 hl (by decide) rfl (fun ls hl => ?_)
          refine lv_iload_n hx hb dX2_makeBows_125 rfl (lv_at hl 7 rfl) ?_
          refine lv_iload hx hb dX2_makeBows_126 (lv_at hl 2 rfl) ?_
          refine lv_iload hx hb dX2_makeBows_128 (lv_at hl 1 rfl) ?_
          obtain ⟨u_14, e_14, h⟩ := bd_some h
          refine cn_Ni (As := [.int x3_46, .int u_9, .int u_10]) (rest := []) ⟨hx, hb, hml, hown, hts⟩ (c_X7_changed e_14) (⟨va_cnB 3 hts gX2_makeBows_X7_changed_n170 rfl rfl rfl (hE.2.1 ("MaskBows$Nights", 170, ⟨"MaskBows", "changed", "(III)I"⟩, "MaskBows") (by decide +kernel)) (hts (.initialized RX7) (by decide +kernel)) hd_X7_changed ⟨Nat.le_of_ble_eq_true rfl, Nat.le_of_ble_eq_true rfl⟩, hts (.static yX7_changed) (by decide +kernel), trivial⟩) hK hP hD hS hA hE rfl hl.1 rfl (Nat.le_of_ble_eq_true rfl) dX2_makeBows_130 ⟨Nat.zero_le _, Nat.zero_le _⟩ (fun H locs hP hD hS => ?_)
          refine lv_istore_n (lv' := [(3, .int u_14), (4, .int (x4_46 ||| u_13.1)), (8, .int u_10), (7, .int u_9), (6, .int (order_46 x5_46.toNatClampNeg)), (0, .ref n0), (1, .int x1_46), (2, .int x2_46), (5, .int x5_46)]) hx hb dX2_makeBows_133 rfl hl (by decide) rfl (fun ls hl => ?_)
          obtain rfl := Option.some.inj h
          exact J_8 hP hD hS (lv_sub hl [5, 6, 7, 0, 1, 8] rfl)
  obtain ⟨u_16, e_16, h⟩ := bd_some h
  refine L_46 _ e_16 hP hD hS (lv_sub hl [4, 5, 3, 2, 1, 0] rfl) ?_
  intro H locs ls hP hD hS hl
  refine lv_iload hx hb dX2_makeBows_155 (lv_at hl 0 rfl) ?_
  obtain ⟨z_17, h⟩ := gd_some h
  obtain rfl := Option.some.inj h
  exact hRet hP hD hS (isb_or z_17) dX2_makeBows_157
abbrev rm_X2_isSo : Room := { frames := 1, cells := 0, slots := 0, locals := 22 }
theorem hd_X2_isSo : yX2_isSo.cls = RX2 ∧ yX2_isSo.cls ≠ "java/lang/invoke/MethodHandle" ∧ yX2_isSo.cls ≠ "java/lang/invoke/VarHandle" ∧ (parseMethodDescriptor yX2_isSo.desc).map (fun d => d.parameters.length) = some 2 := by decide +kernel
set_option maxHeartbeats 4000000 in
set_option maxRecDepth 100000 in
theorem c_X2_isSo {l : Launch} {G : va_G} {ca : Nat → ClassId} {ev : Nat → Nat} {n0 n1 n2 n3 n4 n5 n6 n7 c0 c1 c2 c3 c4 c5 c6 : Nat} {order : (Nat → Int32)} {stepsAt : (Nat → Int32)} {doubts : (Nat → Int32)} {weights : (Nat → Int32)} {rows : (Nat → Int32)} {metEver : (Nat → Int32)} {bowedTo : (Nat → Int32)} {isStale : Int32} {bowCount : Int32} {doubtCount : Int32} {seenBows : Int32} {likeliest : Int32} {mostSayingsSo : Int32} {bsize : Int32} {bcells : (Nat → Int32)} {ssize : Int32} {scells : (Nat → Int32)} {dsize : Int32} {dcells : (Nat → Int32)} {people : Int32} {rule : Int32} {believed : Int32} {a1 : Int32} {a2 : Int32} {res : Int32} (h : f_X2_isSo stepsAt rows ssize scells a1 a2 = some res) : CtI l yX2_isSo wsX2_isSo rm_X2_isSo G ca ev [.ref n0, .int a1, .int a2] (wN ca ev n0 n1 n2 n3 n4 n5 n6 n7 c0 c1 c2 c3 c4 c5 c6 order stepsAt doubts weights rows metEver bowedTo isStale bowCount doubtCount seenBows likeliest mostSayingsSo bsize bcells ssize scells dsize dcells people rule believed) (wN ca ev n0 n1 n2 n3 n4 n5 n6 n7 c0 c1 c2 c3 c4 c5 c6 order stepsAt doubts weights rows metEver bowedTo isStale bowCount doubtCount seenBows likeliest mostSayingsSo bsize bcells ssize scells dsize dcells people rule believed) res := by
  unfold f_X2_isSo at h
  refine en_z (by decide) rfl (Nat.le_of_ble_eq_true rfl) ?_
  intro p e s m args below meth c A Q H locs ls hx hb hml hown hts hA hP hK hD hE hS hl hRet
  have hown : s.vm.findClass RX2 = some m.cls := hown
  have hl : lv_has ls 7 [(0, .ref n0), (1, .int a1), (2, .int a2)] := hl
  have hin_X0 : ∀ w ∈ u_ws RX0 TX0 6, w ∈ wsX2_isSo := fun w h9 => List.mem_cons_of_mem _ (List.mem_append_left _ (List.mem_append_right _ h9))
  have hin_X2 : ∀ w ∈ u_ws RX2 TX2 14, w ∈ wsX2_isSo := fun w h9 => List.mem_cons_of_mem _ (List.mem_append_left _ (List.mem_append_left _ (List.mem_append_right _ h9)))
  have fk_122 := va_Nw.use (A := args) rfl (hE.1 ("MaskBows$Nights", 122, "MaskBows$Carnival", "sayings", "LMaskBows$Rows;", "MaskBows") (by decide +kernel))
  have fk_53 := hts (.fieldLink RX2 53 "MaskBows$Nights" "carnival" "LMaskBows$Carnival;") (by decide +kernel)
  refine lv_aload_n hx hb dX2_isSo_0 rfl (lv_at hl 0 rfl) ?_
  refine va_get (D := G) (ci := 2) (v := .ref c0) (C := RX2) (T := TX2) (N := 14) hx hb hts hin_X2 hown hK hP 0 rfl rfl 0 (by decide) fk_53 (fun _ h9 => h9) rfl dX2_isSo_1 ?_
  refine va_getN (D := G) (ci := 0) (v := .ref c3) (C := RX0) (T := TX0) (N := 6) hx hb hts hin_X0 hown hK hP 8 rfl rfl 1 (by decide) fk_122 (fun _ h9 => h9) rfl dX2_isSo_4 ?_
  refine lv_astore_n (lv' := [(3, .ref c3), (0, .ref n0), (1, .int a1), (2, .int a2)]) hx hb dX2_isSo_7 rfl hl (by decide) rfl (fun ls hl => ?_)
  refine lv_aload_n hx hb dX2_isSo_8 rfl (lv_at hl 1 rfl) ?_
  refine lv_iload_n hx hb dX2_isSo_9 rfl (lv_at hl 3 rfl) ?_
  refine lv_aload_n hx hb dX2_isSo_10 rfl (lv_at hl 0 rfl) ?_
  refine lv_iload_n hx hb dX2_isSo_11 rfl (lv_at hl 2 rfl) ?_
  refine lv_iconst (v := (0 : Int32)) hx hb dX2_isSo_12 (by decide) ?_
  obtain ⟨u_1, e_1, h⟩ := bd_some h
  refine cl_Vi (As := [.int a1, .int (0 : Int32)]) (rest := [.int a2, .ref n0]) (Wn := (wN ca ev n0 n1 n2 n3 n4 n5 n6 n7 c0 c1 c2 c3 c4 c5 c6 order stepsAt doubts weights rows metEver bowedTo isStale bowCount doubtCount seenBows likeliest mostSayingsSo bsize bcells ssize scells dsize dcells people rule believed)) ⟨hx, hb, hml, hown, hts⟩ (c_X4_cell (ca := ca) (ev := ev) (r0 := c3) (r1 := c4) (limit := (10 : Int32)) (width := (4 : Int32)) (size := ssize) (cells := scells) (nc := 40) e_1) (cwV 2 hts gX2_isSo_X4_cell rfl rfl rfl hd_X4_cell ⟨Nat.le_of_ble_eq_true rfl, Nat.le_of_ble_eq_true rfl⟩) hK hP hD hS hA hE wp_12 (q0 := 0) (ci := 4) rfl rfl rfl rfl hl.1 rfl (Nat.le_of_ble_eq_true rfl) dX2_isSo_13 ⟨Nat.zero_le _, Nat.zero_le _⟩ (fun H locs hP hD hS => ?_)
  obtain ⟨u_2, e_2, h⟩ := bd_some h
  refine cm_Vi (As := [.int a2, .int u_1]) (rest := []) ⟨hx, hb, hml, hown, hts⟩ (c_X2_row (ca := ca) (ev := ev) (n0 := n0) (n1 := n1) (n2 := n2) (n3 := n3) (n4 := n4) (n5 := n5) (n6 := n6) (n7 := n7) (c0 := c0) (c1 := c1) (c2 := c2) (c3 := c3) (c4 := c4) (c5 := c5) (c6 := c6) (order := order) (stepsAt := stepsAt) (doubts := doubts) (weights := weights) (rows := rows) (metEver := metEver) (bowedTo := bowedTo) (isStale := isStale) (bowCount := bowCount) (doubtCount := doubtCount) (seenBows := seenBows) (likeliest := likeliest) (mostSayingsSo := mostSayingsSo) (bsize := bsize) (bcells := bcells) (ssize := ssize) (scells := scells) (dsize := dsize) (dcells := dcells) (people := people) (rule := rule) (believed := believed) e_2) (cwV 2 hts gX2_isSo_X2_row rfl rfl rfl hd_X2_row ⟨Nat.le_of_ble_eq_true rfl, Nat.le_of_ble_eq_true rfl⟩) hK hP hD hS hA hE (q0 := 0) (ci := 2) rfl rfl rfl rfl hl.1 rfl (Nat.le_of_ble_eq_true rfl) dX2_isSo_16 ⟨Nat.zero_le _, Nat.zero_le _⟩ (fun H locs hP hD hS => ?_)
  refine lv_istore (lv' := [(4, .int u_2), (3, .ref c3), (0, .ref n0), (1, .int a1), (2, .int a2)]) hx hb dX2_isSo_19 hl (by decide) rfl (fun ls hl => ?_)
  refine lv_iload hx hb dX2_isSo_21 (lv_at hl 0 rfl) ?_
  refine lv_aload_n hx hb dX2_isSo_23 rfl (lv_at hl 1 rfl) ?_
  refine lv_iload_n hx hb dX2_isSo_24 rfl (lv_at hl 3 rfl) ?_
  refine lv_iconst (v := (1 : Int32)) hx hb dX2_isSo_25 (by decide) ?_
  obtain ⟨u_3, e_3, h⟩ := bd_some h
  refine cl_Vi (As := [.int a1, .int (1 : Int32)]) (rest := [.int u_2]) (Wn := (wN ca ev n0 n1 n2 n3 n4 n5 n6 n7 c0 c1 c2 c3 c4 c5 c6 order stepsAt doubts weights rows metEver bowedTo isStale bowCount doubtCount seenBows likeliest mostSayingsSo bsize bcells ssize scells dsize dcells people rule believed)) ⟨hx, hb, hml, hown, hts⟩ (c_X4_cell (ca := ca) (ev := ev) (r0 := c3) (r1 := c4) (limit := (10 : Int32)) (width := (4 : Int32)) (size := ssize) (cells := scells) (nc := 40) e_3) (cwV 2 hts gX2_isSo_X4_cell rfl rfl rfl hd_X4_cell ⟨Nat.le_of_ble_eq_true rfl, Nat.le_of_ble_eq_true rfl⟩) hK hP hD hS hA hE wp_12 (q0 := 0) (ci := 4) rfl rfl rfl rfl hl.1 rfl (Nat.le_of_ble_eq_true rfl) dX2_isSo_26 ⟨Nat.zero_le _, Nat.zero_le _⟩ (fun H locs hP hD hS => ?_)
  obtain ⟨u_4, e_4, h⟩ := bd_some h
  refine cn_Ni (As := [.int u_2, .int u_3]) (rest := []) ⟨hx, hb, hml, hown, hts⟩ (c_X7_wearer e_4) (⟨va_cnB 2 hts gX2_isSo_X7_wearer_n107 rfl rfl rfl (hE.2.1 ("MaskBows$Nights", 107, ⟨"MaskBows", "wearer", "(II)I"⟩, "MaskBows") (by decide +kernel)) (hts (.initialized RX7) (by decide +kernel)) hd_X7_wearer ⟨Nat.le_of_ble_eq_true rfl, Nat.le_of_ble_eq_true rfl⟩, hts (.static yX7_wearer) (by decide +kernel), trivial⟩) hK hP hD hS hA hE rfl hl.1 rfl (Nat.le_of_ble_eq_true rfl) dX2_isSo_29 ⟨Nat.zero_le _, Nat.zero_le _⟩ (fun H locs hP hD hS => ?_)
  refine lv_istore (lv' := [(5, .int u_4), (4, .int u_2), (3, .ref c3), (0, .ref n0), (1, .int a1), (2, .int a2)]) hx hb dX2_isSo_32 hl (by decide) rfl (fun ls hl => ?_)
  refine lv_aload_n hx hb dX2_isSo_34 rfl (lv_at hl 2 rfl) ?_
  refine lv_iload_n hx hb dX2_isSo_35 rfl (lv_at hl 4 rfl) ?_
  refine lv_iconst (v := (3 : Int32)) hx hb dX2_isSo_36 (by decide) ?_
  obtain ⟨u_5, e_5, h⟩ := bd_some h
  refine cl_Vi (As := [.int a1, .int (3 : Int32)]) (rest := []) (Wn := (wN ca ev n0 n1 n2 n3 n4 n5 n6 n7 c0 c1 c2 c3 c4 c5 c6 order stepsAt doubts weights rows metEver bowedTo isStale bowCount doubtCount seenBows likeliest mostSayingsSo bsize bcells ssize scells dsize dcells people rule believed)) ⟨hx, hb, hml, hown, hts⟩ (c_X4_cell (ca := ca) (ev := ev) (r0 := c3) (r1 := c4) (limit := (10 : Int32)) (width := (4 : Int32)) (size := ssize) (cells := scells) (nc := 40) e_5) (cwV 2 hts gX2_isSo_X4_cell rfl rfl rfl hd_X4_cell ⟨Nat.le_of_ble_eq_true rfl, Nat.le_of_ble_eq_true rfl⟩) hK hP hD hS hA hE wp_12 (q0 := 0) (ci := 4) rfl rfl rfl rfl hl.1 rfl (Nat.le_of_ble_eq_true rfl) dX2_isSo_37 ⟨Nat.zero_le _, Nat.zero_le _⟩ (fun H locs hP hD hS => ?_)
  refine lv_iconst (v := (1 : Int32)) hx hb dX2_isSo_40 (by decide) ?_
  obtain ⟨u_6, e_6, h⟩ := bd_some h
  have J_6 : ∀ {H : Heap} {locs : List Loc} {ls : Array Slot}, va_P G vwCl (wN ca ev n0 n1 n2 n3 n4 n5 n6 n7 c0 c1 c2 c3 c4 c5 c6 order stepsAt doubts weights rows metEver bowedTo isStale bowCount doubtCount seenBows likeliest mostSayingsSo bsize bcells ssize scells dsize dcells people rule believed) H → va_D A (wN ca ev n0 n1 n2 n3 n4 n5 n6 n7 c0 c1 c2 c3 c4 c5 c6 order stepsAt doubts weights rows metEver bowedTo isStale bowCount doubtCount seenBows likeliest mostSayingsSo bsize bcells ssize scells dsize dcells people rule believed) → va_S A s.heap H locs → lv_has ls 7 [(1, .int a1), (3, .ref c3), (5, .int u_4)] → (u_6 = 0 ∨ u_6 = 1) → W p l e rm_X2_isSo s m args below meth c H locs 0 0 Q (F0 m 49 ls [.int u_6]) := by
    intro H locs ls hP hD hS hl zj_6_0
    refine lv_istore (lv' := [(6, .int u_6), (1, .int a1), (3, .ref c3), (5, .int u_4)]) hx hb dX2_isSo_49 hl (by decide) rfl (fun ls hl => ?_)
    refine lv_iload hx hb dX2_isSo_51 (lv_at hl 3 rfl) ?_
    refine lv_aload_n hx hb dX2_isSo_53 rfl (lv_at hl 2 rfl) ?_
    refine lv_iload_n hx hb dX2_isSo_54 rfl (lv_at hl 1 rfl) ?_
    refine lv_iconst (v := (2 : Int32)) hx hb dX2_isSo_55 (by decide) ?_
    obtain ⟨u_7, e_7, h⟩ := bd_some h
    refine cl_Vi (As := [.int a1, .int (2 : Int32)]) (rest := [.int u_4]) (Wn := (wN ca ev n0 n1 n2 n3 n4 n5 n6 n7 c0 c1 c2 c3 c4 c5 c6 order stepsAt doubts weights rows metEver bowedTo isStale bowCount doubtCount seenBows likeliest mostSayingsSo bsize bcells ssize scells dsize dcells people rule believed)) ⟨hx, hb, hml, hown, hts⟩ (c_X4_cell (ca := ca) (ev := ev) (r0 := c3) (r1 := c4) (limit := (10 : Int32)) (width := (4 : Int32)) (size := ssize) (cells := scells) (nc := 40) e_7) (cwV 2 hts gX2_isSo_X4_cell rfl rfl rfl hd_X4_cell ⟨Nat.le_of_ble_eq_true rfl, Nat.le_of_ble_eq_true rfl⟩) hK hP hD hS hA hE wp_12 (q0 := 0) (ci := 4) rfl rfl rfl rfl hl.1 rfl (Nat.le_of_ble_eq_true rfl) dX2_isSo_56 ⟨Nat.zero_le _, Nat.zero_le _⟩ (fun H locs hP hD hS => ?_)
    obtain ⟨u_8, e_8, h⟩ := bd_some h
    have J_8 : ∀ {H : Heap} {locs : List Loc} {ls : Array Slot}, va_P G vwCl (wN ca ev n0 n1 n2 n3 n4 n5 n6 n7 c0 c1 c2 c3 c4 c5 c6 order stepsAt doubts weights rows metEver bowedTo isStale bowCount doubtCount seenBows likeliest mostSayingsSo bsize bcells ssize scells dsize dcells people rule believed) H → va_D A (wN ca ev n0 n1 n2 n3 n4 n5 n6 n7 c0 c1 c2 c3 c4 c5 c6 order stepsAt doubts weights rows metEver bowedTo isStale bowCount doubtCount seenBows likeliest mostSayingsSo bsize bcells ssize scells dsize dcells people rule believed) → va_S A s.heap H locs → lv_has ls 7 [(6, .int u_6)] → (u_8 = 0 ∨ u_8 = 1) → W p l e rm_X2_isSo s m args below meth c H locs 0 0 Q (F0 m 67 ls [.int u_8]) := by
      intro H locs ls hP hD hS hl zj_8_0
      refine lv_iload hx hb dX2_isSo_67 (lv_at hl 0 rfl) ?_
      refine lv_icmp_ne (tgt := 76) hx hb dX2_isSo_69 (by decide) (fun c_9 => ?_) (fun c_9 => ?_)
      · have h := ifn c_9 h
        refine lv_iconst (v := (0 : Int32)) hx hb dX2_isSo_76 (by decide) ?_
        obtain rfl := Option.some.inj h
        exact hRet hP hD hS zb_0 dX2_isSo_77
      · have h := ifp c_9 h
        refine lv_iconst (v := (1 : Int32)) hx hb dX2_isSo_72 (by decide) ?_
        refine lv_goto (tgt := 77) hx hb dX2_isSo_73 (by decide) ?_
        obtain rfl := Option.some.inj h
        exact hRet hP hD hS zb_1 dX2_isSo_77
    have h := e_8
    clear e_8
    refine lv_icmp_ne (tgt := 66) hx hb dX2_isSo_59 (by decide) (fun c_8 => ?_) (fun c_8 => ?_)
    · have h := ifn c_8 h
      refine lv_iconst (v := (0 : Int32)) hx hb dX2_isSo_66 (by decide) ?_
      obtain rfl := Option.some.inj h
      exact J_8 hP hD hS (lv_sub hl [0] rfl) zb_0
    · have h := ifp c_8 h
      refine lv_iconst (v := (1 : Int32)) hx hb dX2_isSo_62 (by decide) ?_
      refine lv_goto (tgt := 67) hx hb dX2_isSo_63 (by decide) ?_
      obtain rfl := Option.some.inj h
      exact J_8 hP hD hS (lv_sub hl [0] rfl) zb_1
  have h := e_6
  clear e_6
  refine lv_icmp_ne (tgt := 48) hx hb dX2_isSo_41 (by decide) (fun c_6 => ?_) (fun c_6 => ?_)
  · have h := ifn c_6 h
    refine lv_iconst (v := (0 : Int32)) hx hb dX2_isSo_48 (by decide) ?_
    obtain rfl := Option.some.inj h
    exact J_6 hP hD hS (lv_sub hl [4, 2, 0] rfl) zb_0
  · have h := ifp c_6 h
    refine lv_iconst (v := (1 : Int32)) hx hb dX2_isSo_44 (by decide) ?_
    refine lv_goto (tgt := 49) hx hb dX2_isSo_45 (by decide) ?_
    obtain rfl := Option.some.inj h
    exact J_6 hP hD hS (lv_sub hl [4, 2, 0] rfl) zb_1
abbrev rm_X2_sayingsSo : Room := { frames := 2, cells := 0, slots := 0, locals := 48 }
theorem hd_X2_sayingsSo : yX2_sayingsSo.cls = RX2 ∧ yX2_sayingsSo.cls ≠ "java/lang/invoke/MethodHandle" ∧ yX2_sayingsSo.cls ≠ "java/lang/invoke/VarHandle" ∧ (parseMethodDescriptor yX2_sayingsSo.desc).map (fun d => d.parameters.length) = some 1 := by decide +kernel
set_option maxHeartbeats 4000000 in
set_option maxRecDepth 100000 in
theorem c_X2_sayingsSo {l : Launch} {G : va_G} {ca : Nat → ClassId} {ev : Nat → Nat} {n0 n1 n2 n3 n4 n5 n6 n7 c0 c1 c2 c3 c4 c5 c6 : Nat} {order : (Nat → Int32)} {stepsAt : (Nat → Int32)} {doubts : (Nat → Int32)} {weights : (Nat → Int32)} {rows : (Nat → Int32)} {metEver : (Nat → Int32)} {bowedTo : (Nat → Int32)} {isStale : Int32} {bowCount : Int32} {doubtCount : Int32} {seenBows : Int32} {likeliest : Int32} {mostSayingsSo : Int32} {bsize : Int32} {bcells : (Nat → Int32)} {ssize : Int32} {scells : (Nat → Int32)} {dsize : Int32} {dcells : (Nat → Int32)} {people : Int32} {rule : Int32} {believed : Int32} {a1 : Int32} {N : Nat} {res : Int32} (h : f_X2_sayingsSo N stepsAt rows ssize scells a1 = some res) : CtI l yX2_sayingsSo wsX2_sayingsSo rm_X2_sayingsSo G ca ev [.ref n0, .int a1] (wN ca ev n0 n1 n2 n3 n4 n5 n6 n7 c0 c1 c2 c3 c4 c5 c6 order stepsAt doubts weights rows metEver bowedTo isStale bowCount doubtCount seenBows likeliest mostSayingsSo bsize bcells ssize scells dsize dcells people rule believed) (wN ca ev n0 n1 n2 n3 n4 n5 n6 n7 c0 c1 c2 c3 c4 c5 c6 order stepsAt doubts weights rows metEver bowedTo isStale bowCount doubtCount seenBows likeliest mostSayingsSo bsize bcells ssize scells dsize dcells people rule believed) res := by
  unfold f_X2_sayingsSo at h
  refine en_i (by decide) rfl (Nat.le_of_ble_eq_true rfl) ?_
  intro p e s m args below meth c A Q H locs ls hx hb hml hown hts hA hP hK hD hE hS hl hRet
  have hown : s.vm.findClass RX2 = some m.cls := hown
  have hl : lv_has ls 3 [(0, .ref n0), (1, .int a1)] := hl
  have hin_X0 : ∀ w ∈ u_ws RX0 TX0 6, w ∈ wsX2_sayingsSo := fun w h9 => List.mem_cons_of_mem _ (List.mem_append_left _ (List.mem_append_right _ h9))
  have hin_X2 : ∀ w ∈ u_ws RX2 TX2 14, w ∈ wsX2_sayingsSo := fun w h9 => List.mem_cons_of_mem _ (List.mem_append_left _ (List.mem_append_left _ (List.mem_append_right _ h9)))
  have fk_122 := va_Nw.use (A := args) rfl (hE.1 ("MaskBows$Nights", 122, "MaskBows$Carnival", "sayings", "LMaskBows$Rows;", "MaskBows") (by decide +kernel))
  have fk_53 := hts (.fieldLink RX2 53 "MaskBows$Nights" "carnival" "LMaskBows$Carnival;") (by decide +kernel)
  refine lv_iconst (v := (0 : Int32)) hx hb dX2_sayingsSo_0 (by decide) ?_
  refine lv_istore_n (lv' := [(2, .int (0 : Int32)), (0, .ref n0), (1, .int a1)]) hx hb dX2_sayingsSo_1 rfl hl (by decide) rfl (fun ls hl => ?_)
  have L_2 : ∀ {x1_2 : Int32} {stepsAt_2 : (Nat → Int32)} {rows_2 : (Nat → Int32)} {ssize_2 : Int32} {scells_2 : (Nat → Int32)} (n_2 : Nat) {x2_2 : Int32} {uL_2 : Int32} {H : Heap} {locs : List Loc} {ls : Array Slot}, f_X2_sayingsSo_2 x1_2 stepsAt_2 rows_2 ssize_2 scells_2  n_2 x2_2 = some uL_2 → va_P G vwCl (wN ca ev n0 n1 n2 n3 n4 n5 n6 n7 c0 c1 c2 c3 c4 c5 c6 order stepsAt_2 doubts weights rows_2 metEver bowedTo isStale bowCount doubtCount seenBows likeliest mostSayingsSo bsize bcells ssize_2 scells_2 dsize dcells people rule believed) H → va_D A (wN ca ev n0 n1 n2 n3 n4 n5 n6 n7 c0 c1 c2 c3 c4 c5 c6 order stepsAt_2 doubts weights rows_2 metEver bowedTo isStale bowCount doubtCount seenBows likeliest mostSayingsSo bsize bcells ssize_2 scells_2 dsize dcells people rule believed) → va_S A s.heap H locs → lv_has ls 3 [(0, .ref n0), (1, .int x1_2), (2, .int x2_2)] → (∀ {H : Heap} {locs : List Loc} {ls : Array Slot}, va_P G vwCl (wN ca ev n0 n1 n2 n3 n4 n5 n6 n7 c0 c1 c2 c3 c4 c5 c6 order stepsAt_2 doubts weights rows_2 metEver bowedTo isStale bowCount doubtCount seenBows likeliest mostSayingsSo bsize bcells ssize_2 scells_2 dsize dcells people rule believed) H → va_D A (wN ca ev n0 n1 n2 n3 n4 n5 n6 n7 c0 c1 c2 c3 c4 c5 c6 order stepsAt_2 doubts weights rows_2 metEver bowedTo isStale bowCount doubtCount seenBows likeliest mostSayingsSo bsize bcells ssize_2 scells_2 dsize dcells people rule believed) → va_S A s.heap H locs → lv_has ls 3 [(2, .int uL_2)] → W p l e rm_X2_sayingsSo s m args below meth c H locs 0 0 Q (F0 m 31 ls [])) → W p l e rm_X2_sayingsSo s m args below meth c H locs 0 0 Q (F0 m 2 ls []) := by
    intro x1_2 stepsAt_2 rows_2 ssize_2 scells_2 n_2
    induction n_2 with
    | zero => intro x2_2 uL_2 H locs ls h; exact absurd h (by rw [f_X2_sayingsSo_2]; exact fun z => nomatch z)
    | succ n_2 ih =>
      intro x2_2 uL_2 H locs ls h hP hD hS hl JK_2
      rw [f_X2_sayingsSo_2] at h
      refine lv_iload_n hx hb dX2_sayingsSo_2 rfl (lv_at hl 2 rfl) ?_
      refine lv_aload_n hx hb dX2_sayingsSo_3 rfl (lv_at hl 0 rfl) ?_
      refine va_get (D := G) (ci := 2) (v := .ref c0) (C := RX2) (T := TX2) (N := 14) hx hb hts hin_X2 hown hK hP 0 rfl rfl 0 (by decide) fk_53 (fun _ h9 => h9) rfl dX2_sayingsSo_4 ?_
      refine va_getN (D := G) (ci := 0) (v := .ref c3) (C := RX0) (T := TX0) (N := 6) hx hb hts hin_X0 hown hK hP 8 rfl rfl 1 (by decide) fk_122 (fun _ h9 => h9) rfl dX2_sayingsSo_7 ?_
      obtain ⟨u_1, e_1, h⟩ := bd_some h
      refine cl_Vi (As := []) (rest := [.int x2_2]) (Wn := (wN ca ev n0 n1 n2 n3 n4 n5 n6 n7 c0 c1 c2 c3 c4 c5 c6 order stepsAt_2 doubts weights rows_2 metEver bowedTo isStale bowCount doubtCount seenBows likeliest mostSayingsSo bsize bcells ssize_2 scells_2 dsize dcells people rule believed)) ⟨hx, hb, hml, hown, hts⟩ (c_X4_size (ca := ca) (ev := ev) (r0 := c3) (r1 := c4) (limit := (10 : Int32)) (width := (4 : Int32)) (size := ssize_2) (cells := scells_2) (nc := 40) e_1) (cwV 0 hts gX2_sayingsSo_X4_size rfl rfl rfl hd_X4_size ⟨Nat.le_of_ble_eq_true rfl, Nat.le_of_ble_eq_true rfl⟩) hK hP hD hS hA hE wp_12 (q0 := 0) (ci := 4) rfl rfl rfl rfl hl.1 rfl (Nat.le_of_ble_eq_true rfl) dX2_sayingsSo_10 ⟨Nat.zero_le _, Nat.zero_le _⟩ (fun H locs hP hD hS => ?_)
      refine lv_icmp_ge (tgt := 31) hx hb dX2_sayingsSo_13 (by decide) (fun c_2 => ?_) (fun c_2 => ?_)
      · have h := ifp c_2 h
        obtain rfl := Option.some.inj h
        exact JK_2 hP hD hS (lv_sub hl [2] rfl)
      · have h := ifn c_2 h
        refine lv_aload_n hx hb dX2_sayingsSo_16 rfl (lv_at hl 0 rfl) ?_
        refine lv_iload_n hx hb dX2_sayingsSo_17 rfl (lv_at hl 2 rfl) ?_
        refine lv_iload_n hx hb dX2_sayingsSo_18 rfl (lv_at hl 1 rfl) ?_
        obtain ⟨u_3, e_3, h⟩ := bd_some h
        refine cm_Vi (As := [.int x2_2, .int x1_2]) (rest := []) ⟨hx, hb, hml, hown, hts⟩ (c_X2_isSo (ca := ca) (ev := ev) (n0 := n0) (n1 := n1) (n2 := n2) (n3 := n3) (n4 := n4) (n5 := n5) (n6 := n6) (n7 := n7) (c0 := c0) (c1 := c1) (c2 := c2) (c3 := c3) (c4 := c4) (c5 := c5) (c6 := c6) (order := order) (stepsAt := stepsAt_2) (doubts := doubts) (weights := weights) (rows := rows_2) (metEver := metEver) (bowedTo := bowedTo) (isStale := isStale) (bowCount := bowCount) (doubtCount := doubtCount) (seenBows := seenBows) (likeliest := likeliest) (mostSayingsSo := mostSayingsSo) (bsize := bsize) (bcells := bcells) (ssize := ssize_2) (scells := scells_2) (dsize := dsize) (dcells := dcells) (people := people) (rule := rule) (believed := believed) e_3) (cwV 2 hts gX2_sayingsSo_X2_isSo rfl rfl rfl hd_X2_isSo ⟨Nat.le_of_ble_eq_true rfl, Nat.le_of_ble_eq_true rfl⟩) hK hP hD hS hA hE (q0 := 0) (ci := 2) rfl rfl rfl rfl hl.1 rfl (Nat.le_of_ble_eq_true rfl) dX2_sayingsSo_19 ⟨Nat.zero_le _, Nat.zero_le _⟩ (fun H locs hP hD hS => ?_)
        refine lv_if_eq (tgt := 31) hx hb dX2_sayingsSo_22 (by decide) (fun c_4 => ?_) (fun c_4 => ?_)
        · have h := ifp c_4 h
          obtain rfl := Option.some.inj h
          exact JK_2 hP hD hS (lv_sub hl [2] rfl)
        · have h := ifn c_4 h
          refine lv_iinc (v := (x2_2 + (1 : Int32))) (lv' := [(2, .int (x2_2 + (1 : Int32))), (0, .ref n0), (1, .int x1_2)]) hx hb dX2_sayingsSo_25 hl (k := 2) rfl rfl (by decide) rfl (fun ls hl => ?_)
          refine lv_goto (tgt := 2) hx hb dX2_sayingsSo_28 (by decide) ?_
          exact ih h hP hD hS (lv_sub hl [1, 2, 0] rfl) JK_2
  obtain ⟨u_5, e_5, h⟩ := bd_some h
  refine L_2 _ e_5 hP hD hS (lv_sub hl [1, 2, 0] rfl) ?_
  intro H locs ls hP hD hS hl
  refine lv_iload_n hx hb dX2_sayingsSo_31 rfl (lv_at hl 0 rfl) ?_
  obtain rfl := Option.some.inj h
  exact hRet hP hD hS dX2_sayingsSo_32
abbrev rm_X2_judge : Room := { frames := 3, cells := 0, slots := 0, locals := 72 }
theorem hd_X2_judge : yX2_judge.cls = RX2 ∧ yX2_judge.cls ≠ "java/lang/invoke/MethodHandle" ∧ yX2_judge.cls ≠ "java/lang/invoke/VarHandle" ∧ (parseMethodDescriptor yX2_judge.desc).map (fun d => d.parameters.length) = some 2 := by decide +kernel
set_option maxHeartbeats 4000000 in
set_option maxRecDepth 100000 in
theorem c_X2_judge {l : Launch} {G : va_G} {ca : Nat → ClassId} {ev : Nat → Nat} {n0 n1 n2 n3 n4 n5 n6 n7 c0 c1 c2 c3 c4 c5 c6 : Nat} {order : (Nat → Int32)} {stepsAt : (Nat → Int32)} {doubts : (Nat → Int32)} {weights : (Nat → Int32)} {rows : (Nat → Int32)} {metEver : (Nat → Int32)} {bowedTo : (Nat → Int32)} {isStale : Int32} {bowCount : Int32} {doubtCount : Int32} {seenBows : Int32} {likeliest : Int32} {mostSayingsSo : Int32} {bsize : Int32} {bcells : (Nat → Int32)} {ssize : Int32} {scells : (Nat → Int32)} {dsize : Int32} {dcells : (Nat → Int32)} {people : Int32} {rule : Int32} {believed : Int32} {a1 : Int32} {a2 : Int32} {N : Nat} {res : (Nat → Int32) × (Nat → Int32) × (Nat → Int32) × (Nat → Int32) × Int32 × Int32} (h : f_X2_judge N order stepsAt doubts weights rows metEver bowedTo bowCount doubtCount seenBows likeliest mostSayingsSo bsize bcells ssize scells rule believed a1 a2 = some res) : CtV l yX2_judge wsX2_judge rm_X2_judge G ca ev [.ref n0, .int a1, .int a2] (wN ca ev n0 n1 n2 n3 n4 n5 n6 n7 c0 c1 c2 c3 c4 c5 c6 order stepsAt doubts weights rows metEver bowedTo isStale bowCount doubtCount seenBows likeliest mostSayingsSo bsize bcells ssize scells dsize dcells people rule believed) (wN ca ev n0 n1 n2 n3 n4 n5 n6 n7 c0 c1 c2 c3 c4 c5 c6 order stepsAt doubts res.1 res.2.1 res.2.2.1 res.2.2.2.1 isStale bowCount doubtCount seenBows res.2.2.2.2.1 res.2.2.2.2.2 bsize bcells ssize scells dsize dcells people rule believed) := by
  unfold f_X2_judge at h
  refine en_v (by decide) rfl (Nat.le_of_ble_eq_true rfl) ?_
  intro p e s m args below meth c A Q H locs ls hx hb hml hown hts hA hP hK hD hE hS hl hRet
  have hown : s.vm.findClass RX2 = some m.cls := hown
  have hl : lv_has ls 6 [(0, .ref n0), (1, .int a1), (2, .int a2)] := hl
  have hin_X0 : ∀ w ∈ u_ws RX0 TX0 6, w ∈ wsX2_judge := fun w h9 => List.mem_cons_of_mem _ (List.mem_append_left _ (List.mem_append_right _ h9))
  have hin_X2 : ∀ w ∈ u_ws RX2 TX2 14, w ∈ wsX2_judge := fun w h9 => List.mem_cons_of_mem _ (List.mem_append_left _ (List.mem_append_left _ (List.mem_append_right _ h9)))
  have fk_122 := va_Nw.use (A := args) rfl (hE.1 ("MaskBows$Nights", 122, "MaskBows$Carnival", "sayings", "LMaskBows$Rows;", "MaskBows") (by decide +kernel))
  have fk_153 := va_Nw.use (A := args) rfl (hE.1 ("MaskBows$Nights", 153, "MaskBows$Carnival", "rule", "Z", "MaskBows") (by decide +kernel))
  have fk_161 := va_Nw.use (A := args) rfl (hE.1 ("MaskBows$Nights", 161, "MaskBows$Carnival", "believed", "Z", "MaskBows") (by decide +kernel))
  have fk_21 := hts (.fieldLink RX2 21 "MaskBows$Nights" "weights" "[I") (by decide +kernel)
  have fk_27 := hts (.fieldLink RX2 27 "MaskBows$Nights" "metEver" "[I") (by decide +kernel)
  have fk_30 := hts (.fieldLink RX2 30 "MaskBows$Nights" "bowedTo" "[I") (by decide +kernel)
  have fk_47 := hts (.fieldLink RX2 47 "MaskBows$Nights" "likeliest" "I") (by decide +kernel)
  have fk_50 := hts (.fieldLink RX2 50 "MaskBows$Nights" "mostSayingsSo" "I") (by decide +kernel)
  have fk_53 := hts (.fieldLink RX2 53 "MaskBows$Nights" "carnival" "LMaskBows$Carnival;") (by decide +kernel)
  refine lv_iload_n hx hb dX2_judge_0 rfl (lv_at hl 2 rfl) ?_
  refine lv_if_ne (tgt := 5) hx hb dX2_judge_1 (by decide) (fun c_1 => ?_) (fun c_1 => ?_)
  · have h := ifn c_1 h
    refine lv_aload_n hx hb dX2_judge_5 rfl (lv_at hl 0 rfl) ?_
    refine lv_iload_n hx hb dX2_judge_6 rfl (lv_at hl 1 rfl) ?_
    obtain ⟨u_2, e_2, h⟩ := bd_some h
    refine cm_Vi (As := [.int a1]) (rest := []) ⟨hx, hb, hml, hown, hts⟩ (c_X2_makeBows (ca := ca) (ev := ev) (n0 := n0) (n1 := n1) (n2 := n2) (n3 := n3) (n4 := n4) (n5 := n5) (n6 := n6) (n7 := n7) (c0 := c0) (c1 := c1) (c2 := c2) (c3 := c3) (c4 := c4) (c5 := c5) (c6 := c6) (order := order) (stepsAt := stepsAt) (doubts := doubts) (weights := weights) (rows := rows) (metEver := metEver) (bowedTo := bowedTo) (isStale := isStale) (bowCount := bowCount) (doubtCount := doubtCount) (seenBows := seenBows) (likeliest := likeliest) (mostSayingsSo := mostSayingsSo) (bsize := bsize) (bcells := bcells) (ssize := ssize) (scells := scells) (dsize := dsize) (dcells := dcells) (people := people) (rule := rule) (believed := believed) e_2) (cwV 1 hts gX2_judge_X2_makeBows rfl rfl rfl hd_X2_makeBows ⟨Nat.le_of_ble_eq_true rfl, Nat.le_of_ble_eq_true rfl⟩) hK hP hD hS hA hE (q0 := 0) (ci := 2) rfl rfl rfl rfl hl.1 rfl (Nat.le_of_ble_eq_true rfl) dX2_judge_7 ⟨Nat.zero_le _, Nat.zero_le _⟩ (fun H locs hP hD hS => ?_)
    refine lv_istore_n (lv' := [(3, .int u_2.1), (0, .ref n0), (1, .int a1), (2, .int a2)]) hx hb dX2_judge_10 rfl hl (by decide) rfl (fun ls hl => ?_)
    refine lv_iload_n hx hb dX2_judge_11 rfl (lv_at hl 0 rfl) ?_
    obtain ⟨K_4, eK_4, h⟩ := jn_some h
    have J_4 : ∀ {u_4 : Unit} {H : Heap} {locs : List Loc} {ls : Array Slot}, K_4 u_4 = some res → va_P G vwCl (wN ca ev n0 n1 n2 n3 n4 n5 n6 n7 c0 c1 c2 c3 c4 c5 c6 order stepsAt doubts weights u_2.2.1 metEver u_2.2.2 isStale bowCount doubtCount seenBows likeliest mostSayingsSo bsize bcells ssize scells dsize dcells people rule believed) H → va_D A (wN ca ev n0 n1 n2 n3 n4 n5 n6 n7 c0 c1 c2 c3 c4 c5 c6 order stepsAt doubts weights u_2.2.1 metEver u_2.2.2 isStale bowCount doubtCount seenBows likeliest mostSayingsSo bsize bcells ssize scells dsize dcells people rule believed) → va_S A s.heap H locs → lv_has ls 6 [(0, .ref n0), (1, .int a1), (2, .int a2)] → W p l e rm_X2_judge s m args below meth c H locs 0 0 Q (F0 m 26 ls []) := by
      intro u_4 H locs ls h hP hD hS hl
      rw [eK_4] at h
      refine lv_aload_n hx hb dX2_judge_26 rfl (lv_at hl 0 rfl) ?_
      refine lv_iload_n hx hb dX2_judge_27 rfl (lv_at hl 1 rfl) ?_
      obtain ⟨u_7, e_7, h⟩ := bd_some h
      refine cm_Vi (As := [.int a1]) (rest := []) ⟨hx, hb, hml, hown, hts⟩ (c_X2_sayingsSo (ca := ca) (ev := ev) (n0 := n0) (n1 := n1) (n2 := n2) (n3 := n3) (n4 := n4) (n5 := n5) (n6 := n6) (n7 := n7) (c0 := c0) (c1 := c1) (c2 := c2) (c3 := c3) (c4 := c4) (c5 := c5) (c6 := c6) (order := order) (stepsAt := stepsAt) (doubts := doubts) (weights := weights) (rows := u_2.2.1) (metEver := metEver) (bowedTo := u_2.2.2) (isStale := isStale) (bowCount := bowCount) (doubtCount := doubtCount) (seenBows := seenBows) (likeliest := likeliest) (mostSayingsSo := mostSayingsSo) (bsize := bsize) (bcells := bcells) (ssize := ssize) (scells := scells) (dsize := dsize) (dcells := dcells) (people := people) (rule := rule) (believed := believed) e_7) (cwV 1 hts gX2_judge_X2_sayingsSo rfl rfl rfl hd_X2_sayingsSo ⟨Nat.le_of_ble_eq_true rfl, Nat.le_of_ble_eq_true rfl⟩) hK hP hD hS hA hE (q0 := 0) (ci := 2) rfl rfl rfl rfl hl.1 rfl (Nat.le_of_ble_eq_true rfl) dX2_judge_28 ⟨Nat.zero_le _, Nat.zero_le _⟩ (fun H locs hP hD hS => ?_)
      refine lv_istore (lv' := [(4, .int u_7), (0, .ref n0), (1, .int a1), (2, .int a2)]) hx hb dX2_judge_31 hl (by decide) rfl (fun ls hl => ?_)
      refine lv_aload_n hx hb dX2_judge_33 rfl (lv_at hl 1 rfl) ?_
      refine lv_aload_n hx hb dX2_judge_34 rfl (lv_at hl 1 rfl) ?_
      refine va_get (D := G) (ci := 2) (v := .int mostSayingsSo) (C := RX2) (T := TX2) (N := 14) hx hb hts hin_X2 hown hK hP 0 rfl rfl 13 (by decide) fk_50 (fun _ h9 => h9) rfl dX2_judge_35 ?_
      refine lv_iload hx hb dX2_judge_38 (lv_at hl 0 rfl) ?_
      refine va_mmax hx hb (hml.trans hl.1.symm) hown (hts (.methodLink RX2 159 Lib.Math.max.name) (by decide +kernel)) (hts (.static Lib.Math.max.name) (by decide +kernel)) (hts (.initialized "java/lang/Math") (by decide +kernel)) (hts (.code Lib.Math.max.name Lib.Math.max.code 2 (some .int)) (by decide +kernel)) (Nat.le_of_ble_eq_true rfl) (Nat.le_of_ble_eq_true rfl) (Nat.zero_le _) (Nat.zero_le _) dX2_judge_40 ?_
      refine va_put (D := G) (ci := 2) (v := .int (if mostSayingsSo < u_7 then u_7 else mostSayingsSo)) (ty := .int) (C := RX2) (T := TX2) (N := 14) hx hb hts hin_X2 tyX2 tyX2_ok nmX2 hown hK hP hD hS 0 rfl rfl 13 (by decide) fk_50 (fun _ h9 => h9) rfl (tyX2_ok 13 (by decide)) rfl rfl (Nat.le_of_ble_eq_true rfl) dX2_judge_43 (fun H locs hP hD hS => ?_)
      have hP : va_P G vwCl (wN ca ev n0 n1 n2 n3 n4 n5 n6 n7 c0 c1 c2 c3 c4 c5 c6 order stepsAt doubts weights u_2.2.1 metEver u_2.2.2 isStale bowCount doubtCount seenBows likeliest (if mostSayingsSo < u_7 then u_7 else mostSayingsSo) bsize bcells ssize scells dsize dcells people rule believed) H := hP
      have hD : va_D A (wN ca ev n0 n1 n2 n3 n4 n5 n6 n7 c0 c1 c2 c3 c4 c5 c6 order stepsAt doubts weights u_2.2.1 metEver u_2.2.2 isStale bowCount doubtCount seenBows likeliest (if mostSayingsSo < u_7 then u_7 else mostSayingsSo) bsize bcells ssize scells dsize dcells people rule believed) := hD
      refine lv_iload hx hb dX2_judge_46 (lv_at hl 0 rfl) ?_
      refine lv_aload_n hx hb dX2_judge_48 rfl (lv_at hl 1 rfl) ?_
      refine va_get (D := G) (ci := 2) (v := .ref c0) (C := RX2) (T := TX2) (N := 14) hx hb hts hin_X2 hown hK hP 0 rfl rfl 0 (by decide) fk_53 (fun _ h9 => h9) rfl dX2_judge_49 ?_
      refine va_getN (D := G) (ci := 0) (v := .ref c3) (C := RX0) (T := TX0) (N := 6) hx hb hts hin_X0 hown hK hP 8 rfl rfl 1 (by decide) fk_122 (fun _ h9 => h9) rfl dX2_judge_52 ?_
      obtain ⟨u_8, e_8, h⟩ := bd_some h
      refine cl_Vi (As := []) (rest := [.int u_7]) (Wn := (wN ca ev n0 n1 n2 n3 n4 n5 n6 n7 c0 c1 c2 c3 c4 c5 c6 order stepsAt doubts weights u_2.2.1 metEver u_2.2.2 isStale bowCount doubtCount seenBows likeliest (if mostSayingsSo < u_7 then u_7 else mostSayingsSo) bsize bcells ssize scells dsize dcells people rule believed)) ⟨hx, hb, hml, hown, hts⟩ (c_X4_size (ca := ca) (ev := ev) (r0 := c3) (r1 := c4) (limit := (10 : Int32)) (width := (4 : Int32)) (size := ssize) (cells := scells) (nc := 40) e_8) (cwV 0 hts gX2_judge_X4_size rfl rfl rfl hd_X4_size ⟨Nat.le_of_ble_eq_true rfl, Nat.le_of_ble_eq_true rfl⟩) hK hP hD hS hA hE wp_12 (q0 := 0) (ci := 4) rfl rfl rfl rfl hl.1 rfl (Nat.le_of_ble_eq_true rfl) dX2_judge_55 ⟨Nat.zero_le _, Nat.zero_le _⟩ (fun H locs hP hD hS => ?_)
      obtain ⟨K_10, eK_10, h⟩ := jn_some h
      have J_10 : ∀ {u_10 : Unit} {H : Heap} {locs : List Loc} {ls : Array Slot}, K_10 u_10 = some res → va_P G vwCl (wN ca ev n0 n1 n2 n3 n4 n5 n6 n7 c0 c1 c2 c3 c4 c5 c6 order stepsAt doubts weights u_2.2.1 metEver u_2.2.2 isStale bowCount doubtCount seenBows likeliest (if mostSayingsSo < u_7 then u_7 else mostSayingsSo) bsize bcells ssize scells dsize dcells people rule believed) H → va_D A (wN ca ev n0 n1 n2 n3 n4 n5 n6 n7 c0 c1 c2 c3 c4 c5 c6 order stepsAt doubts weights u_2.2.1 metEver u_2.2.2 isStale bowCount doubtCount seenBows likeliest (if mostSayingsSo < u_7 then u_7 else mostSayingsSo) bsize bcells ssize scells dsize dcells people rule believed) → va_S A s.heap H locs → lv_has ls 6 [(0, .ref n0), (1, .int a1), (2, .int a2)] → W p l e rm_X2_judge s m args below meth c H locs 0 0 Q (F0 m 72 ls []) := by
        intro u_10 H locs ls h hP hD hS hl
        rw [eK_10] at h
        refine lv_aload_n hx hb dX2_judge_72 rfl (lv_at hl 0 rfl) ?_
        refine va_get (D := G) (ci := 2) (v := .ref n4) (C := RX2) (T := TX2) (N := 14) hx hb hts hin_X2 hown hK hP 0 rfl rfl 4 (by decide) fk_21 (fun _ h9 => h9) rfl dX2_judge_73 ?_
        refine lv_iload_n hx hb dX2_judge_76 rfl (lv_at hl 1 rfl) ?_
        refine lv_iload_n hx hb dX2_judge_77 rfl (lv_at hl 2 rfl) ?_
        obtain ⟨i_13, h⟩ := gd_some h
        refine va_iast hx hb hK hP hD hS 4 0 rfl rfl (ix_in i_13) dX2_judge_78 (fun H locs hP hD hS => ?_)
        have hP : va_P G vwCl (wN ca ev n0 n1 n2 n3 n4 n5 n6 n7 c0 c1 c2 c3 c4 c5 c6 order stepsAt doubts (upd weights a1.toNatClampNeg a2) u_2.2.1 metEver u_2.2.2 isStale bowCount doubtCount seenBows likeliest (if mostSayingsSo < u_7 then u_7 else mostSayingsSo) bsize bcells ssize scells dsize dcells people rule believed) H := hP
        have hD : va_D A (wN ca ev n0 n1 n2 n3 n4 n5 n6 n7 c0 c1 c2 c3 c4 c5 c6 order stepsAt doubts (upd weights a1.toNatClampNeg a2) u_2.2.1 metEver u_2.2.2 isStale bowCount doubtCount seenBows likeliest (if mostSayingsSo < u_7 then u_7 else mostSayingsSo) bsize bcells ssize scells dsize dcells people rule believed) := hD
        refine lv_iconst (v := (0 : Int32)) hx hb dX2_judge_79 (by decide) ?_
        refine lv_istore (lv' := [(5, .int (0 : Int32)), (0, .ref n0), (1, .int a1), (2, .int a2)]) hx hb dX2_judge_80 hl (by decide) rfl (fun ls hl => ?_)
        have L_82 : ∀  {bowedTo_82 : (Nat → Int32)} (n_82 : Nat) {x5_82 : Int32} {metEver_82 : (Nat → Int32)} {uL_82 : (Nat → Int32)} {H : Heap} {locs : List Loc} {ls : Array Slot}, f_X2_judge_82 bowedTo_82  n_82 x5_82 metEver_82 = some uL_82 → va_P G vwCl (wN ca ev n0 n1 n2 n3 n4 n5 n6 n7 c0 c1 c2 c3 c4 c5 c6 order stepsAt doubts (upd weights a1.toNatClampNeg a2) u_2.2.1 metEver_82 bowedTo_82 isStale bowCount doubtCount seenBows likeliest (if mostSayingsSo < u_7 then u_7 else mostSayingsSo) bsize bcells ssize scells dsize dcells people rule believed) H → va_D A (wN ca ev n0 n1 n2 n3 n4 n5 n6 n7 c0 c1 c2 c3 c4 c5 c6 order stepsAt doubts (upd weights a1.toNatClampNeg a2) u_2.2.1 metEver_82 bowedTo_82 isStale bowCount doubtCount seenBows likeliest (if mostSayingsSo < u_7 then u_7 else mostSayingsSo) bsize bcells ssize scells dsize dcells people rule believed) → va_S A s.heap H locs → lv_has ls 6 [(0, .ref n0), (1, .int a1), (2, .int a2), (5, .int x5_82)] → (∀ {H : Heap} {locs : List Loc} {ls : Array Slot}, va_P G vwCl (wN ca ev n0 n1 n2 n3 n4 n5 n6 n7 c0 c1 c2 c3 c4 c5 c6 order stepsAt doubts (upd weights a1.toNatClampNeg a2) u_2.2.1 uL_82 bowedTo_82 isStale bowCount doubtCount seenBows likeliest (if mostSayingsSo < u_7 then u_7 else mostSayingsSo) bsize bcells ssize scells dsize dcells people rule believed) H → va_D A (wN ca ev n0 n1 n2 n3 n4 n5 n6 n7 c0 c1 c2 c3 c4 c5 c6 order stepsAt doubts (upd weights a1.toNatClampNeg a2) u_2.2.1 uL_82 bowedTo_82 isStale bowCount doubtCount seenBows likeliest (if mostSayingsSo < u_7 then u_7 else mostSayingsSo) bsize bcells ssize scells dsize dcells people rule believed) → va_S A s.heap H locs → lv_has ls 6 [(0, .ref n0), (1, .int a1), (2, .int a2)] → W p l e rm_X2_judge s m args below meth c H locs 0 0 Q (F0 m 112 ls [])) → W p l e rm_X2_judge s m args below meth c H locs 0 0 Q (F0 m 82 ls []) := by
          intro bowedTo_82 n_82
          induction n_82 with
          | zero => intro x5_82 metEver_82 uL_82 H locs ls h; exact absurd h (by rw [f_X2_judge_82]; exact fun z => nomatch z)
          | succ n_82 ih =>
            intro x5_82 metEver_82 uL_82 H locs ls h hP hD hS hl JK_82
            rw [f_X2_judge_82] at h
            refine lv_iload hx hb dX2_judge_82 (lv_at hl 3 rfl) ?_
            refine lv_bipush (v := (8 : Int32)) hx hb dX2_judge_84 (by decide) ?_
            refine lv_icmp_ge (tgt := 112) hx hb dX2_judge_86 (by decide) (fun c_14 => ?_) (fun c_14 => ?_)
            · have h := ifp c_14 h
              obtain rfl := Option.some.inj h
              exact JK_82 hP hD hS (lv_sub hl [0, 1, 2] rfl)
            · have h := ifn c_14 h
              refine lv_aload_n hx hb dX2_judge_89 rfl (lv_at hl 0 rfl) ?_
              refine va_get (D := G) (ci := 2) (v := .ref n6) (C := RX2) (T := TX2) (N := 14) hx hb hts hin_X2 hown hK hP 0 rfl rfl 6 (by decide) fk_27 (fun _ h9 => h9) rfl dX2_judge_90 ?_
              refine lv_iload hx hb dX2_judge_93 (lv_at hl 3 rfl) ?_
              refine lv_dup2_11 hx hb dX2_judge_95 rfl rfl ?_
              obtain ⟨i_15, h⟩ := gd_some h
              refine va_iald hx hb hK hP 6 0 rfl rfl (ix_in i_15) dX2_judge_96 ?_
              refine lv_aload_n hx hb dX2_judge_97 rfl (lv_at hl 0 rfl) ?_
              refine va_get (D := G) (ci := 2) (v := .ref n7) (C := RX2) (T := TX2) (N := 14) hx hb hts hin_X2 hown hK hP 0 rfl rfl 7 (by decide) fk_30 (fun _ h9 => h9) rfl dX2_judge_98 ?_
              refine lv_iload hx hb dX2_judge_101 (lv_at hl 3 rfl) ?_
              refine va_iald hx hb hK hP 7 0 rfl rfl (ix_in i_15) dX2_judge_103 ?_
              refine lv_ior hx hb dX2_judge_104 ?_
              refine va_iast hx hb hK hP hD hS 6 0 rfl rfl (ix_in i_15) dX2_judge_105 (fun H locs hP hD hS => ?_)
              have hP : va_P G vwCl (wN ca ev n0 n1 n2 n3 n4 n5 n6 n7 c0 c1 c2 c3 c4 c5 c6 order stepsAt doubts (upd weights a1.toNatClampNeg a2) u_2.2.1 (upd metEver_82 x5_82.toNatClampNeg ((metEver_82 x5_82.toNatClampNeg) ||| (bowedTo_82 x5_82.toNatClampNeg))) bowedTo_82 isStale bowCount doubtCount seenBows likeliest (if mostSayingsSo < u_7 then u_7 else mostSayingsSo) bsize bcells ssize scells dsize dcells people rule believed) H := hP
              have hD : va_D A (wN ca ev n0 n1 n2 n3 n4 n5 n6 n7 c0 c1 c2 c3 c4 c5 c6 order stepsAt doubts (upd weights a1.toNatClampNeg a2) u_2.2.1 (upd metEver_82 x5_82.toNatClampNeg ((metEver_82 x5_82.toNatClampNeg) ||| (bowedTo_82 x5_82.toNatClampNeg))) bowedTo_82 isStale bowCount doubtCount seenBows likeliest (if mostSayingsSo < u_7 then u_7 else mostSayingsSo) bsize bcells ssize scells dsize dcells people rule believed) := hD
              refine lv_iinc (v := (x5_82 + (1 : Int32))) (lv' := [(5, .int (x5_82 + (1 : Int32))), (0, .ref n0), (1, .int a1), (2, .int a2)]) hx hb dX2_judge_106 hl (k := 3) rfl rfl (by decide) rfl (fun ls hl => ?_)
              refine lv_goto (tgt := 82) hx hb dX2_judge_109 (by decide) ?_
              exact ih h hP hD hS (lv_sub hl [1, 2, 3, 0] rfl) JK_82
        obtain ⟨u_16, e_16, h⟩ := bd_some h
        refine L_82 _ e_16 hP hD hS (lv_sub hl [1, 2, 3, 0] rfl) ?_
        intro H locs ls hP hD hS hl
        refine lv_iload_n hx hb dX2_judge_112 rfl (lv_at hl 2 rfl) ?_
        refine lv_aload_n hx hb dX2_judge_113 rfl (lv_at hl 0 rfl) ?_
        refine lv_aload_n hx hb dX2_judge_114 rfl (lv_at hl 0 rfl) ?_
        refine va_get (D := G) (ci := 2) (v := .int likeliest) (C := RX2) (T := TX2) (N := 14) hx hb hts hin_X2 hown hK hP 0 rfl rfl 12 (by decide) fk_47 (fun _ h9 => h9) rfl dX2_judge_115 ?_
        obtain ⟨u_17, e_17, h⟩ := bd_some h
        refine cm_Vi (As := [.int likeliest]) (rest := [.int a2]) ⟨hx, hb, hml, hown, hts⟩ (c_X2_weight (ca := ca) (ev := ev) (n0 := n0) (n1 := n1) (n2 := n2) (n3 := n3) (n4 := n4) (n5 := n5) (n6 := n6) (n7 := n7) (c0 := c0) (c1 := c1) (c2 := c2) (c3 := c3) (c4 := c4) (c5 := c5) (c6 := c6) (order := order) (stepsAt := stepsAt) (doubts := doubts) (weights := (upd weights a1.toNatClampNeg a2)) (rows := u_2.2.1) (metEver := u_16) (bowedTo := u_2.2.2) (isStale := isStale) (bowCount := bowCount) (doubtCount := doubtCount) (seenBows := seenBows) (likeliest := likeliest) (mostSayingsSo := (if mostSayingsSo < u_7 then u_7 else mostSayingsSo)) (bsize := bsize) (bcells := bcells) (ssize := ssize) (scells := scells) (dsize := dsize) (dcells := dcells) (people := people) (rule := rule) (believed := believed) e_17) (cwV 1 hts gX2_judge_X2_weight rfl rfl rfl hd_X2_weight ⟨Nat.le_of_ble_eq_true rfl, Nat.le_of_ble_eq_true rfl⟩) hK hP hD hS hA hE (q0 := 0) (ci := 2) rfl rfl rfl rfl hl.1 rfl (Nat.le_of_ble_eq_true rfl) dX2_judge_118 ⟨Nat.zero_le _, Nat.zero_le _⟩ (fun H locs hP hD hS => ?_)
        refine lv_icmp_le (tgt := 129) hx hb dX2_judge_121 (by decide) (fun c_18 => ?_) (fun c_18 => ?_)
        · have h := ifp c_18 h
          obtain rfl := Option.some.inj h
          exact hRet hP hD hS dX2_judge_129
        · have h := ifn c_18 h
          refine lv_aload_n hx hb dX2_judge_124 rfl (lv_at hl 0 rfl) ?_
          refine lv_iload_n hx hb dX2_judge_125 rfl (lv_at hl 1 rfl) ?_
          refine va_put (D := G) (ci := 2) (v := .int a1) (ty := .int) (C := RX2) (T := TX2) (N := 14) hx hb hts hin_X2 tyX2 tyX2_ok nmX2 hown hK hP hD hS 0 rfl rfl 12 (by decide) fk_47 (fun _ h9 => h9) rfl (tyX2_ok 12 (by decide)) rfl rfl (Nat.le_of_ble_eq_true rfl) dX2_judge_126 (fun H locs hP hD hS => ?_)
          have hP : va_P G vwCl (wN ca ev n0 n1 n2 n3 n4 n5 n6 n7 c0 c1 c2 c3 c4 c5 c6 order stepsAt doubts (upd weights a1.toNatClampNeg a2) u_2.2.1 u_16 u_2.2.2 isStale bowCount doubtCount seenBows a1 (if mostSayingsSo < u_7 then u_7 else mostSayingsSo) bsize bcells ssize scells dsize dcells people rule believed) H := hP
          have hD : va_D A (wN ca ev n0 n1 n2 n3 n4 n5 n6 n7 c0 c1 c2 c3 c4 c5 c6 order stepsAt doubts (upd weights a1.toNatClampNeg a2) u_2.2.1 u_16 u_2.2.2 isStale bowCount doubtCount seenBows a1 (if mostSayingsSo < u_7 then u_7 else mostSayingsSo) bsize bcells ssize scells dsize dcells people rule believed) := hD
          obtain rfl := Option.some.inj h
          exact hRet hP hD hS dX2_judge_129
      clear eK_10
      refine lv_icmp_ge (tgt := 72) hx hb dX2_judge_58 (by decide) (fun c_11 => ?_) (fun c_11 => ?_)
      · have h := ifp c_11 h
        exact J_10 h hP hD hS (lv_sub hl [1, 2, 3] rfl)
      · have h := ifn c_11 h
        refine lv_aload_n hx hb dX2_judge_61 rfl (lv_at hl 1 rfl) ?_
        refine va_get (D := G) (ci := 2) (v := .ref c0) (C := RX2) (T := TX2) (N := 14) hx hb hts hin_X2 hown hK hP 0 rfl rfl 0 (by decide) fk_53 (fun _ h9 => h9) rfl dX2_judge_62 ?_
        refine va_getN (D := G) (ci := 0) (v := .int believed) (C := RX0) (T := TX0) (N := 6) hx hb hts hin_X0 hown hK hP 8 rfl rfl 5 (by decide) fk_161 (fun _ h9 => h9) rfl dX2_judge_65 ?_
        refine lv_if_eq (tgt := 72) hx hb dX2_judge_68 (by decide) (fun c_12 => ?_) (fun c_12 => ?_)
        · have h := ifp c_12 h
          exact J_10 h hP hD hS (lv_sub hl [1, 2, 3] rfl)
        · have h := ifn c_12 h
          obtain rfl := Option.some.inj h
          exact hRet hP hD hS dX2_judge_71
    clear eK_4
    refine lv_if_eq (tgt := 26) hx hb dX2_judge_12 (by decide) (fun c_5 => ?_) (fun c_5 => ?_)
    · have h := ifp c_5 h
      exact J_4 h hP hD hS (lv_sub hl [1, 2, 3] rfl)
    · have h := ifn c_5 h
      refine lv_aload_n hx hb dX2_judge_15 rfl (lv_at hl 1 rfl) ?_
      refine va_get (D := G) (ci := 2) (v := .ref c0) (C := RX2) (T := TX2) (N := 14) hx hb hts hin_X2 hown hK hP 0 rfl rfl 0 (by decide) fk_53 (fun _ h9 => h9) rfl dX2_judge_16 ?_
      refine va_getN (D := G) (ci := 0) (v := .int rule) (C := RX0) (T := TX0) (N := 6) hx hb hts hin_X0 hown hK hP 8 rfl rfl 4 (by decide) fk_153 (fun _ h9 => h9) rfl dX2_judge_19 ?_
      refine lv_if_eq (tgt := 26) hx hb dX2_judge_22 (by decide) (fun c_6 => ?_) (fun c_6 => ?_)
      · have h := ifp c_6 h
        exact J_4 h hP hD hS (lv_sub hl [1, 2, 3] rfl)
      · have h := ifn c_6 h
        obtain rfl := Option.some.inj h
        exact hRet hP hD hS dX2_judge_25
  · have h := ifp c_1 h
    obtain rfl := Option.some.inj h
    exact hRet hP hD hS dX2_judge_4
abbrev rm_X2_orderBows : Room := { frames := 2, cells := 0, slots := 0, locals := 43 }
theorem hd_X2_orderBows : yX2_orderBows.cls = RX2 ∧ yX2_orderBows.cls ≠ "java/lang/invoke/MethodHandle" ∧ yX2_orderBows.cls ≠ "java/lang/invoke/VarHandle" ∧ (parseMethodDescriptor yX2_orderBows.desc).map (fun d => d.parameters.length) = some 0 := by decide +kernel
set_option maxHeartbeats 4000000 in
set_option maxRecDepth 100000 in
theorem c_X2_orderBows {l : Launch} {G : va_G} {ca : Nat → ClassId} {ev : Nat → Nat} {n0 n1 n2 n3 n4 n5 n6 n7 c0 c1 c2 c3 c4 c5 c6 : Nat} {order : (Nat → Int32)} {stepsAt : (Nat → Int32)} {doubts : (Nat → Int32)} {weights : (Nat → Int32)} {rows : (Nat → Int32)} {metEver : (Nat → Int32)} {bowedTo : (Nat → Int32)} {isStale : Int32} {bowCount : Int32} {doubtCount : Int32} {seenBows : Int32} {likeliest : Int32} {mostSayingsSo : Int32} {bsize : Int32} {bcells : (Nat → Int32)} {ssize : Int32} {scells : (Nat → Int32)} {dsize : Int32} {dcells : (Nat → Int32)} {people : Int32} {rule : Int32} {believed : Int32}  {N : Nat} {res : (Nat → Int32)} (h : f_X2_orderBows N order bowCount bsize bcells = some res) : CtV l yX2_orderBows wsX2_orderBows rm_X2_orderBows G ca ev [.ref n0] (wN ca ev n0 n1 n2 n3 n4 n5 n6 n7 c0 c1 c2 c3 c4 c5 c6 order stepsAt doubts weights rows metEver bowedTo isStale bowCount doubtCount seenBows likeliest mostSayingsSo bsize bcells ssize scells dsize dcells people rule believed) (wN ca ev n0 n1 n2 n3 n4 n5 n6 n7 c0 c1 c2 c3 c4 c5 c6 res stepsAt doubts weights rows metEver bowedTo isStale bowCount doubtCount seenBows likeliest mostSayingsSo bsize bcells ssize scells dsize dcells people rule believed) := by
  unfold f_X2_orderBows at h
  refine en_v (by decide) rfl (Nat.le_of_ble_eq_true rfl) ?_
  intro p e s m args below meth c A Q H locs ls hx hb hml hown hts hA hP hK hD hE hS hl hRet
  have hown : s.vm.findClass RX2 = some m.cls := hown
  have hl : lv_has ls 3 [(0, .ref n0)] := hl
  have hin_X2 : ∀ w ∈ u_ws RX2 TX2 14, w ∈ wsX2_orderBows := fun w h9 => List.mem_cons_of_mem _ (List.mem_append_left _ (List.mem_append_left _ (List.mem_append_right _ h9)))
  have fk_37 := hts (.fieldLink RX2 37 "MaskBows$Nights" "bowCount" "I") (by decide +kernel)
  have fk_9 := hts (.fieldLink RX2 9 "MaskBows$Nights" "order" "[I") (by decide +kernel)
  refine lv_iconst (v := (0 : Int32)) hx hb dX2_orderBows_0 (by decide) ?_
  refine lv_istore_n (lv' := [(1, .int (0 : Int32)), (0, .ref n0)]) hx hb dX2_orderBows_1 rfl hl (by decide) rfl (fun ls hl => ?_)
  have L_2 : ∀  {bowCount_2 : Int32} {bsize_2 : Int32} {bcells_2 : (Nat → Int32)} (n_2 : Nat) {x1_2 : Int32} {order_2 : (Nat → Int32)} {uL_2 : (Nat → Int32)} {H : Heap} {locs : List Loc} {ls : Array Slot}, f_X2_orderBows_2 N bowCount_2 bsize_2 bcells_2  n_2 x1_2 order_2 = some uL_2 → va_P G vwCl (wN ca ev n0 n1 n2 n3 n4 n5 n6 n7 c0 c1 c2 c3 c4 c5 c6 order_2 stepsAt doubts weights rows metEver bowedTo isStale bowCount_2 doubtCount seenBows likeliest mostSayingsSo bsize_2 bcells_2 ssize scells dsize dcells people rule believed) H → va_D A (wN ca ev n0 n1 n2 n3 n4 n5 n6 n7 c0 c1 c2 c3 c4 c5 c6 order_2 stepsAt doubts weights rows metEver bowedTo isStale bowCount_2 doubtCount seenBows likeliest mostSayingsSo bsize_2 bcells_2 ssize scells dsize dcells people rule believed) → va_S A s.heap H locs → lv_has ls 3 [(0, .ref n0), (1, .int x1_2)] → (∀ {H : Heap} {locs : List Loc} {ls : Array Slot}, va_P G vwCl (wN ca ev n0 n1 n2 n3 n4 n5 n6 n7 c0 c1 c2 c3 c4 c5 c6 uL_2 stepsAt doubts weights rows metEver bowedTo isStale bowCount_2 doubtCount seenBows likeliest mostSayingsSo bsize_2 bcells_2 ssize scells dsize dcells people rule believed) H → va_D A (wN ca ev n0 n1 n2 n3 n4 n5 n6 n7 c0 c1 c2 c3 c4 c5 c6 uL_2 stepsAt doubts weights rows metEver bowedTo isStale bowCount_2 doubtCount seenBows likeliest mostSayingsSo bsize_2 bcells_2 ssize scells dsize dcells people rule believed) → va_S A s.heap H locs → lv_has ls 3 [] → W p l e rm_X2_orderBows s m args below meth c H locs 0 0 Q (F0 m 69 ls [])) → W p l e rm_X2_orderBows s m args below meth c H locs 0 0 Q (F0 m 2 ls []) := by
    intro bowCount_2 bsize_2 bcells_2 n_2
    induction n_2 with
    | zero => intro x1_2 order_2 uL_2 H locs ls h; exact absurd h (by rw [f_X2_orderBows_2]; exact fun z => nomatch z)
    | succ n_2 ih =>
      intro x1_2 order_2 uL_2 H locs ls h hP hD hS hl JK_2
      rw [f_X2_orderBows_2] at h
      refine lv_iload_n hx hb dX2_orderBows_2 rfl (lv_at hl 1 rfl) ?_
      refine lv_aload_n hx hb dX2_orderBows_3 rfl (lv_at hl 0 rfl) ?_
      refine va_get (D := G) (ci := 2) (v := .int bowCount_2) (C := RX2) (T := TX2) (N := 14) hx hb hts hin_X2 hown hK hP 0 rfl rfl 9 (by decide) fk_37 (fun _ h9 => h9) rfl dX2_orderBows_4 ?_
      refine lv_icmp_ge (tgt := 69) hx hb dX2_orderBows_7 (by decide) (fun c_1 => ?_) (fun c_1 => ?_)
      · have h := ifp c_1 h
        obtain rfl := Option.some.inj h
        exact JK_2 hP hD hS (lv_sub hl [] rfl)
      · have h := ifn c_1 h
        refine lv_iload_n hx hb dX2_orderBows_10 rfl (lv_at hl 1 rfl) ?_
        refine lv_istore_n (lv' := [(2, .int x1_2), (0, .ref n0), (1, .int x1_2)]) hx hb dX2_orderBows_11 rfl hl (by decide) rfl (fun ls hl => ?_)
        have L_12 : ∀ {x1_12 : Int32} {bsize_12 : Int32} {bcells_12 : (Nat → Int32)} (n_12 : Nat) {x2_12 : Int32} {order_12 : (Nat → Int32)} {uL_12 : Int32 × (Nat → Int32)} {H : Heap} {locs : List Loc} {ls : Array Slot}, f_X2_orderBows_12 x1_12 bsize_12 bcells_12  n_12 x2_12 order_12 = some uL_12 → va_P G vwCl (wN ca ev n0 n1 n2 n3 n4 n5 n6 n7 c0 c1 c2 c3 c4 c5 c6 order_12 stepsAt doubts weights rows metEver bowedTo isStale bowCount_2 doubtCount seenBows likeliest mostSayingsSo bsize_12 bcells_12 ssize scells dsize dcells people rule believed) H → va_D A (wN ca ev n0 n1 n2 n3 n4 n5 n6 n7 c0 c1 c2 c3 c4 c5 c6 order_12 stepsAt doubts weights rows metEver bowedTo isStale bowCount_2 doubtCount seenBows likeliest mostSayingsSo bsize_12 bcells_12 ssize scells dsize dcells people rule believed) → va_S A s.heap H locs → lv_has ls 3 [(0, .ref n0), (1, .int x1_12), (2, .int x2_12)] → (∀ {H : Heap} {locs : List Loc} {ls : Array Slot}, va_P G vwCl (wN ca ev n0 n1 n2 n3 n4 n5 n6 n7 c0 c1 c2 c3 c4 c5 c6 uL_12.2 stepsAt doubts weights rows metEver bowedTo isStale bowCount_2 doubtCount seenBows likeliest mostSayingsSo bsize_12 bcells_12 ssize scells dsize dcells people rule believed) H → va_D A (wN ca ev n0 n1 n2 n3 n4 n5 n6 n7 c0 c1 c2 c3 c4 c5 c6 uL_12.2 stepsAt doubts weights rows metEver bowedTo isStale bowCount_2 doubtCount seenBows likeliest mostSayingsSo bsize_12 bcells_12 ssize scells dsize dcells people rule believed) → va_S A s.heap H locs → lv_has ls 3 [(0, .ref n0), (1, .int x1_12), (2, .int uL_12.1)] → W p l e rm_X2_orderBows s m args below meth c H locs 0 0 Q (F0 m 56 ls [])) → W p l e rm_X2_orderBows s m args below meth c H locs 0 0 Q (F0 m 12 ls []) := by
          intro x1_12 bsize_12 bcells_12 n_12
          induction n_12 with
          | zero => intro x2_12 order_12 uL_12 H locs ls h; exact absurd h (by rw [f_X2_orderBows_12]; exact fun z => nomatch z)
          | succ n_12 ih =>
            intro x2_12 order_12 uL_12 H locs ls h hP hD hS hl JK_12
            rw [f_X2_orderBows_12] at h
            refine lv_iload_n hx hb dX2_orderBows_12 rfl (lv_at hl 2 rfl) ?_
            refine lv_if_le (tgt := 56) hx hb dX2_orderBows_13 (by decide) (fun c_2 => ?_) (fun c_2 => ?_)
            · have h := ifp c_2 h
              obtain rfl := Option.some.inj h
              exact JK_12 hP hD hS (lv_sub hl [0, 1, 2] rfl)
            · have h := ifn c_2 h
              refine lv_aload_n hx hb dX2_orderBows_16 rfl (lv_at hl 0 rfl) ?_
              refine lv_aload_n hx hb dX2_orderBows_17 rfl (lv_at hl 0 rfl) ?_
              refine va_get (D := G) (ci := 2) (v := .ref n1) (C := RX2) (T := TX2) (N := 14) hx hb hts hin_X2 hown hK hP 0 rfl rfl 1 (by decide) fk_9 (fun _ h9 => h9) rfl dX2_orderBows_18 ?_
              refine lv_iload_n hx hb dX2_orderBows_21 rfl (lv_at hl 2 rfl) ?_
              refine lv_iconst (v := (1 : Int32)) hx hb dX2_orderBows_22 (by decide) ?_
              refine lv_isub hx hb dX2_orderBows_23 ?_
              obtain ⟨i_3, h⟩ := gd_some h
              refine va_iald hx hb hK hP 1 0 rfl rfl (ix_in i_3) dX2_orderBows_24 ?_
              obtain ⟨u_4, e_4, h⟩ := bd_some h
              refine cm_Vi (As := [.int (order_12 (x2_12 - (1 : Int32)).toNatClampNeg)]) (rest := []) ⟨hx, hb, hml, hown, hts⟩ (c_X2_hourOf (ca := ca) (ev := ev) (n0 := n0) (n1 := n1) (n2 := n2) (n3 := n3) (n4 := n4) (n5 := n5) (n6 := n6) (n7 := n7) (c0 := c0) (c1 := c1) (c2 := c2) (c3 := c3) (c4 := c4) (c5 := c5) (c6 := c6) (order := order_12) (stepsAt := stepsAt) (doubts := doubts) (weights := weights) (rows := rows) (metEver := metEver) (bowedTo := bowedTo) (isStale := isStale) (bowCount := bowCount_2) (doubtCount := doubtCount) (seenBows := seenBows) (likeliest := likeliest) (mostSayingsSo := mostSayingsSo) (bsize := bsize_12) (bcells := bcells_12) (ssize := ssize) (scells := scells) (dsize := dsize) (dcells := dcells) (people := people) (rule := rule) (believed := believed) e_4) (cwV 1 hts gX2_orderBows_X2_hourOf rfl rfl rfl hd_X2_hourOf ⟨Nat.le_of_ble_eq_true rfl, Nat.le_of_ble_eq_true rfl⟩) hK hP hD hS hA hE (q0 := 0) (ci := 2) rfl rfl rfl rfl hl.1 rfl (Nat.le_of_ble_eq_true rfl) dX2_orderBows_25 ⟨Nat.zero_le _, Nat.zero_le _⟩ (fun H locs hP hD hS => ?_)
              refine lv_aload_n hx hb dX2_orderBows_28 rfl (lv_at hl 0 rfl) ?_
              refine lv_iload_n hx hb dX2_orderBows_29 rfl (lv_at hl 1 rfl) ?_
              obtain ⟨u_5, e_5, h⟩ := bd_some h
              refine cm_Vi (As := [.int x1_12]) (rest := [.int u_4]) ⟨hx, hb, hml, hown, hts⟩ (c_X2_hourOf (ca := ca) (ev := ev) (n0 := n0) (n1 := n1) (n2 := n2) (n3 := n3) (n4 := n4) (n5 := n5) (n6 := n6) (n7 := n7) (c0 := c0) (c1 := c1) (c2 := c2) (c3 := c3) (c4 := c4) (c5 := c5) (c6 := c6) (order := order_12) (stepsAt := stepsAt) (doubts := doubts) (weights := weights) (rows := rows) (metEver := metEver) (bowedTo := bowedTo) (isStale := isStale) (bowCount := bowCount_2) (doubtCount := doubtCount) (seenBows := seenBows) (likeliest := likeliest) (mostSayingsSo := mostSayingsSo) (bsize := bsize_12) (bcells := bcells_12) (ssize := ssize) (scells := scells) (dsize := dsize) (dcells := dcells) (people := people) (rule := rule) (believed := believed) e_5) (cwV 1 hts gX2_orderBows_X2_hourOf rfl rfl rfl hd_X2_hourOf ⟨Nat.le_of_ble_eq_true rfl, Nat.le_of_ble_eq_true rfl⟩) hK hP hD hS hA hE (q0 := 0) (ci := 2) rfl rfl rfl rfl hl.1 rfl (Nat.le_of_ble_eq_true rfl) dX2_orderBows_30 ⟨Nat.zero_le _, Nat.zero_le _⟩ (fun H locs hP hD hS => ?_)
              refine lv_icmp_le (tgt := 56) hx hb dX2_orderBows_33 (by decide) (fun c_6 => ?_) (fun c_6 => ?_)
              · have h := ifp c_6 h
                obtain rfl := Option.some.inj h
                exact JK_12 hP hD hS (lv_sub hl [0, 1, 2] rfl)
              · have h := ifn c_6 h
                refine lv_aload_n hx hb dX2_orderBows_36 rfl (lv_at hl 0 rfl) ?_
                refine va_get (D := G) (ci := 2) (v := .ref n1) (C := RX2) (T := TX2) (N := 14) hx hb hts hin_X2 hown hK hP 0 rfl rfl 1 (by decide) fk_9 (fun _ h9 => h9) rfl dX2_orderBows_37 ?_
                refine lv_iload_n hx hb dX2_orderBows_40 rfl (lv_at hl 2 rfl) ?_
                refine lv_aload_n hx hb dX2_orderBows_41 rfl (lv_at hl 0 rfl) ?_
                refine va_get (D := G) (ci := 2) (v := .ref n1) (C := RX2) (T := TX2) (N := 14) hx hb hts hin_X2 hown hK hP 0 rfl rfl 1 (by decide) fk_9 (fun _ h9 => h9) rfl dX2_orderBows_42 ?_
                refine lv_iload_n hx hb dX2_orderBows_45 rfl (lv_at hl 2 rfl) ?_
                refine lv_iconst (v := (1 : Int32)) hx hb dX2_orderBows_46 (by decide) ?_
                refine lv_isub hx hb dX2_orderBows_47 ?_
                refine va_iald hx hb hK hP 1 0 rfl rfl (ix_in i_3) dX2_orderBows_48 ?_
                obtain ⟨i_7, h⟩ := gd_some h
                refine va_iast hx hb hK hP hD hS 1 0 rfl rfl (ix_in i_7) dX2_orderBows_49 (fun H locs hP hD hS => ?_)
                have hP : va_P G vwCl (wN ca ev n0 n1 n2 n3 n4 n5 n6 n7 c0 c1 c2 c3 c4 c5 c6 (upd order_12 x2_12.toNatClampNeg (order_12 (x2_12 - (1 : Int32)).toNatClampNeg)) stepsAt doubts weights rows metEver bowedTo isStale bowCount_2 doubtCount seenBows likeliest mostSayingsSo bsize_12 bcells_12 ssize scells dsize dcells people rule believed) H := hP
                have hD : va_D A (wN ca ev n0 n1 n2 n3 n4 n5 n6 n7 c0 c1 c2 c3 c4 c5 c6 (upd order_12 x2_12.toNatClampNeg (order_12 (x2_12 - (1 : Int32)).toNatClampNeg)) stepsAt doubts weights rows metEver bowedTo isStale bowCount_2 doubtCount seenBows likeliest mostSayingsSo bsize_12 bcells_12 ssize scells dsize dcells people rule believed) := hD
                refine lv_iinc (v := (x2_12 + (-1 : Int32))) (lv' := [(2, .int (x2_12 + (-1 : Int32))), (0, .ref n0), (1, .int x1_12)]) hx hb dX2_orderBows_50 hl (k := 2) rfl rfl (by decide) rfl (fun ls hl => ?_)
                refine lv_goto (tgt := 12) hx hb dX2_orderBows_53 (by decide) ?_
                exact ih h hP hD hS (lv_sub hl [1, 2, 0] rfl) JK_12
        obtain ⟨u_8, e_8, h⟩ := bd_some h
        refine L_12 _ e_8 hP hD hS (lv_sub hl [1, 2, 0] rfl) ?_
        intro H locs ls hP hD hS hl
        refine lv_aload_n hx hb dX2_orderBows_56 rfl (lv_at hl 0 rfl) ?_
        refine va_get (D := G) (ci := 2) (v := .ref n1) (C := RX2) (T := TX2) (N := 14) hx hb hts hin_X2 hown hK hP 0 rfl rfl 1 (by decide) fk_9 (fun _ h9 => h9) rfl dX2_orderBows_57 ?_
        refine lv_iload_n hx hb dX2_orderBows_60 rfl (lv_at hl 2 rfl) ?_
        refine lv_iload_n hx hb dX2_orderBows_61 rfl (lv_at hl 1 rfl) ?_
        obtain ⟨i_9, h⟩ := gd_some h
        refine va_iast hx hb hK hP hD hS 1 0 rfl rfl (ix_in i_9) dX2_orderBows_62 (fun H locs hP hD hS => ?_)
        have hP : va_P G vwCl (wN ca ev n0 n1 n2 n3 n4 n5 n6 n7 c0 c1 c2 c3 c4 c5 c6 (upd u_8.2 u_8.1.toNatClampNeg x1_2) stepsAt doubts weights rows metEver bowedTo isStale bowCount_2 doubtCount seenBows likeliest mostSayingsSo bsize_2 bcells_2 ssize scells dsize dcells people rule believed) H := hP
        have hD : va_D A (wN ca ev n0 n1 n2 n3 n4 n5 n6 n7 c0 c1 c2 c3 c4 c5 c6 (upd u_8.2 u_8.1.toNatClampNeg x1_2) stepsAt doubts weights rows metEver bowedTo isStale bowCount_2 doubtCount seenBows likeliest mostSayingsSo bsize_2 bcells_2 ssize scells dsize dcells people rule believed) := hD
        refine lv_iinc (v := (x1_2 + (1 : Int32))) (lv' := [(1, .int (x1_2 + (1 : Int32))), (0, .ref n0), (2, .int u_8.1)]) hx hb dX2_orderBows_63 hl (k := 1) rfl rfl (by decide) rfl (fun ls hl => ?_)
        refine lv_goto (tgt := 2) hx hb dX2_orderBows_66 (by decide) ?_
        exact ih h hP hD hS (lv_sub hl [1, 0] rfl) JK_2
  obtain ⟨u_10, e_10, h⟩ := bd_some h
  refine L_2 _ e_10 hP hD hS (lv_sub hl [1, 0] rfl) ?_
  intro H locs ls hP hD hS hl
  obtain rfl := Option.some.inj h
  exact hRet hP hD hS dX2_orderBows_69
abbrev rm_X2_weightOf : Room := { frames := 1, cells := 0, slots := 0, locals := 22 }
theorem hd_X2_weightOf : yX2_weightOf.cls = RX2 ∧ yX2_weightOf.cls ≠ "java/lang/invoke/MethodHandle" ∧ yX2_weightOf.cls ≠ "java/lang/invoke/VarHandle" ∧ (parseMethodDescriptor yX2_weightOf.desc).map (fun d => d.parameters.length) = some 1 := by decide +kernel
set_option maxHeartbeats 4000000 in
set_option maxRecDepth 100000 in
theorem c_X2_weightOf {l : Launch} {G : va_G} {ca : Nat → ClassId} {ev : Nat → Nat} {n0 n1 n2 n3 n4 n5 n6 n7 c0 c1 c2 c3 c4 c5 c6 : Nat} {order : (Nat → Int32)} {stepsAt : (Nat → Int32)} {doubts : (Nat → Int32)} {weights : (Nat → Int32)} {rows : (Nat → Int32)} {metEver : (Nat → Int32)} {bowedTo : (Nat → Int32)} {isStale : Int32} {bowCount : Int32} {doubtCount : Int32} {seenBows : Int32} {likeliest : Int32} {mostSayingsSo : Int32} {bsize : Int32} {bcells : (Nat → Int32)} {ssize : Int32} {scells : (Nat → Int32)} {dsize : Int32} {dcells : (Nat → Int32)} {people : Int32} {rule : Int32} {believed : Int32} {a1 : Int32} {N : Nat} {res : Int32} (h : f_X2_weightOf N doubts doubtCount bsize bcells a1 = some res) : CtI l yX2_weightOf wsX2_weightOf rm_X2_weightOf G ca ev [.ref n0, .int a1] (wN ca ev n0 n1 n2 n3 n4 n5 n6 n7 c0 c1 c2 c3 c4 c5 c6 order stepsAt doubts weights rows metEver bowedTo isStale bowCount doubtCount seenBows likeliest mostSayingsSo bsize bcells ssize scells dsize dcells people rule believed) (wN ca ev n0 n1 n2 n3 n4 n5 n6 n7 c0 c1 c2 c3 c4 c5 c6 order stepsAt doubts weights rows metEver bowedTo isStale bowCount doubtCount seenBows likeliest mostSayingsSo bsize bcells ssize scells dsize dcells people rule believed) res := by
  unfold f_X2_weightOf at h
  refine en_i (by decide) rfl (Nat.le_of_ble_eq_true rfl) ?_
  intro p e s m args below meth c A Q H locs ls hx hb hml hown hts hA hP hK hD hE hS hl hRet
  have hown : s.vm.findClass RX2 = some m.cls := hown
  have hl : lv_has ls 5 [(0, .ref n0), (1, .int a1)] := hl
  have hin_X0 : ∀ w ∈ u_ws RX0 TX0 6, w ∈ wsX2_weightOf := fun w h9 => List.mem_cons_of_mem _ (List.mem_append_left _ (List.mem_append_right _ h9))
  have hin_X2 : ∀ w ∈ u_ws RX2 TX2 14, w ∈ wsX2_weightOf := fun w h9 => List.mem_cons_of_mem _ (List.mem_append_left _ (List.mem_append_left _ (List.mem_append_right _ h9)))
  have fk_18 := hts (.fieldLink RX2 18 "MaskBows$Nights" "doubts" "[I") (by decide +kernel)
  have fk_41 := hts (.fieldLink RX2 41 "MaskBows$Nights" "doubtCount" "I") (by decide +kernel)
  have fk_53 := hts (.fieldLink RX2 53 "MaskBows$Nights" "carnival" "LMaskBows$Carnival;") (by decide +kernel)
  have fk_57 := va_Nw.use (A := args) rfl (hE.1 ("MaskBows$Nights", 57, "MaskBows$Carnival", "bows", "LMaskBows$Rows;", "MaskBows") (by decide +kernel))
  refine lv_iconst (v := (1 : Int32)) hx hb dX2_weightOf_0 (by decide) ?_
  refine lv_istore_n (lv' := [(2, .int (1 : Int32)), (0, .ref n0), (1, .int a1)]) hx hb dX2_weightOf_1 rfl hl (by decide) rfl (fun ls hl => ?_)
  refine lv_iconst (v := (0 : Int32)) hx hb dX2_weightOf_2 (by decide) ?_
  refine lv_istore_n (lv' := [(3, .int (0 : Int32)), (2, .int (1 : Int32)), (0, .ref n0), (1, .int a1)]) hx hb dX2_weightOf_3 rfl hl (by decide) rfl (fun ls hl => ?_)
  have L_4 : ∀ {x1_4 : Int32} {doubts_4 : (Nat → Int32)} {doubtCount_4 : Int32} {bsize_4 : Int32} {bcells_4 : (Nat → Int32)} (n_4 : Nat) {x2_4 : Int32} {x3_4 : Int32} {uL_4 : Int32} {H : Heap} {locs : List Loc} {ls : Array Slot}, f_X2_weightOf_4 x1_4 doubts_4 doubtCount_4 bsize_4 bcells_4  n_4 x2_4 x3_4 = some uL_4 → va_P G vwCl (wN ca ev n0 n1 n2 n3 n4 n5 n6 n7 c0 c1 c2 c3 c4 c5 c6 order stepsAt doubts_4 weights rows metEver bowedTo isStale bowCount doubtCount_4 seenBows likeliest mostSayingsSo bsize_4 bcells_4 ssize scells dsize dcells people rule believed) H → va_D A (wN ca ev n0 n1 n2 n3 n4 n5 n6 n7 c0 c1 c2 c3 c4 c5 c6 order stepsAt doubts_4 weights rows metEver bowedTo isStale bowCount doubtCount_4 seenBows likeliest mostSayingsSo bsize_4 bcells_4 ssize scells dsize dcells people rule believed) → va_S A s.heap H locs → lv_has ls 5 [(0, .ref n0), (1, .int x1_4), (2, .int x2_4), (3, .int x3_4)] → (∀ {H : Heap} {locs : List Loc} {ls : Array Slot}, va_P G vwCl (wN ca ev n0 n1 n2 n3 n4 n5 n6 n7 c0 c1 c2 c3 c4 c5 c6 order stepsAt doubts_4 weights rows metEver bowedTo isStale bowCount doubtCount_4 seenBows likeliest mostSayingsSo bsize_4 bcells_4 ssize scells dsize dcells people rule believed) H → va_D A (wN ca ev n0 n1 n2 n3 n4 n5 n6 n7 c0 c1 c2 c3 c4 c5 c6 order stepsAt doubts_4 weights rows metEver bowedTo isStale bowCount doubtCount_4 seenBows likeliest mostSayingsSo bsize_4 bcells_4 ssize scells dsize dcells people rule believed) → va_S A s.heap H locs → lv_has ls 5 [(2, .int uL_4)] → W p l e rm_X2_weightOf s m args below meth c H locs 0 0 Q (F0 m 59 ls [])) → W p l e rm_X2_weightOf s m args below meth c H locs 0 0 Q (F0 m 4 ls []) := by
    intro x1_4 doubts_4 doubtCount_4 bsize_4 bcells_4 n_4
    induction n_4 with
    | zero => intro x2_4 x3_4 uL_4 H locs ls h; exact absurd h (by rw [f_X2_weightOf_4]; exact fun z => nomatch z)
    | succ n_4 ih =>
      intro x2_4 x3_4 uL_4 H locs ls h hP hD hS hl JK_4
      rw [f_X2_weightOf_4] at h
      refine lv_iload_n hx hb dX2_weightOf_4 rfl (lv_at hl 3 rfl) ?_
      refine lv_aload_n hx hb dX2_weightOf_5 rfl (lv_at hl 0 rfl) ?_
      refine va_get (D := G) (ci := 2) (v := .int doubtCount_4) (C := RX2) (T := TX2) (N := 14) hx hb hts hin_X2 hown hK hP 0 rfl rfl 10 (by decide) fk_41 (fun _ h9 => h9) rfl dX2_weightOf_6 ?_
      refine lv_icmp_ge (tgt := 59) hx hb dX2_weightOf_9 (by decide) (fun c_1 => ?_) (fun c_1 => ?_)
      · have h := ifp c_1 h
        obtain rfl := Option.some.inj h
        exact JK_4 hP hD hS (lv_sub hl [2] rfl)
      · have h := ifn c_1 h
        refine lv_aload_n hx hb dX2_weightOf_12 rfl (lv_at hl 0 rfl) ?_
        refine va_get (D := G) (ci := 2) (v := .ref c0) (C := RX2) (T := TX2) (N := 14) hx hb hts hin_X2 hown hK hP 0 rfl rfl 0 (by decide) fk_53 (fun _ h9 => h9) rfl dX2_weightOf_13 ?_
        refine va_getN (D := G) (ci := 0) (v := .ref c1) (C := RX0) (T := TX0) (N := 6) hx hb hts hin_X0 hown hK hP 8 rfl rfl 0 (by decide) fk_57 (fun _ h9 => h9) rfl dX2_weightOf_16 ?_
        refine lv_aload_n hx hb dX2_weightOf_19 rfl (lv_at hl 0 rfl) ?_
        refine va_get (D := G) (ci := 2) (v := .ref n3) (C := RX2) (T := TX2) (N := 14) hx hb hts hin_X2 hown hK hP 0 rfl rfl 3 (by decide) fk_18 (fun _ h9 => h9) rfl dX2_weightOf_20 ?_
        refine lv_iload_n hx hb dX2_weightOf_23 rfl (lv_at hl 3 rfl) ?_
        obtain ⟨i_2, h⟩ := gd_some h
        refine va_iald hx hb hK hP 3 0 rfl rfl (ix_in i_2) dX2_weightOf_24 ?_
        refine lv_iconst (v := (3 : Int32)) hx hb dX2_weightOf_25 (by decide) ?_
        obtain ⟨u_3, e_3, h⟩ := bd_some h
        refine cl_Vi (As := [.int (doubts_4 x3_4.toNatClampNeg), .int (3 : Int32)]) (rest := []) (Wn := (wN ca ev n0 n1 n2 n3 n4 n5 n6 n7 c0 c1 c2 c3 c4 c5 c6 order stepsAt doubts_4 weights rows metEver bowedTo isStale bowCount doubtCount_4 seenBows likeliest mostSayingsSo bsize_4 bcells_4 ssize scells dsize dcells people rule believed)) ⟨hx, hb, hml, hown, hts⟩ (c_X4_cell (ca := ca) (ev := ev) (r0 := c1) (r1 := c2) (limit := (20 : Int32)) (width := (4 : Int32)) (size := bsize_4) (cells := bcells_4) (nc := 80) e_3) (cwV 2 hts gX2_weightOf_X4_cell rfl rfl rfl hd_X4_cell ⟨Nat.le_of_ble_eq_true rfl, Nat.le_of_ble_eq_true rfl⟩) hK hP hD hS hA hE wp_10 (q0 := 0) (ci := 4) rfl rfl rfl rfl hl.1 rfl (Nat.le_of_ble_eq_true rfl) dX2_weightOf_26 ⟨Nat.zero_le _, Nat.zero_le _⟩ (fun H locs hP hD hS => ?_)
        refine lv_istore (lv' := [(4, .int u_3), (0, .ref n0), (1, .int x1_4), (2, .int x2_4), (3, .int x3_4)]) hx hb dX2_weightOf_29 hl (by decide) rfl (fun ls hl => ?_)
        refine lv_iload_n hx hb dX2_weightOf_31 rfl (lv_at hl 3 rfl) ?_
        refine lv_iload_n hx hb dX2_weightOf_32 rfl (lv_at hl 2 rfl) ?_
        refine lv_iload_n hx hb dX2_weightOf_33 rfl (lv_at hl 4 rfl) ?_
        refine lv_ishr hx hb dX2_weightOf_34 ?_
        refine lv_iconst (v := (1 : Int32)) hx hb dX2_weightOf_35 (by decide) ?_
        refine lv_iand hx hb dX2_weightOf_36 ?_
        refine lv_iconst (v := (1 : Int32)) hx hb dX2_weightOf_37 (by decide) ?_
        obtain ⟨u_4, e_4, h⟩ := bd_some h
        have J_4 : ∀ {H : Heap} {locs : List Loc} {ls : Array Slot}, va_P G vwCl (wN ca ev n0 n1 n2 n3 n4 n5 n6 n7 c0 c1 c2 c3 c4 c5 c6 order stepsAt doubts_4 weights rows metEver bowedTo isStale bowCount doubtCount_4 seenBows likeliest mostSayingsSo bsize_4 bcells_4 ssize scells dsize dcells people rule believed) H → va_D A (wN ca ev n0 n1 n2 n3 n4 n5 n6 n7 c0 c1 c2 c3 c4 c5 c6 order stepsAt doubts_4 weights rows metEver bowedTo isStale bowCount doubtCount_4 seenBows likeliest mostSayingsSo bsize_4 bcells_4 ssize scells dsize dcells people rule believed) → va_S A s.heap H locs → lv_has ls 5 [(0, .ref n0), (1, .int x1_4), (3, .int x3_4)] → W p l e rm_X2_weightOf s m args below meth c H locs 0 0 Q (F0 m 51 ls [.int u_4, .int x2_4]) := by
          intro H locs ls hP hD hS hl 
          refine lv_imul hx hb dX2_weightOf_51 ?_
          refine lv_istore_n (lv' := [(2, .int (x2_4 * u_4)), (0, .ref n0), (1, .int x1_4), (3, .int x3_4)]) hx hb dX2_weightOf_52 rfl hl (by decide) rfl (fun ls hl => ?_)
          refine lv_iinc (v := (x3_4 + (1 : Int32))) (lv' := [(3, .int (x3_4 + (1 : Int32))), (2, .int (x2_4 * u_4)), (0, .ref n0), (1, .int x1_4)]) hx hb dX2_weightOf_53 hl (k := 3) rfl rfl (by decide) rfl (fun ls hl => ?_)
          refine lv_goto (tgt := 4) hx hb dX2_weightOf_56 (by decide) ?_
          exact ih h hP hD hS (lv_sub hl [2, 3, 1, 0] rfl) JK_4
        have h := e_4
        clear e_4
        refine lv_icmp_ne (tgt := 46) hx hb dX2_weightOf_38 (by decide) (fun c_4 => ?_) (fun c_4 => ?_)
        · have h := ifn c_4 h
          refine lv_bipush (v := (10 : Int32)) hx hb dX2_weightOf_46 (by decide) ?_
          refine lv_iload hx hb dX2_weightOf_48 (lv_at hl 0 rfl) ?_
          refine lv_isub hx hb dX2_weightOf_50 ?_
          obtain rfl := Option.some.inj h
          exact J_4 hP hD hS (lv_sub hl [1, 2, 4] rfl)
        · have h := ifp c_4 h
          refine lv_iload hx hb dX2_weightOf_41 (lv_at hl 0 rfl) ?_
          refine lv_goto (tgt := 51) hx hb dX2_weightOf_43 (by decide) ?_
          obtain rfl := Option.some.inj h
          exact J_4 hP hD hS (lv_sub hl [1, 2, 4] rfl)
  obtain ⟨u_5, e_5, h⟩ := bd_some h
  refine L_4 _ e_5 hP hD hS (lv_sub hl [2, 3, 1, 0] rfl) ?_
  intro H locs ls hP hD hS hl
  refine lv_iload_n hx hb dX2_weightOf_59 rfl (lv_at hl 0 rfl) ?_
  obtain rfl := Option.some.inj h
  exact hRet hP hD hS dX2_weightOf_60
abbrev rm_X2_lookAnew : Room := { frames := 4, cells := 0, slots := 0, locals := 97 }
theorem hd_X2_lookAnew : yX2_lookAnew.cls = RX2 ∧ yX2_lookAnew.cls ≠ "java/lang/invoke/MethodHandle" ∧ yX2_lookAnew.cls ≠ "java/lang/invoke/VarHandle" ∧ (parseMethodDescriptor yX2_lookAnew.desc).map (fun d => d.parameters.length) = some 0 := by decide +kernel
set_option maxHeartbeats 4000000 in
set_option maxRecDepth 100000 in
theorem c_X2_lookAnew {l : Launch} {G : va_G} {ca : Nat → ClassId} {ev : Nat → Nat} {n0 n1 n2 n3 n4 n5 n6 n7 c0 c1 c2 c3 c4 c5 c6 : Nat} {order : (Nat → Int32)} {stepsAt : (Nat → Int32)} {doubts : (Nat → Int32)} {weights : (Nat → Int32)} {rows : (Nat → Int32)} {metEver : (Nat → Int32)} {bowedTo : (Nat → Int32)} {isStale : Int32} {bowCount : Int32} {doubtCount : Int32} {seenBows : Int32} {likeliest : Int32} {mostSayingsSo : Int32} {bsize : Int32} {bcells : (Nat → Int32)} {ssize : Int32} {scells : (Nat → Int32)} {dsize : Int32} {dcells : (Nat → Int32)} {people : Int32} {rule : Int32} {believed : Int32}  {N : Nat} {res : (Nat → Int32) × (Nat → Int32) × (Nat → Int32) × (Nat → Int32) × (Nat → Int32) × (Nat → Int32) × (Nat → Int32) × Int32 × Int32 × Int32 × Int32 × Int32 × Int32} (h : f_X2_lookAnew N order stepsAt doubts weights rows metEver bowedTo isStale bowCount doubtCount seenBows likeliest mostSayingsSo bsize bcells ssize scells rule believed = some res) : CtV l yX2_lookAnew wsX2_lookAnew rm_X2_lookAnew G ca ev [.ref n0] (wN ca ev n0 n1 n2 n3 n4 n5 n6 n7 c0 c1 c2 c3 c4 c5 c6 order stepsAt doubts weights rows metEver bowedTo isStale bowCount doubtCount seenBows likeliest mostSayingsSo bsize bcells ssize scells dsize dcells people rule believed) (wN ca ev n0 n1 n2 n3 n4 n5 n6 n7 c0 c1 c2 c3 c4 c5 c6 res.1 res.2.1 res.2.2.1 res.2.2.2.1 res.2.2.2.2.1 res.2.2.2.2.2.1 res.2.2.2.2.2.2.1 res.2.2.2.2.2.2.2.1 res.2.2.2.2.2.2.2.2.1 res.2.2.2.2.2.2.2.2.2.1 res.2.2.2.2.2.2.2.2.2.2.1 res.2.2.2.2.2.2.2.2.2.2.2.1 res.2.2.2.2.2.2.2.2.2.2.2.2 bsize bcells ssize scells dsize dcells people rule believed) := by
  unfold f_X2_lookAnew at h
  refine en_v (by decide) rfl (Nat.le_of_ble_eq_true rfl) ?_
  intro p e s m args below meth c A Q H locs ls hx hb hml hown hts hA hP hK hD hE hS hl hRet
  have hown : s.vm.findClass RX2 = some m.cls := hown
  have hl : lv_has ls 2 [(0, .ref n0)] := hl
  have hin_X0 : ∀ w ∈ u_ws RX0 TX0 6, w ∈ wsX2_lookAnew := fun w h9 => List.mem_cons_of_mem _ (List.mem_append_left _ (List.mem_append_right _ h9))
  have hin_X2 : ∀ w ∈ u_ws RX2 TX2 14, w ∈ wsX2_lookAnew := fun w h9 => List.mem_cons_of_mem _ (List.mem_append_left _ (List.mem_append_left _ (List.mem_append_right _ h9)))
  have fk_21 := hts (.fieldLink RX2 21 "MaskBows$Nights" "weights" "[I") (by decide +kernel)
  have fk_27 := hts (.fieldLink RX2 27 "MaskBows$Nights" "metEver" "[I") (by decide +kernel)
  have fk_33 := hts (.fieldLink RX2 33 "MaskBows$Nights" "isStale" "Z") (by decide +kernel)
  have fk_37 := hts (.fieldLink RX2 37 "MaskBows$Nights" "bowCount" "I") (by decide +kernel)
  have fk_47 := hts (.fieldLink RX2 47 "MaskBows$Nights" "likeliest" "I") (by decide +kernel)
  have fk_50 := hts (.fieldLink RX2 50 "MaskBows$Nights" "mostSayingsSo" "I") (by decide +kernel)
  have fk_53 := hts (.fieldLink RX2 53 "MaskBows$Nights" "carnival" "LMaskBows$Carnival;") (by decide +kernel)
  have fk_57 := va_Nw.use (A := args) rfl (hE.1 ("MaskBows$Nights", 57, "MaskBows$Carnival", "bows", "LMaskBows$Rows;", "MaskBows") (by decide +kernel))
  refine lv_aload_n hx hb dX2_lookAnew_0 rfl (lv_at hl 0 rfl) ?_
  refine va_get (D := G) (ci := 2) (v := .int isStale) (C := RX2) (T := TX2) (N := 14) hx hb hts hin_X2 hown hK hP 0 rfl rfl 8 (by decide) fk_33 (fun _ h9 => h9) rfl dX2_lookAnew_1 ?_
  refine lv_if_ne (tgt := 8) hx hb dX2_lookAnew_4 (by decide) (fun c_1 => ?_) (fun c_1 => ?_)
  · have h := ifn c_1 h
    refine lv_aload_n hx hb dX2_lookAnew_8 rfl (lv_at hl 0 rfl) ?_
    refine lv_iconst (v := (0 : Int32)) hx hb dX2_lookAnew_9 (by decide) ?_
    refine va_put (D := G) (ci := 2) (v := .int (0 : Int32)) (ty := .boolean) (C := RX2) (T := TX2) (N := 14) hx hb hts hin_X2 tyX2 tyX2_ok nmX2 hown hK hP hD hS 0 rfl rfl 8 (by decide) fk_33 (fun _ h9 => h9) rfl (tyX2_ok 8 (by decide)) (zb_nar zb_0) (zb_fit zb_0) (Nat.le_of_ble_eq_true rfl) dX2_lookAnew_10 (fun H locs hP hD hS => ?_)
    have hP : va_P G vwCl (wN ca ev n0 n1 n2 n3 n4 n5 n6 n7 c0 c1 c2 c3 c4 c5 c6 order stepsAt doubts weights rows metEver bowedTo (0 : Int32) bowCount doubtCount seenBows likeliest mostSayingsSo bsize bcells ssize scells dsize dcells people rule believed) H := hP
    have hD : va_D A (wN ca ev n0 n1 n2 n3 n4 n5 n6 n7 c0 c1 c2 c3 c4 c5 c6 order stepsAt doubts weights rows metEver bowedTo (0 : Int32) bowCount doubtCount seenBows likeliest mostSayingsSo bsize bcells ssize scells dsize dcells people rule believed) := hD
    refine lv_aload_n hx hb dX2_lookAnew_13 rfl (lv_at hl 0 rfl) ?_
    refine lv_aload_n hx hb dX2_lookAnew_14 rfl (lv_at hl 0 rfl) ?_
    refine va_get (D := G) (ci := 2) (v := .ref c0) (C := RX2) (T := TX2) (N := 14) hx hb hts hin_X2 hown hK hP 0 rfl rfl 0 (by decide) fk_53 (fun _ h9 => h9) rfl dX2_lookAnew_15 ?_
    refine va_getN (D := G) (ci := 0) (v := .ref c1) (C := RX0) (T := TX0) (N := 6) hx hb hts hin_X0 hown hK hP 8 rfl rfl 0 (by decide) fk_57 (fun _ h9 => h9) rfl dX2_lookAnew_18 ?_
    obtain ⟨u_2, e_2, h⟩ := bd_some h
    refine cl_Vi (As := []) (rest := [.ref n0]) (Wn := (wN ca ev n0 n1 n2 n3 n4 n5 n6 n7 c0 c1 c2 c3 c4 c5 c6 order stepsAt doubts weights rows metEver bowedTo (0 : Int32) bowCount doubtCount seenBows likeliest mostSayingsSo bsize bcells ssize scells dsize dcells people rule believed)) ⟨hx, hb, hml, hown, hts⟩ (c_X4_size (ca := ca) (ev := ev) (r0 := c1) (r1 := c2) (limit := (20 : Int32)) (width := (4 : Int32)) (size := bsize) (cells := bcells) (nc := 80) e_2) (cwV 0 hts gX2_lookAnew_X4_size rfl rfl rfl hd_X4_size ⟨Nat.le_of_ble_eq_true rfl, Nat.le_of_ble_eq_true rfl⟩) hK hP hD hS hA hE wp_10 (q0 := 0) (ci := 4) rfl rfl rfl rfl hl.1 rfl (Nat.le_of_ble_eq_true rfl) dX2_lookAnew_21 ⟨Nat.zero_le _, Nat.zero_le _⟩ (fun H locs hP hD hS => ?_)
    refine lv_bipush (v := (20 : Int32)) hx hb dX2_lookAnew_24 (by decide) ?_
    refine va_mmin hx hb (hml.trans hl.1.symm) hown (hts (.methodLink RX2 69 Lib.Math.min.name) (by decide +kernel)) (hts (.static Lib.Math.min.name) (by decide +kernel)) (hts (.initialized "java/lang/Math") (by decide +kernel)) (hts (.code Lib.Math.min.name Lib.Math.min.code 2 (some .int)) (by decide +kernel)) (Nat.le_of_ble_eq_true rfl) (Nat.le_of_ble_eq_true rfl) (Nat.zero_le _) (Nat.zero_le _) dX2_lookAnew_26 ?_
    refine va_put (D := G) (ci := 2) (v := .int (if (20 : Int32) < u_2 then (20 : Int32) else u_2)) (ty := .int) (C := RX2) (T := TX2) (N := 14) hx hb hts hin_X2 tyX2 tyX2_ok nmX2 hown hK hP hD hS 0 rfl rfl 9 (by decide) fk_37 (fun _ h9 => h9) rfl (tyX2_ok 9 (by decide)) rfl rfl (Nat.le_of_ble_eq_true rfl) dX2_lookAnew_29 (fun H locs hP hD hS => ?_)
    have hP : va_P G vwCl (wN ca ev n0 n1 n2 n3 n4 n5 n6 n7 c0 c1 c2 c3 c4 c5 c6 order stepsAt doubts weights rows metEver bowedTo (0 : Int32) (if (20 : Int32) < u_2 then (20 : Int32) else u_2) doubtCount seenBows likeliest mostSayingsSo bsize bcells ssize scells dsize dcells people rule believed) H := hP
    have hD : va_D A (wN ca ev n0 n1 n2 n3 n4 n5 n6 n7 c0 c1 c2 c3 c4 c5 c6 order stepsAt doubts weights rows metEver bowedTo (0 : Int32) (if (20 : Int32) < u_2 then (20 : Int32) else u_2) doubtCount seenBows likeliest mostSayingsSo bsize bcells ssize scells dsize dcells people rule believed) := hD
    refine lv_aload_n hx hb dX2_lookAnew_32 rfl (lv_at hl 0 rfl) ?_
    obtain ⟨u_3, e_3, h⟩ := bd_some h
    refine cm_Vv (As := []) (rest := []) ⟨hx, hb, hml, hown, hts⟩ (c_X2_orderBows (ca := ca) (ev := ev) (n0 := n0) (n1 := n1) (n2 := n2) (n3 := n3) (n4 := n4) (n5 := n5) (n6 := n6) (n7 := n7) (c0 := c0) (c1 := c1) (c2 := c2) (c3 := c3) (c4 := c4) (c5 := c5) (c6 := c6) (order := order) (stepsAt := stepsAt) (doubts := doubts) (weights := weights) (rows := rows) (metEver := metEver) (bowedTo := bowedTo) (isStale := (0 : Int32)) (bowCount := (if (20 : Int32) < u_2 then (20 : Int32) else u_2)) (doubtCount := doubtCount) (seenBows := seenBows) (likeliest := likeliest) (mostSayingsSo := mostSayingsSo) (bsize := bsize) (bcells := bcells) (ssize := ssize) (scells := scells) (dsize := dsize) (dcells := dcells) (people := people) (rule := rule) (believed := believed) e_3) (cwV 0 hts gX2_lookAnew_X2_orderBows rfl rfl rfl hd_X2_orderBows ⟨Nat.le_of_ble_eq_true rfl, Nat.le_of_ble_eq_true rfl⟩) hK hP hD hS hA hE (q0 := 0) (ci := 2) rfl rfl rfl rfl hl.1 rfl (Nat.le_of_ble_eq_true rfl) dX2_lookAnew_33 ⟨Nat.zero_le _, Nat.zero_le _⟩ (fun H locs hP hD hS => ?_)
    refine lv_aload_n hx hb dX2_lookAnew_36 rfl (lv_at hl 0 rfl) ?_
    obtain ⟨u_4, e_4, h⟩ := bd_some h
    refine cm_Vv (As := []) (rest := []) ⟨hx, hb, hml, hown, hts⟩ (c_X2_countSteps (ca := ca) (ev := ev) (n0 := n0) (n1 := n1) (n2 := n2) (n3 := n3) (n4 := n4) (n5 := n5) (n6 := n6) (n7 := n7) (c0 := c0) (c1 := c1) (c2 := c2) (c3 := c3) (c4 := c4) (c5 := c5) (c6 := c6) (order := u_3) (stepsAt := stepsAt) (doubts := doubts) (weights := weights) (rows := rows) (metEver := metEver) (bowedTo := bowedTo) (isStale := (0 : Int32)) (bowCount := (if (20 : Int32) < u_2 then (20 : Int32) else u_2)) (doubtCount := doubtCount) (seenBows := seenBows) (likeliest := likeliest) (mostSayingsSo := mostSayingsSo) (bsize := bsize) (bcells := bcells) (ssize := ssize) (scells := scells) (dsize := dsize) (dcells := dcells) (people := people) (rule := rule) (believed := believed) e_4) (cwV 0 hts gX2_lookAnew_X2_countSteps rfl rfl rfl hd_X2_countSteps ⟨Nat.le_of_ble_eq_true rfl, Nat.le_of_ble_eq_true rfl⟩) hK hP hD hS hA hE (q0 := 0) (ci := 2) rfl rfl rfl rfl hl.1 rfl (Nat.le_of_ble_eq_true rfl) dX2_lookAnew_37 ⟨Nat.zero_le _, Nat.zero_le _⟩ (fun H locs hP hD hS => ?_)
    refine lv_aload_n hx hb dX2_lookAnew_40 rfl (lv_at hl 0 rfl) ?_
    obtain ⟨u_5, e_5, h⟩ := bd_some h
    refine cm_Vv (As := []) (rest := []) ⟨hx, hb, hml, hown, hts⟩ (c_X2_findDoubts (ca := ca) (ev := ev) (n0 := n0) (n1 := n1) (n2 := n2) (n3 := n3) (n4 := n4) (n5 := n5) (n6 := n6) (n7 := n7) (c0 := c0) (c1 := c1) (c2 := c2) (c3 := c3) (c4 := c4) (c5 := c5) (c6 := c6) (order := u_3) (stepsAt := u_4) (doubts := doubts) (weights := weights) (rows := rows) (metEver := metEver) (bowedTo := bowedTo) (isStale := (0 : Int32)) (bowCount := (if (20 : Int32) < u_2 then (20 : Int32) else u_2)) (doubtCount := doubtCount) (seenBows := seenBows) (likeliest := likeliest) (mostSayingsSo := mostSayingsSo) (bsize := bsize) (bcells := bcells) (ssize := ssize) (scells := scells) (dsize := dsize) (dcells := dcells) (people := people) (rule := rule) (believed := believed) e_5) (cwV 0 hts gX2_lookAnew_X2_findDoubts rfl rfl rfl hd_X2_findDoubts ⟨Nat.le_of_ble_eq_true rfl, Nat.le_of_ble_eq_true rfl⟩) hK hP hD hS hA hE (q0 := 0) (ci := 2) rfl rfl rfl rfl hl.1 rfl (Nat.le_of_ble_eq_true rfl) dX2_lookAnew_41 ⟨Nat.zero_le _, Nat.zero_le _⟩ (fun H locs hP hD hS => ?_)
    refine lv_aload_n hx hb dX2_lookAnew_44 rfl (lv_at hl 0 rfl) ?_
    refine lv_iconst (v := (-1 : Int32)) hx hb dX2_lookAnew_45 (by decide) ?_
    refine va_put (D := G) (ci := 2) (v := .int (-1 : Int32)) (ty := .int) (C := RX2) (T := TX2) (N := 14) hx hb hts hin_X2 tyX2 tyX2_ok nmX2 hown hK hP hD hS 0 rfl rfl 12 (by decide) fk_47 (fun _ h9 => h9) rfl (tyX2_ok 12 (by decide)) rfl rfl (Nat.le_of_ble_eq_true rfl) dX2_lookAnew_46 (fun H locs hP hD hS => ?_)
    have hP : va_P G vwCl (wN ca ev n0 n1 n2 n3 n4 n5 n6 n7 c0 c1 c2 c3 c4 c5 c6 u_3 u_4 u_5.1 weights rows metEver bowedTo (0 : Int32) (if (20 : Int32) < u_2 then (20 : Int32) else u_2) u_5.2.1 u_5.2.2 (-1 : Int32) mostSayingsSo bsize bcells ssize scells dsize dcells people rule believed) H := hP
    have hD : va_D A (wN ca ev n0 n1 n2 n3 n4 n5 n6 n7 c0 c1 c2 c3 c4 c5 c6 u_3 u_4 u_5.1 weights rows metEver bowedTo (0 : Int32) (if (20 : Int32) < u_2 then (20 : Int32) else u_2) u_5.2.1 u_5.2.2 (-1 : Int32) mostSayingsSo bsize bcells ssize scells dsize dcells people rule believed) := hD
    refine lv_aload_n hx hb dX2_lookAnew_49 rfl (lv_at hl 0 rfl) ?_
    refine lv_iconst (v := (0 : Int32)) hx hb dX2_lookAnew_50 (by decide) ?_
    refine va_put (D := G) (ci := 2) (v := .int (0 : Int32)) (ty := .int) (C := RX2) (T := TX2) (N := 14) hx hb hts hin_X2 tyX2 tyX2_ok nmX2 hown hK hP hD hS 0 rfl rfl 13 (by decide) fk_50 (fun _ h9 => h9) rfl (tyX2_ok 13 (by decide)) rfl rfl (Nat.le_of_ble_eq_true rfl) dX2_lookAnew_51 (fun H locs hP hD hS => ?_)
    have hP : va_P G vwCl (wN ca ev n0 n1 n2 n3 n4 n5 n6 n7 c0 c1 c2 c3 c4 c5 c6 u_3 u_4 u_5.1 weights rows metEver bowedTo (0 : Int32) (if (20 : Int32) < u_2 then (20 : Int32) else u_2) u_5.2.1 u_5.2.2 (-1 : Int32) (0 : Int32) bsize bcells ssize scells dsize dcells people rule believed) H := hP
    have hD : va_D A (wN ca ev n0 n1 n2 n3 n4 n5 n6 n7 c0 c1 c2 c3 c4 c5 c6 u_3 u_4 u_5.1 weights rows metEver bowedTo (0 : Int32) (if (20 : Int32) < u_2 then (20 : Int32) else u_2) u_5.2.1 u_5.2.2 (-1 : Int32) (0 : Int32) bsize bcells ssize scells dsize dcells people rule believed) := hD
    refine lv_iconst (v := (0 : Int32)) hx hb dX2_lookAnew_54 (by decide) ?_
    refine lv_istore_n (lv' := [(1, .int (0 : Int32)), (0, .ref n0)]) hx hb dX2_lookAnew_55 rfl hl (by decide) rfl (fun ls hl => ?_)
    have L_56 : ∀   (n_56 : Nat) {x1_56 : Int32} {metEver_56 : (Nat → Int32)} {uL_56 : (Nat → Int32)} {H : Heap} {locs : List Loc} {ls : Array Slot}, f_X2_lookAnew_56   n_56 x1_56 metEver_56 = some uL_56 → va_P G vwCl (wN ca ev n0 n1 n2 n3 n4 n5 n6 n7 c0 c1 c2 c3 c4 c5 c6 u_3 u_4 u_5.1 weights rows metEver_56 bowedTo (0 : Int32) (if (20 : Int32) < u_2 then (20 : Int32) else u_2) u_5.2.1 u_5.2.2 (-1 : Int32) (0 : Int32) bsize bcells ssize scells dsize dcells people rule believed) H → va_D A (wN ca ev n0 n1 n2 n3 n4 n5 n6 n7 c0 c1 c2 c3 c4 c5 c6 u_3 u_4 u_5.1 weights rows metEver_56 bowedTo (0 : Int32) (if (20 : Int32) < u_2 then (20 : Int32) else u_2) u_5.2.1 u_5.2.2 (-1 : Int32) (0 : Int32) bsize bcells ssize scells dsize dcells people rule believed) → va_S A s.heap H locs → lv_has ls 2 [(0, .ref n0), (1, .int x1_56)] → (∀ {H : Heap} {locs : List Loc} {ls : Array Slot}, va_P G vwCl (wN ca ev n0 n1 n2 n3 n4 n5 n6 n7 c0 c1 c2 c3 c4 c5 c6 u_3 u_4 u_5.1 weights rows uL_56 bowedTo (0 : Int32) (if (20 : Int32) < u_2 then (20 : Int32) else u_2) u_5.2.1 u_5.2.2 (-1 : Int32) (0 : Int32) bsize bcells ssize scells dsize dcells people rule believed) H → va_D A (wN ca ev n0 n1 n2 n3 n4 n5 n6 n7 c0 c1 c2 c3 c4 c5 c6 u_3 u_4 u_5.1 weights rows uL_56 bowedTo (0 : Int32) (if (20 : Int32) < u_2 then (20 : Int32) else u_2) u_5.2.1 u_5.2.2 (-1 : Int32) (0 : Int32) bsize bcells ssize scells dsize dcells people rule believed) → va_S A s.heap H locs → lv_has ls 2 [(0, .ref n0)] → W p l e rm_X2_lookAnew s m args below meth c H locs 0 0 Q (F0 m 75 ls [])) → W p l e rm_X2_lookAnew s m args below meth c H locs 0 0 Q (F0 m 56 ls []) := by
      intro n_56
      induction n_56 with
      | zero => intro x1_56 metEver_56 uL_56 H locs ls h; exact absurd h (by rw [f_X2_lookAnew_56]; exact fun z => nomatch z)
      | succ n_56 ih =>
        intro x1_56 metEver_56 uL_56 H locs ls h hP hD hS hl JK_56
        rw [f_X2_lookAnew_56] at h
        refine lv_iload_n hx hb dX2_lookAnew_56 rfl (lv_at hl 1 rfl) ?_
        refine lv_bipush (v := (8 : Int32)) hx hb dX2_lookAnew_57 (by decide) ?_
        refine lv_icmp_ge (tgt := 75) hx hb dX2_lookAnew_59 (by decide) (fun c_6 => ?_) (fun c_6 => ?_)
        · have h := ifp c_6 h
          obtain rfl := Option.some.inj h
          exact JK_56 hP hD hS (lv_sub hl [0] rfl)
        · have h := ifn c_6 h
          refine lv_aload_n hx hb dX2_lookAnew_62 rfl (lv_at hl 0 rfl) ?_
          refine va_get (D := G) (ci := 2) (v := .ref n6) (C := RX2) (T := TX2) (N := 14) hx hb hts hin_X2 hown hK hP 0 rfl rfl 6 (by decide) fk_27 (fun _ h9 => h9) rfl dX2_lookAnew_63 ?_
          refine lv_iload_n hx hb dX2_lookAnew_66 rfl (lv_at hl 1 rfl) ?_
          refine lv_iconst (v := (0 : Int32)) hx hb dX2_lookAnew_67 (by decide) ?_
          obtain ⟨i_7, h⟩ := gd_some h
          refine va_iast hx hb hK hP hD hS 6 0 rfl rfl (ix_in i_7) dX2_lookAnew_68 (fun H locs hP hD hS => ?_)
          have hP : va_P G vwCl (wN ca ev n0 n1 n2 n3 n4 n5 n6 n7 c0 c1 c2 c3 c4 c5 c6 u_3 u_4 u_5.1 weights rows (upd metEver_56 x1_56.toNatClampNeg (0 : Int32)) bowedTo (0 : Int32) (if (20 : Int32) < u_2 then (20 : Int32) else u_2) u_5.2.1 u_5.2.2 (-1 : Int32) (0 : Int32) bsize bcells ssize scells dsize dcells people rule believed) H := hP
          have hD : va_D A (wN ca ev n0 n1 n2 n3 n4 n5 n6 n7 c0 c1 c2 c3 c4 c5 c6 u_3 u_4 u_5.1 weights rows (upd metEver_56 x1_56.toNatClampNeg (0 : Int32)) bowedTo (0 : Int32) (if (20 : Int32) < u_2 then (20 : Int32) else u_2) u_5.2.1 u_5.2.2 (-1 : Int32) (0 : Int32) bsize bcells ssize scells dsize dcells people rule believed) := hD
          refine lv_iinc (v := (x1_56 + (1 : Int32))) (lv' := [(1, .int (x1_56 + (1 : Int32))), (0, .ref n0)]) hx hb dX2_lookAnew_69 hl (k := 1) rfl rfl (by decide) rfl (fun ls hl => ?_)
          refine lv_goto (tgt := 56) hx hb dX2_lookAnew_72 (by decide) ?_
          exact ih h hP hD hS (lv_sub hl [1, 0] rfl) JK_56
    obtain ⟨u_8, e_8, h⟩ := bd_some h
    refine L_56 _ e_8 hP hD hS (lv_sub hl [1, 0] rfl) ?_
    intro H locs ls hP hD hS hl
    refine lv_iconst (v := (0 : Int32)) hx hb dX2_lookAnew_75 (by decide) ?_
    refine lv_istore_n (lv' := [(1, .int (0 : Int32)), (0, .ref n0)]) hx hb dX2_lookAnew_76 rfl hl (by decide) rfl (fun ls hl => ?_)
    have L_77 : ∀  {order_77 : (Nat → Int32)} {stepsAt_77 : (Nat → Int32)} {doubts_77 : (Nat → Int32)} {bowCount_77 : Int32} {doubtCount_77 : Int32} {seenBows_77 : Int32} {bsize_77 : Int32} {bcells_77 : (Nat → Int32)} {ssize_77 : Int32} {scells_77 : (Nat → Int32)} {rule_77 : Int32} {believed_77 : Int32} (n_77 : Nat) {x1_77 : Int32} {weights_77 : (Nat → Int32)} {rows_77 : (Nat → Int32)} {metEver_77 : (Nat → Int32)} {bowedTo_77 : (Nat → Int32)} {likeliest_77 : Int32} {mostSayingsSo_77 : Int32} {uL_77 : (Nat → Int32) × (Nat → Int32) × (Nat → Int32) × (Nat → Int32) × Int32 × Int32} {H : Heap} {locs : List Loc} {ls : Array Slot}, f_X2_lookAnew_77 N order_77 stepsAt_77 doubts_77 bowCount_77 doubtCount_77 seenBows_77 bsize_77 bcells_77 ssize_77 scells_77 rule_77 believed_77  n_77 x1_77 weights_77 rows_77 metEver_77 bowedTo_77 likeliest_77 mostSayingsSo_77 = some uL_77 → va_P G vwCl (wN ca ev n0 n1 n2 n3 n4 n5 n6 n7 c0 c1 c2 c3 c4 c5 c6 order_77 stepsAt_77 doubts_77 weights_77 rows_77 metEver_77 bowedTo_77 (0 : Int32) bowCount_77 doubtCount_77 seenBows_77 likeliest_77 mostSayingsSo_77 bsize_77 bcells_77 ssize_77 scells_77 dsize dcells people rule_77 believed_77) H → va_D A (wN ca ev n0 n1 n2 n3 n4 n5 n6 n7 c0 c1 c2 c3 c4 c5 c6 order_77 stepsAt_77 doubts_77 weights_77 rows_77 metEver_77 bowedTo_77 (0 : Int32) bowCount_77 doubtCount_77 seenBows_77 likeliest_77 mostSayingsSo_77 bsize_77 bcells_77 ssize_77 scells_77 dsize dcells people rule_77 believed_77) → va_S A s.heap H locs → lv_has ls 2 [(0, .ref n0), (1, .int x1_77)] → (∀ {H : Heap} {locs : List Loc} {ls : Array Slot}, va_P G vwCl (wN ca ev n0 n1 n2 n3 n4 n5 n6 n7 c0 c1 c2 c3 c4 c5 c6 order_77 stepsAt_77 doubts_77 uL_77.1 uL_77.2.1 uL_77.2.2.1 uL_77.2.2.2.1 (0 : Int32) bowCount_77 doubtCount_77 seenBows_77 uL_77.2.2.2.2.1 uL_77.2.2.2.2.2 bsize_77 bcells_77 ssize_77 scells_77 dsize dcells people rule_77 believed_77) H → va_D A (wN ca ev n0 n1 n2 n3 n4 n5 n6 n7 c0 c1 c2 c3 c4 c5 c6 order_77 stepsAt_77 doubts_77 uL_77.1 uL_77.2.1 uL_77.2.2.1 uL_77.2.2.2.1 (0 : Int32) bowCount_77 doubtCount_77 seenBows_77 uL_77.2.2.2.2.1 uL_77.2.2.2.2.2 bsize_77 bcells_77 ssize_77 scells_77 dsize dcells people rule_77 believed_77) → va_S A s.heap H locs → lv_has ls 2 [] → W p l e rm_X2_lookAnew s m args below meth c H locs 0 0 Q (F0 m 108 ls [])) → W p l e rm_X2_lookAnew s m args below meth c H locs 0 0 Q (F0 m 77 ls []) := by
      intro order_77 stepsAt_77 doubts_77 bowCount_77 doubtCount_77 seenBows_77 bsize_77 bcells_77 ssize_77 scells_77 rule_77 believed_77 n_77
      induction n_77 with
      | zero => intro x1_77 weights_77 rows_77 metEver_77 bowedTo_77 likeliest_77 mostSayingsSo_77 uL_77 H locs ls h; exact absurd h (by rw [f_X2_lookAnew_77]; exact fun z => nomatch z)
      | succ n_77 ih =>
        intro x1_77 weights_77 rows_77 metEver_77 bowedTo_77 likeliest_77 mostSayingsSo_77 uL_77 H locs ls h hP hD hS hl JK_77
        rw [f_X2_lookAnew_77] at h
        refine lv_iload_n hx hb dX2_lookAnew_77 rfl (lv_at hl 1 rfl) ?_
        refine lv_aload_n hx hb dX2_lookAnew_78 rfl (lv_at hl 0 rfl) ?_
        obtain ⟨u_9, e_9, h⟩ := bd_some h
        refine cm_Vi (As := []) (rest := [.int x1_77]) ⟨hx, hb, hml, hown, hts⟩ (c_X2_size (ca := ca) (ev := ev) (n0 := n0) (n1 := n1) (n2 := n2) (n3 := n3) (n4 := n4) (n5 := n5) (n6 := n6) (n7 := n7) (c0 := c0) (c1 := c1) (c2 := c2) (c3 := c3) (c4 := c4) (c5 := c5) (c6 := c6) (order := order_77) (stepsAt := stepsAt_77) (doubts := doubts_77) (weights := weights_77) (rows := rows_77) (metEver := metEver_77) (bowedTo := bowedTo_77) (isStale := (0 : Int32)) (bowCount := bowCount_77) (doubtCount := doubtCount_77) (seenBows := seenBows_77) (likeliest := likeliest_77) (mostSayingsSo := mostSayingsSo_77) (bsize := bsize_77) (bcells := bcells_77) (ssize := ssize_77) (scells := scells_77) (dsize := dsize) (dcells := dcells) (people := people) (rule := rule_77) (believed := believed_77) e_9) (cwV 0 hts gX2_lookAnew_X2_size rfl rfl rfl hd_X2_size ⟨Nat.le_of_ble_eq_true rfl, Nat.le_of_ble_eq_true rfl⟩) hK hP hD hS hA hE (q0 := 0) (ci := 2) rfl rfl rfl rfl hl.1 rfl (Nat.le_of_ble_eq_true rfl) dX2_lookAnew_79 ⟨Nat.zero_le _, Nat.zero_le _⟩ (fun H locs hP hD hS => ?_)
        refine lv_icmp_ge (tgt := 108) hx hb dX2_lookAnew_82 (by decide) (fun c_10 => ?_) (fun c_10 => ?_)
        · have h := ifp c_10 h
          obtain rfl := Option.some.inj h
          exact JK_77 hP hD hS (lv_sub hl [] rfl)
        · have h := ifn c_10 h
          refine lv_aload_n hx hb dX2_lookAnew_85 rfl (lv_at hl 0 rfl) ?_
          refine va_get (D := G) (ci := 2) (v := .ref n4) (C := RX2) (T := TX2) (N := 14) hx hb hts hin_X2 hown hK hP 0 rfl rfl 4 (by decide) fk_21 (fun _ h9 => h9) rfl dX2_lookAnew_86 ?_
          refine lv_iload_n hx hb dX2_lookAnew_89 rfl (lv_at hl 1 rfl) ?_
          refine lv_iconst (v := (0 : Int32)) hx hb dX2_lookAnew_90 (by decide) ?_
          obtain ⟨i_11, h⟩ := gd_some h
          refine va_iast hx hb hK hP hD hS 4 0 rfl rfl (ix_in i_11) dX2_lookAnew_91 (fun H locs hP hD hS => ?_)
          have hP : va_P G vwCl (wN ca ev n0 n1 n2 n3 n4 n5 n6 n7 c0 c1 c2 c3 c4 c5 c6 order_77 stepsAt_77 doubts_77 (upd weights_77 x1_77.toNatClampNeg (0 : Int32)) rows_77 metEver_77 bowedTo_77 (0 : Int32) bowCount_77 doubtCount_77 seenBows_77 likeliest_77 mostSayingsSo_77 bsize_77 bcells_77 ssize_77 scells_77 dsize dcells people rule_77 believed_77) H := hP
          have hD : va_D A (wN ca ev n0 n1 n2 n3 n4 n5 n6 n7 c0 c1 c2 c3 c4 c5 c6 order_77 stepsAt_77 doubts_77 (upd weights_77 x1_77.toNatClampNeg (0 : Int32)) rows_77 metEver_77 bowedTo_77 (0 : Int32) bowCount_77 doubtCount_77 seenBows_77 likeliest_77 mostSayingsSo_77 bsize_77 bcells_77 ssize_77 scells_77 dsize dcells people rule_77 believed_77) := hD
          refine lv_aload_n hx hb dX2_lookAnew_92 rfl (lv_at hl 0 rfl) ?_
          refine lv_iload_n hx hb dX2_lookAnew_93 rfl (lv_at hl 1 rfl) ?_
          refine lv_aload_n hx hb dX2_lookAnew_94 rfl (lv_at hl 0 rfl) ?_
          refine lv_iload_n hx hb dX2_lookAnew_95 rfl (lv_at hl 1 rfl) ?_
          obtain ⟨u_12, e_12, h⟩ := bd_some h
          refine cm_Vi (As := [.int x1_77]) (rest := [.int x1_77, .ref n0]) ⟨hx, hb, hml, hown, hts⟩ (c_X2_weightOf (ca := ca) (ev := ev) (n0 := n0) (n1 := n1) (n2 := n2) (n3 := n3) (n4 := n4) (n5 := n5) (n6 := n6) (n7 := n7) (c0 := c0) (c1 := c1) (c2 := c2) (c3 := c3) (c4 := c4) (c5 := c5) (c6 := c6) (order := order_77) (stepsAt := stepsAt_77) (doubts := doubts_77) (weights := (upd weights_77 x1_77.toNatClampNeg (0 : Int32))) (rows := rows_77) (metEver := metEver_77) (bowedTo := bowedTo_77) (isStale := (0 : Int32)) (bowCount := bowCount_77) (doubtCount := doubtCount_77) (seenBows := seenBows_77) (likeliest := likeliest_77) (mostSayingsSo := mostSayingsSo_77) (bsize := bsize_77) (bcells := bcells_77) (ssize := ssize_77) (scells := scells_77) (dsize := dsize) (dcells := dcells) (people := people) (rule := rule_77) (believed := believed_77) e_12) (cwV 1 hts gX2_lookAnew_X2_weightOf rfl rfl rfl hd_X2_weightOf ⟨Nat.le_of_ble_eq_true rfl, Nat.le_of_ble_eq_true rfl⟩) hK hP hD hS hA hE (q0 := 0) (ci := 2) rfl rfl rfl rfl hl.1 rfl (Nat.le_of_ble_eq_true rfl) dX2_lookAnew_96 ⟨Nat.zero_le _, Nat.zero_le _⟩ (fun H locs hP hD hS => ?_)
          obtain ⟨u_13, e_13, h⟩ := bd_some h
          refine cm_Vv (As := [.int x1_77, .int u_12]) (rest := []) ⟨hx, hb, hml, hown, hts⟩ (c_X2_judge (ca := ca) (ev := ev) (n0 := n0) (n1 := n1) (n2 := n2) (n3 := n3) (n4 := n4) (n5 := n5) (n6 := n6) (n7 := n7) (c0 := c0) (c1 := c1) (c2 := c2) (c3 := c3) (c4 := c4) (c5 := c5) (c6 := c6) (order := order_77) (stepsAt := stepsAt_77) (doubts := doubts_77) (weights := (upd weights_77 x1_77.toNatClampNeg (0 : Int32))) (rows := rows_77) (metEver := metEver_77) (bowedTo := bowedTo_77) (isStale := (0 : Int32)) (bowCount := bowCount_77) (doubtCount := doubtCount_77) (seenBows := seenBows_77) (likeliest := likeliest_77) (mostSayingsSo := mostSayingsSo_77) (bsize := bsize_77) (bcells := bcells_77) (ssize := ssize_77) (scells := scells_77) (dsize := dsize) (dcells := dcells) (people := people) (rule := rule_77) (believed := believed_77) e_13) (cwV 2 hts gX2_lookAnew_X2_judge rfl rfl rfl hd_X2_judge ⟨Nat.le_of_ble_eq_true rfl, Nat.le_of_ble_eq_true rfl⟩) hK hP hD hS hA hE (q0 := 0) (ci := 2) rfl rfl rfl rfl hl.1 rfl (Nat.le_of_ble_eq_true rfl) dX2_lookAnew_99 ⟨Nat.zero_le _, Nat.zero_le _⟩ (fun H locs hP hD hS => ?_)
          refine lv_iinc (v := (x1_77 + (1 : Int32))) (lv' := [(1, .int (x1_77 + (1 : Int32))), (0, .ref n0)]) hx hb dX2_lookAnew_102 hl (k := 1) rfl rfl (by decide) rfl (fun ls hl => ?_)
          refine lv_goto (tgt := 77) hx hb dX2_lookAnew_105 (by decide) ?_
          exact ih h hP hD hS (lv_sub hl [1, 0] rfl) JK_77
    obtain ⟨u_14, e_14, h⟩ := bd_some h
    refine L_77 _ e_14 hP hD hS (lv_sub hl [1, 0] rfl) ?_
    intro H locs ls hP hD hS hl
    obtain rfl := Option.some.inj h
    exact hRet hP hD hS dX2_lookAnew_108
  · have h := ifp c_1 h
    obtain rfl := Option.some.inj h
    exact hRet hP hD hS dX2_lookAnew_7
abbrev rm_X2_someHolds : Room := { frames := 0, cells := 0, slots := 0, locals := 0 }
theorem hd_X2_someHolds : yX2_someHolds.cls = RX2 ∧ yX2_someHolds.cls ≠ "java/lang/invoke/MethodHandle" ∧ yX2_someHolds.cls ≠ "java/lang/invoke/VarHandle" ∧ (parseMethodDescriptor yX2_someHolds.desc).map (fun d => d.parameters.length) = some 0 := by decide +kernel
set_option maxHeartbeats 4000000 in
set_option maxRecDepth 100000 in
theorem c_X2_someHolds {l : Launch} {G : va_G} {ca : Nat → ClassId} {ev : Nat → Nat} {n0 n1 n2 n3 n4 n5 n6 n7 c0 c1 c2 c3 c4 c5 c6 : Nat} {order : (Nat → Int32)} {stepsAt : (Nat → Int32)} {doubts : (Nat → Int32)} {weights : (Nat → Int32)} {rows : (Nat → Int32)} {metEver : (Nat → Int32)} {bowedTo : (Nat → Int32)} {isStale : Int32} {bowCount : Int32} {doubtCount : Int32} {seenBows : Int32} {likeliest : Int32} {mostSayingsSo : Int32} {bsize : Int32} {bcells : (Nat → Int32)} {ssize : Int32} {scells : (Nat → Int32)} {dsize : Int32} {dcells : (Nat → Int32)} {people : Int32} {rule : Int32} {believed : Int32}  {res : Int32} (h : f_X2_someHolds likeliest = some res) : CtI l yX2_someHolds wsX2_someHolds rm_X2_someHolds G ca ev [.ref n0] (wN ca ev n0 n1 n2 n3 n4 n5 n6 n7 c0 c1 c2 c3 c4 c5 c6 order stepsAt doubts weights rows metEver bowedTo isStale bowCount doubtCount seenBows likeliest mostSayingsSo bsize bcells ssize scells dsize dcells people rule believed) (wN ca ev n0 n1 n2 n3 n4 n5 n6 n7 c0 c1 c2 c3 c4 c5 c6 order stepsAt doubts weights rows metEver bowedTo isStale bowCount doubtCount seenBows likeliest mostSayingsSo bsize bcells ssize scells dsize dcells people rule believed) res := by
  unfold f_X2_someHolds at h
  refine en_z (by decide) rfl (Nat.le_of_ble_eq_true rfl) ?_
  intro p e s m args below meth c A Q H locs ls hx hb hml hown hts hA hP hK hD hE hS hl hRet
  have hown : s.vm.findClass RX2 = some m.cls := hown
  have hl : lv_has ls 1 [(0, .ref n0)] := hl
  have hin_X2 : ∀ w ∈ u_ws RX2 TX2 14, w ∈ wsX2_someHolds := fun w h9 => List.mem_cons_of_mem _ (List.mem_append_right _ h9)
  have fk_47 := hts (.fieldLink RX2 47 "MaskBows$Nights" "likeliest" "I") (by decide +kernel)
  refine lv_aload_n hx hb dX2_someHolds_0 rfl (lv_at hl 0 rfl) ?_
  refine va_get (D := G) (ci := 2) (v := .int likeliest) (C := RX2) (T := TX2) (N := 14) hx hb hts hin_X2 hown hK hP 0 rfl rfl 12 (by decide) fk_47 (fun _ h9 => h9) rfl dX2_someHolds_1 ?_
  refine lv_iconst (v := (-1 : Int32)) hx hb dX2_someHolds_4 (by decide) ?_
  refine lv_icmp_eq (tgt := 12) hx hb dX2_someHolds_5 (by decide) (fun c_1 => ?_) (fun c_1 => ?_)
  · have h := ifp c_1 h
    refine lv_iconst (v := (0 : Int32)) hx hb dX2_someHolds_12 (by decide) ?_
    obtain rfl := Option.some.inj h
    exact hRet hP hD hS zb_0 dX2_someHolds_13
  · have h := ifn c_1 h
    refine lv_iconst (v := (1 : Int32)) hx hb dX2_someHolds_8 (by decide) ?_
    refine lv_goto (tgt := 13) hx hb dX2_someHolds_9 (by decide) ?_
    obtain rfl := Option.some.inj h
    exact hRet hP hD hS zb_1 dX2_someHolds_13
abbrev rm_X2_likeliestNight : Room := { frames := 0, cells := 0, slots := 0, locals := 0 }
theorem hd_X2_likeliestNight : yX2_likeliestNight.cls = RX2 ∧ yX2_likeliestNight.cls ≠ "java/lang/invoke/MethodHandle" ∧ yX2_likeliestNight.cls ≠ "java/lang/invoke/VarHandle" ∧ (parseMethodDescriptor yX2_likeliestNight.desc).map (fun d => d.parameters.length) = some 0 := by decide +kernel
set_option maxHeartbeats 4000000 in
set_option maxRecDepth 100000 in
theorem c_X2_likeliestNight {l : Launch} {G : va_G} {ca : Nat → ClassId} {ev : Nat → Nat} {n0 n1 n2 n3 n4 n5 n6 n7 c0 c1 c2 c3 c4 c5 c6 : Nat} {order : (Nat → Int32)} {stepsAt : (Nat → Int32)} {doubts : (Nat → Int32)} {weights : (Nat → Int32)} {rows : (Nat → Int32)} {metEver : (Nat → Int32)} {bowedTo : (Nat → Int32)} {isStale : Int32} {bowCount : Int32} {doubtCount : Int32} {seenBows : Int32} {likeliest : Int32} {mostSayingsSo : Int32} {bsize : Int32} {bcells : (Nat → Int32)} {ssize : Int32} {scells : (Nat → Int32)} {dsize : Int32} {dcells : (Nat → Int32)} {people : Int32} {rule : Int32} {believed : Int32}  {res : Int32} (h : f_X2_likeliestNight likeliest = some res) : CtI l yX2_likeliestNight wsX2_likeliestNight rm_X2_likeliestNight G ca ev [.ref n0] (wN ca ev n0 n1 n2 n3 n4 n5 n6 n7 c0 c1 c2 c3 c4 c5 c6 order stepsAt doubts weights rows metEver bowedTo isStale bowCount doubtCount seenBows likeliest mostSayingsSo bsize bcells ssize scells dsize dcells people rule believed) (wN ca ev n0 n1 n2 n3 n4 n5 n6 n7 c0 c1 c2 c3 c4 c5 c6 order stepsAt doubts weights rows metEver bowedTo isStale bowCount doubtCount seenBows likeliest mostSayingsSo bsize bcells ssize scells dsize dcells people rule believed) res := by
  unfold f_X2_likeliestNight at h
  refine en_i (by decide) rfl (Nat.le_of_ble_eq_true rfl) ?_
  intro p e s m args below meth c A Q H locs ls hx hb hml hown hts hA hP hK hD hE hS hl hRet
  have hown : s.vm.findClass RX2 = some m.cls := hown
  have hl : lv_has ls 1 [(0, .ref n0)] := hl
  have hin_X2 : ∀ w ∈ u_ws RX2 TX2 14, w ∈ wsX2_likeliestNight := fun w h9 => List.mem_cons_of_mem _ (List.mem_append_right _ h9)
  have fk_47 := hts (.fieldLink RX2 47 "MaskBows$Nights" "likeliest" "I") (by decide +kernel)
  refine lv_aload_n hx hb dX2_likeliestNight_0 rfl (lv_at hl 0 rfl) ?_
  refine va_get (D := G) (ci := 2) (v := .int likeliest) (C := RX2) (T := TX2) (N := 14) hx hb hts hin_X2 hown hK hP 0 rfl rfl 12 (by decide) fk_47 (fun _ h9 => h9) rfl dX2_likeliestNight_1 ?_
  obtain rfl := Option.some.inj h
  exact hRet hP hD hS dX2_likeliestNight_4
abbrev rm_X2_howManyHold : Room := { frames := 3, cells := 0, slots := 0, locals := 62 }
theorem hd_X2_howManyHold : yX2_howManyHold.cls = RX2 ∧ yX2_howManyHold.cls ≠ "java/lang/invoke/MethodHandle" ∧ yX2_howManyHold.cls ≠ "java/lang/invoke/VarHandle" ∧ (parseMethodDescriptor yX2_howManyHold.desc).map (fun d => d.parameters.length) = some 0 := by decide +kernel
set_option maxHeartbeats 4000000 in
set_option maxRecDepth 100000 in
theorem c_X2_howManyHold {l : Launch} {G : va_G} {ca : Nat → ClassId} {ev : Nat → Nat} {n0 n1 n2 n3 n4 n5 n6 n7 c0 c1 c2 c3 c4 c5 c6 : Nat} {order : (Nat → Int32)} {stepsAt : (Nat → Int32)} {doubts : (Nat → Int32)} {weights : (Nat → Int32)} {rows : (Nat → Int32)} {metEver : (Nat → Int32)} {bowedTo : (Nat → Int32)} {isStale : Int32} {bowCount : Int32} {doubtCount : Int32} {seenBows : Int32} {likeliest : Int32} {mostSayingsSo : Int32} {bsize : Int32} {bcells : (Nat → Int32)} {ssize : Int32} {scells : (Nat → Int32)} {dsize : Int32} {dcells : (Nat → Int32)} {people : Int32} {rule : Int32} {believed : Int32}  {N : Nat} {res : Int32} (h : f_X2_howManyHold N weights doubtCount = some res) : CtI l yX2_howManyHold wsX2_howManyHold rm_X2_howManyHold G ca ev [.ref n0] (wN ca ev n0 n1 n2 n3 n4 n5 n6 n7 c0 c1 c2 c3 c4 c5 c6 order stepsAt doubts weights rows metEver bowedTo isStale bowCount doubtCount seenBows likeliest mostSayingsSo bsize bcells ssize scells dsize dcells people rule believed) (wN ca ev n0 n1 n2 n3 n4 n5 n6 n7 c0 c1 c2 c3 c4 c5 c6 order stepsAt doubts weights rows metEver bowedTo isStale bowCount doubtCount seenBows likeliest mostSayingsSo bsize bcells ssize scells dsize dcells people rule believed) res := by
  unfold f_X2_howManyHold at h
  refine en_i (by decide) rfl (Nat.le_of_ble_eq_true rfl) ?_
  intro p e s m args below meth c A Q H locs ls hx hb hml hown hts hA hP hK hD hE hS hl hRet
  have hown : s.vm.findClass RX2 = some m.cls := hown
  have hl : lv_has ls 3 [(0, .ref n0)] := hl
  refine lv_iconst (v := (0 : Int32)) hx hb dX2_howManyHold_0 (by decide) ?_
  refine lv_istore_n (lv' := [(1, .int (0 : Int32)), (0, .ref n0)]) hx hb dX2_howManyHold_1 rfl hl (by decide) rfl (fun ls hl => ?_)
  refine lv_iconst (v := (0 : Int32)) hx hb dX2_howManyHold_2 (by decide) ?_
  refine lv_istore_n (lv' := [(2, .int (0 : Int32)), (1, .int (0 : Int32)), (0, .ref n0)]) hx hb dX2_howManyHold_3 rfl hl (by decide) rfl (fun ls hl => ?_)
  have L_4 : ∀  {weights_4 : (Nat → Int32)} {doubtCount_4 : Int32} (n_4 : Nat) {x1_4 : Int32} {x2_4 : Int32} {uL_4 : Int32} {H : Heap} {locs : List Loc} {ls : Array Slot}, f_X2_howManyHold_4 weights_4 doubtCount_4  n_4 x1_4 x2_4 = some uL_4 → va_P G vwCl (wN ca ev n0 n1 n2 n3 n4 n5 n6 n7 c0 c1 c2 c3 c4 c5 c6 order stepsAt doubts weights_4 rows metEver bowedTo isStale bowCount doubtCount_4 seenBows likeliest mostSayingsSo bsize bcells ssize scells dsize dcells people rule believed) H → va_D A (wN ca ev n0 n1 n2 n3 n4 n5 n6 n7 c0 c1 c2 c3 c4 c5 c6 order stepsAt doubts weights_4 rows metEver bowedTo isStale bowCount doubtCount_4 seenBows likeliest mostSayingsSo bsize bcells ssize scells dsize dcells people rule believed) → va_S A s.heap H locs → lv_has ls 3 [(0, .ref n0), (1, .int x1_4), (2, .int x2_4)] → (∀ {H : Heap} {locs : List Loc} {ls : Array Slot}, va_P G vwCl (wN ca ev n0 n1 n2 n3 n4 n5 n6 n7 c0 c1 c2 c3 c4 c5 c6 order stepsAt doubts weights_4 rows metEver bowedTo isStale bowCount doubtCount_4 seenBows likeliest mostSayingsSo bsize bcells ssize scells dsize dcells people rule believed) H → va_D A (wN ca ev n0 n1 n2 n3 n4 n5 n6 n7 c0 c1 c2 c3 c4 c5 c6 order stepsAt doubts weights_4 rows metEver bowedTo isStale bowCount doubtCount_4 seenBows likeliest mostSayingsSo bsize bcells ssize scells dsize dcells people rule believed) → va_S A s.heap H locs → lv_has ls 3 [(1, .int uL_4)] → W p l e rm_X2_howManyHold s m args below meth c H locs 0 0 Q (F0 m 29 ls [])) → W p l e rm_X2_howManyHold s m args below meth c H locs 0 0 Q (F0 m 4 ls []) := by
    intro weights_4 doubtCount_4 n_4
    induction n_4 with
    | zero => intro x1_4 x2_4 uL_4 H locs ls h; exact absurd h (by rw [f_X2_howManyHold_4]; exact fun z => nomatch z)
    | succ n_4 ih =>
      intro x1_4 x2_4 uL_4 H locs ls h hP hD hS hl JK_4
      rw [f_X2_howManyHold_4] at h
      refine lv_iload_n hx hb dX2_howManyHold_4 rfl (lv_at hl 2 rfl) ?_
      refine lv_aload_n hx hb dX2_howManyHold_5 rfl (lv_at hl 0 rfl) ?_
      obtain ⟨u_1, e_1, h⟩ := bd_some h
      refine cm_Vi (As := []) (rest := [.int x2_4]) ⟨hx, hb, hml, hown, hts⟩ (c_X2_size (ca := ca) (ev := ev) (n0 := n0) (n1 := n1) (n2 := n2) (n3 := n3) (n4 := n4) (n5 := n5) (n6 := n6) (n7 := n7) (c0 := c0) (c1 := c1) (c2 := c2) (c3 := c3) (c4 := c4) (c5 := c5) (c6 := c6) (order := order) (stepsAt := stepsAt) (doubts := doubts) (weights := weights_4) (rows := rows) (metEver := metEver) (bowedTo := bowedTo) (isStale := isStale) (bowCount := bowCount) (doubtCount := doubtCount_4) (seenBows := seenBows) (likeliest := likeliest) (mostSayingsSo := mostSayingsSo) (bsize := bsize) (bcells := bcells) (ssize := ssize) (scells := scells) (dsize := dsize) (dcells := dcells) (people := people) (rule := rule) (believed := believed) e_1) (cwV 0 hts gX2_howManyHold_X2_size rfl rfl rfl hd_X2_size ⟨Nat.le_of_ble_eq_true rfl, Nat.le_of_ble_eq_true rfl⟩) hK hP hD hS hA hE (q0 := 0) (ci := 2) rfl rfl rfl rfl hl.1 rfl (Nat.le_of_ble_eq_true rfl) dX2_howManyHold_6 ⟨Nat.zero_le _, Nat.zero_le _⟩ (fun H locs hP hD hS => ?_)
      refine lv_icmp_ge (tgt := 29) hx hb dX2_howManyHold_9 (by decide) (fun c_2 => ?_) (fun c_2 => ?_)
      · have h := ifp c_2 h
        obtain rfl := Option.some.inj h
        exact JK_4 hP hD hS (lv_sub hl [1] rfl)
      · have h := ifn c_2 h
        refine lv_aload_n hx hb dX2_howManyHold_12 rfl (lv_at hl 0 rfl) ?_
        refine lv_iload_n hx hb dX2_howManyHold_13 rfl (lv_at hl 2 rfl) ?_
        obtain ⟨u_3, e_3, h⟩ := bd_some h
        refine cm_Vi (As := [.int x2_4]) (rest := []) ⟨hx, hb, hml, hown, hts⟩ (c_X2_holds (ca := ca) (ev := ev) (n0 := n0) (n1 := n1) (n2 := n2) (n3 := n3) (n4 := n4) (n5 := n5) (n6 := n6) (n7 := n7) (c0 := c0) (c1 := c1) (c2 := c2) (c3 := c3) (c4 := c4) (c5 := c5) (c6 := c6) (order := order) (stepsAt := stepsAt) (doubts := doubts) (weights := weights_4) (rows := rows) (metEver := metEver) (bowedTo := bowedTo) (isStale := isStale) (bowCount := bowCount) (doubtCount := doubtCount_4) (seenBows := seenBows) (likeliest := likeliest) (mostSayingsSo := mostSayingsSo) (bsize := bsize) (bcells := bcells) (ssize := ssize) (scells := scells) (dsize := dsize) (dcells := dcells) (people := people) (rule := rule) (believed := believed) e_3) (cwV 1 hts gX2_howManyHold_X2_holds rfl rfl rfl hd_X2_holds ⟨Nat.le_of_ble_eq_true rfl, Nat.le_of_ble_eq_true rfl⟩) hK hP hD hS hA hE (q0 := 0) (ci := 2) rfl rfl rfl rfl hl.1 rfl (Nat.le_of_ble_eq_true rfl) dX2_howManyHold_14 ⟨Nat.zero_le _, Nat.zero_le _⟩ (fun H locs hP hD hS => ?_)
        obtain ⟨u_4, e_4, h⟩ := bd_some h
        have J_4 : ∀ {H : Heap} {locs : List Loc} {ls : Array Slot}, va_P G vwCl (wN ca ev n0 n1 n2 n3 n4 n5 n6 n7 c0 c1 c2 c3 c4 c5 c6 order stepsAt doubts weights_4 rows metEver bowedTo isStale bowCount doubtCount_4 seenBows likeliest mostSayingsSo bsize bcells ssize scells dsize dcells people rule believed) H → va_D A (wN ca ev n0 n1 n2 n3 n4 n5 n6 n7 c0 c1 c2 c3 c4 c5 c6 order stepsAt doubts weights_4 rows metEver bowedTo isStale bowCount doubtCount_4 seenBows likeliest mostSayingsSo bsize bcells ssize scells dsize dcells people rule believed) → va_S A s.heap H locs → lv_has ls 3 [(0, .ref n0), (1, .int u_4), (2, .int x2_4)] → W p l e rm_X2_howManyHold s m args below meth c H locs 0 0 Q (F0 m 23 ls []) := by
          intro H locs ls hP hD hS hl 
          refine lv_iinc (v := (x2_4 + (1 : Int32))) (lv' := [(2, .int (x2_4 + (1 : Int32))), (0, .ref n0), (1, .int u_4)]) hx hb dX2_howManyHold_23 hl (k := 2) rfl rfl (by decide) rfl (fun ls hl => ?_)
          refine lv_goto (tgt := 4) hx hb dX2_howManyHold_26 (by decide) ?_
          exact ih h hP hD hS (lv_sub hl [1, 2, 0] rfl) JK_4
        have h := e_4
        clear e_4
        refine lv_if_eq (tgt := 23) hx hb dX2_howManyHold_17 (by decide) (fun c_4 => ?_) (fun c_4 => ?_)
        · have h := ifp c_4 h
          obtain rfl := Option.some.inj h
          exact J_4 hP hD hS (lv_sub hl [0, 1, 2] rfl)
        · have h := ifn c_4 h
          refine lv_iinc (v := (x1_4 + (1 : Int32))) (lv' := [(1, .int (x1_4 + (1 : Int32))), (0, .ref n0), (2, .int x2_4)]) hx hb dX2_howManyHold_20 hl (k := 1) rfl rfl (by decide) rfl (fun ls hl => ?_)
          obtain rfl := Option.some.inj h
          exact J_4 hP hD hS (lv_sub hl [1, 0, 2] rfl)
  obtain ⟨u_5, e_5, h⟩ := bd_some h
  refine L_4 _ e_5 hP hD hS (lv_sub hl [2, 1, 0] rfl) ?_
  intro H locs ls hP hD hS hl
  refine lv_iload_n hx hb dX2_howManyHold_29 rfl (lv_at hl 0 rfl) ?_
  obtain rfl := Option.some.inj h
  exact hRet hP hD hS dX2_howManyHold_30
abbrev rm_X2_allWeights : Room := { frames := 2, cells := 0, slots := 0, locals := 41 }
theorem hd_X2_allWeights : yX2_allWeights.cls = RX2 ∧ yX2_allWeights.cls ≠ "java/lang/invoke/MethodHandle" ∧ yX2_allWeights.cls ≠ "java/lang/invoke/VarHandle" ∧ (parseMethodDescriptor yX2_allWeights.desc).map (fun d => d.parameters.length) = some 0 := by decide +kernel
set_option maxHeartbeats 4000000 in
set_option maxRecDepth 100000 in
theorem c_X2_allWeights {l : Launch} {G : va_G} {ca : Nat → ClassId} {ev : Nat → Nat} {n0 n1 n2 n3 n4 n5 n6 n7 c0 c1 c2 c3 c4 c5 c6 : Nat} {order : (Nat → Int32)} {stepsAt : (Nat → Int32)} {doubts : (Nat → Int32)} {weights : (Nat → Int32)} {rows : (Nat → Int32)} {metEver : (Nat → Int32)} {bowedTo : (Nat → Int32)} {isStale : Int32} {bowCount : Int32} {doubtCount : Int32} {seenBows : Int32} {likeliest : Int32} {mostSayingsSo : Int32} {bsize : Int32} {bcells : (Nat → Int32)} {ssize : Int32} {scells : (Nat → Int32)} {dsize : Int32} {dcells : (Nat → Int32)} {people : Int32} {rule : Int32} {believed : Int32}  {N : Nat} {res : Int64} (h : f_X2_allWeights N weights doubtCount = some res) : CtL l yX2_allWeights wsX2_allWeights rm_X2_allWeights G ca ev [.ref n0] (wN ca ev n0 n1 n2 n3 n4 n5 n6 n7 c0 c1 c2 c3 c4 c5 c6 order stepsAt doubts weights rows metEver bowedTo isStale bowCount doubtCount seenBows likeliest mostSayingsSo bsize bcells ssize scells dsize dcells people rule believed) (wN ca ev n0 n1 n2 n3 n4 n5 n6 n7 c0 c1 c2 c3 c4 c5 c6 order stepsAt doubts weights rows metEver bowedTo isStale bowCount doubtCount seenBows likeliest mostSayingsSo bsize bcells ssize scells dsize dcells people rule believed) res := by
  unfold f_X2_allWeights at h
  refine en_l (by decide) rfl (Nat.le_of_ble_eq_true rfl) ?_
  intro p e s m args below meth c A Q H locs ls hx hb hml hown hts hA hP hK hD hE hS hl hRet
  have hown : s.vm.findClass RX2 = some m.cls := hown
  have hl : lv_has ls 4 [(0, .ref n0)] := hl
  refine lv_lconst (v := (0 : Int64)) hx hb dX2_allWeights_0 (by decide) ?_
  refine lv_lstore_n (lv' := [(1, .long (0 : Int64)), (0, .ref n0)]) hx hb dX2_allWeights_1 rfl hl (by decide) rfl (fun ls hl => ?_)
  refine lv_iconst (v := (0 : Int32)) hx hb dX2_allWeights_2 (by decide) ?_
  refine lv_istore_n (lv' := [(3, .int (0 : Int32)), (1, .long (0 : Int64)), (0, .ref n0)]) hx hb dX2_allWeights_3 rfl hl (by decide) rfl (fun ls hl => ?_)
  have L_4 : ∀  {weights_4 : (Nat → Int32)} {doubtCount_4 : Int32} (n_4 : Nat) {x1_4 : Int64} {x3_4 : Int32} {uL_4 : Int64} {H : Heap} {locs : List Loc} {ls : Array Slot}, f_X2_allWeights_4 weights_4 doubtCount_4  n_4 x1_4 x3_4 = some uL_4 → va_P G vwCl (wN ca ev n0 n1 n2 n3 n4 n5 n6 n7 c0 c1 c2 c3 c4 c5 c6 order stepsAt doubts weights_4 rows metEver bowedTo isStale bowCount doubtCount_4 seenBows likeliest mostSayingsSo bsize bcells ssize scells dsize dcells people rule believed) H → va_D A (wN ca ev n0 n1 n2 n3 n4 n5 n6 n7 c0 c1 c2 c3 c4 c5 c6 order stepsAt doubts weights_4 rows metEver bowedTo isStale bowCount doubtCount_4 seenBows likeliest mostSayingsSo bsize bcells ssize scells dsize dcells people rule believed) → va_S A s.heap H locs → lv_has ls 4 [(0, .ref n0), (1, .long x1_4), (3, .int x3_4)] → (∀ {H : Heap} {locs : List Loc} {ls : Array Slot}, va_P G vwCl (wN ca ev n0 n1 n2 n3 n4 n5 n6 n7 c0 c1 c2 c3 c4 c5 c6 order stepsAt doubts weights_4 rows metEver bowedTo isStale bowCount doubtCount_4 seenBows likeliest mostSayingsSo bsize bcells ssize scells dsize dcells people rule believed) H → va_D A (wN ca ev n0 n1 n2 n3 n4 n5 n6 n7 c0 c1 c2 c3 c4 c5 c6 order stepsAt doubts weights_4 rows metEver bowedTo isStale bowCount doubtCount_4 seenBows likeliest mostSayingsSo bsize bcells ssize scells dsize dcells people rule believed) → va_S A s.heap H locs → lv_has ls 4 [(1, .long uL_4)] → W p l e rm_X2_allWeights s m args below meth c H locs 0 0 Q (F0 m 27 ls [])) → W p l e rm_X2_allWeights s m args below meth c H locs 0 0 Q (F0 m 4 ls []) := by
    intro weights_4 doubtCount_4 n_4
    induction n_4 with
    | zero => intro x1_4 x3_4 uL_4 H locs ls h; exact absurd h (by rw [f_X2_allWeights_4]; exact fun z => nomatch z)
    | succ n_4 ih =>
      intro x1_4 x3_4 uL_4 H locs ls h hP hD hS hl JK_4
      rw [f_X2_allWeights_4] at h
      refine lv_iload_n hx hb dX2_allWeights_4 rfl (lv_at hl 2 rfl) ?_
      refine lv_aload_n hx hb dX2_allWeights_5 rfl (lv_at hl 0 rfl) ?_
      obtain ⟨u_1, e_1, h⟩ := bd_some h
      refine cm_Vi (As := []) (rest := [.int x3_4]) ⟨hx, hb, hml, hown, hts⟩ (c_X2_size (ca := ca) (ev := ev) (n0 := n0) (n1 := n1) (n2 := n2) (n3 := n3) (n4 := n4) (n5 := n5) (n6 := n6) (n7 := n7) (c0 := c0) (c1 := c1) (c2 := c2) (c3 := c3) (c4 := c4) (c5 := c5) (c6 := c6) (order := order) (stepsAt := stepsAt) (doubts := doubts) (weights := weights_4) (rows := rows) (metEver := metEver) (bowedTo := bowedTo) (isStale := isStale) (bowCount := bowCount) (doubtCount := doubtCount_4) (seenBows := seenBows) (likeliest := likeliest) (mostSayingsSo := mostSayingsSo) (bsize := bsize) (bcells := bcells) (ssize := ssize) (scells := scells) (dsize := dsize) (dcells := dcells) (people := people) (rule := rule) (believed := believed) e_1) (cwV 0 hts gX2_allWeights_X2_size rfl rfl rfl hd_X2_size ⟨Nat.le_of_ble_eq_true rfl, Nat.le_of_ble_eq_true rfl⟩) hK hP hD hS hA hE (q0 := 0) (ci := 2) rfl rfl rfl rfl hl.1 rfl (Nat.le_of_ble_eq_true rfl) dX2_allWeights_6 ⟨Nat.zero_le _, Nat.zero_le _⟩ (fun H locs hP hD hS => ?_)
      refine lv_icmp_ge (tgt := 27) hx hb dX2_allWeights_9 (by decide) (fun c_2 => ?_) (fun c_2 => ?_)
      · have h := ifp c_2 h
        obtain rfl := Option.some.inj h
        exact JK_4 hP hD hS (lv_sub hl [1] rfl)
      · have h := ifn c_2 h
        refine lv_lload_n hx hb dX2_allWeights_12 rfl (lv_at hl 1 rfl) ?_
        refine lv_aload_n hx hb dX2_allWeights_13 rfl (lv_at hl 0 rfl) ?_
        refine lv_iload_n hx hb dX2_allWeights_14 rfl (lv_at hl 2 rfl) ?_
        obtain ⟨u_3, e_3, h⟩ := bd_some h
        refine cm_Vi (As := [.int x3_4]) (rest := [.long x1_4]) ⟨hx, hb, hml, hown, hts⟩ (c_X2_weight (ca := ca) (ev := ev) (n0 := n0) (n1 := n1) (n2 := n2) (n3 := n3) (n4 := n4) (n5 := n5) (n6 := n6) (n7 := n7) (c0 := c0) (c1 := c1) (c2 := c2) (c3 := c3) (c4 := c4) (c5 := c5) (c6 := c6) (order := order) (stepsAt := stepsAt) (doubts := doubts) (weights := weights_4) (rows := rows) (metEver := metEver) (bowedTo := bowedTo) (isStale := isStale) (bowCount := bowCount) (doubtCount := doubtCount_4) (seenBows := seenBows) (likeliest := likeliest) (mostSayingsSo := mostSayingsSo) (bsize := bsize) (bcells := bcells) (ssize := ssize) (scells := scells) (dsize := dsize) (dcells := dcells) (people := people) (rule := rule) (believed := believed) e_3) (cwV 1 hts gX2_allWeights_X2_weight rfl rfl rfl hd_X2_weight ⟨Nat.le_of_ble_eq_true rfl, Nat.le_of_ble_eq_true rfl⟩) hK hP hD hS hA hE (q0 := 0) (ci := 2) rfl rfl rfl rfl hl.1 rfl (Nat.le_of_ble_eq_true rfl) dX2_allWeights_15 ⟨Nat.zero_le _, Nat.zero_le _⟩ (fun H locs hP hD hS => ?_)
        refine lv_i2l (v := u_3.toInt64) hx hb dX2_allWeights_18 rfl ?_
        refine lv_ladd hx hb dX2_allWeights_19 ?_
        refine lv_lstore_n (lv' := [(1, .long (x1_4 + u_3.toInt64)), (0, .ref n0), (3, .int x3_4)]) hx hb dX2_allWeights_20 rfl hl (by decide) rfl (fun ls hl => ?_)
        refine lv_iinc (v := (x3_4 + (1 : Int32))) (lv' := [(3, .int (x3_4 + (1 : Int32))), (1, .long (x1_4 + u_3.toInt64)), (0, .ref n0)]) hx hb dX2_allWeights_21 hl (k := 2) rfl rfl (by decide) rfl (fun ls hl => ?_)
        refine lv_goto (tgt := 4) hx hb dX2_allWeights_24 (by decide) ?_
        exact ih h hP hD hS (lv_sub hl [2, 1, 0] rfl) JK_4
  obtain ⟨u_4, e_4, h⟩ := bd_some h
  refine L_4 _ e_4 hP hD hS (lv_sub hl [2, 1, 0] rfl) ?_
  intro H locs ls hP hD hS hl
  refine lv_lload_n hx hb dX2_allWeights_27 rfl (lv_at hl 0 rfl) ?_
  obtain rfl := Option.some.inj h
  exact hRet hP hD hS dX2_allWeights_28
abbrev rm_X7_maskOf : Room := { frames := 1, cells := 0, slots := 0, locals := 21 }
theorem hd_X7_maskOf : yX7_maskOf.cls ≠ "java/lang/invoke/MethodHandle" ∧ yX7_maskOf.cls ≠ "java/lang/invoke/VarHandle" ∧ (parseMethodDescriptor yX7_maskOf.desc).map (fun d => d.parameters.length) = some 2 := by decide +kernel
set_option maxHeartbeats 4000000 in
set_option maxRecDepth 100000 in
theorem c_X7_maskOf {l : Launch} {G : va_G} {ca : Nat → ClassId} {ev : Nat → Nat}  {a0 : Int32} {a1 : Int32} {N : Nat} {res : Int32} (h : f_X7_maskOf N a0 a1 = some res) : CtI l yX7_maskOf wsX7_maskOf rm_X7_maskOf G ca ev [.int a0, .int a1] [] [] res := by
  unfold f_X7_maskOf at h
  refine en_i (by decide) rfl (Nat.le_of_ble_eq_true rfl) ?_
  intro p e s m args below meth c A Q H locs ls hx hb hml hown hts hA hP hK hD hE hS hl hRet
  have hown : s.vm.findClass RX7 = some m.cls := hown
  have hl : lv_has ls 3 [(0, .int a0), (1, .int a1)] := hl
  refine lv_iconst (v := (0 : Int32)) hx hb dX7_maskOf_0 (by decide) ?_
  refine lv_istore_n (lv' := [(2, .int (0 : Int32)), (0, .int a0), (1, .int a1)]) hx hb dX7_maskOf_1 rfl hl (by decide) rfl (fun ls hl => ?_)
  have L_2 : ∀ {x0_2 : Int32} {x1_2 : Int32}  {K_2 : Unit → Option (Int32)} (n_2 : Nat) {x2_2 : Int32} {H : Heap} {locs : List Loc} {ls : Array Slot}, f_X7_maskOf_2 x0_2 x1_2 K_2  n_2 x2_2 = some res → (∀ {H : Heap} {locs : List Loc} {pc : Nat} {ls : Array Slot}, va_P G vwCl [] H → va_D A [] → va_S A s.heap H locs → decode cX7_maskOf pc = .ok (.ireturn, 1) → W p l e rm_X7_maskOf s m args below meth c H locs 0 0 Q (F0 m pc ls [.int res])) → va_P G vwCl [] H → va_D A [] → va_S A s.heap H locs → lv_has ls 3 [(0, .int x0_2), (1, .int x1_2), (2, .int x2_2)] → (∀ {uL_2 : Unit} {H : Heap} {locs : List Loc} {ls : Array Slot}, K_2 uL_2 = some res → va_P G vwCl [] H → va_D A [] → va_S A s.heap H locs → lv_has ls 3 [] → W p l e rm_X7_maskOf s m args below meth c H locs 0 0 Q (F0 m 25 ls [])) → W p l e rm_X7_maskOf s m args below meth c H locs 0 0 Q (F0 m 2 ls []) := by
    intro x0_2 x1_2 K_2 n_2
    induction n_2 with
    | zero => intro x2_2 H locs ls h; exact absurd h (by rw [f_X7_maskOf_2]; exact fun z => nomatch z)
    | succ n_2 ih =>
      intro x2_2 H locs ls h hRet hP hD hS hl JK_2
      rw [f_X7_maskOf_2] at h
      refine lv_iload_n hx hb dX7_maskOf_2 rfl (lv_at hl 2 rfl) ?_
      refine lv_bipush (v := (8 : Int32)) hx hb dX7_maskOf_3 (by decide) ?_
      refine lv_icmp_ge (tgt := 25) hx hb dX7_maskOf_5 (by decide) (fun c_1 => ?_) (fun c_1 => ?_)
      · have h := ifp c_1 h
        exact JK_2 h hP hD hS (lv_sub hl [] rfl)
      · have h := ifn c_1 h
        refine lv_iload_n hx hb dX7_maskOf_8 rfl (lv_at hl 0 rfl) ?_
        refine lv_iload_n hx hb dX7_maskOf_9 rfl (lv_at hl 2 rfl) ?_
        obtain ⟨u_2, e_2, h⟩ := bd_some h
        refine cn_Si (As := [.int x0_2, .int x2_2]) (rest := []) ⟨hx, hb, hml, hown, hts⟩ (c_X7_wearer e_2) (va_cwS 2 hts gX7_maskOf_X7_wearer rfl rfl rfl hd_X7_wearer ⟨Nat.le_of_ble_eq_true rfl, Nat.le_of_ble_eq_true rfl⟩) hK hP hD hS hA hE rfl hl.1 rfl (Nat.le_of_ble_eq_true rfl) dX7_maskOf_10 ⟨Nat.zero_le _, Nat.zero_le _⟩ (fun H locs hP hD hS => ?_)
        refine lv_iload_n hx hb dX7_maskOf_13 rfl (lv_at hl 1 rfl) ?_
        refine lv_icmp_ne (tgt := 19) hx hb dX7_maskOf_14 (by decide) (fun c_3 => ?_) (fun c_3 => ?_)
        · have h := ifn c_3 h
          refine lv_iinc (v := (x2_2 + (1 : Int32))) (lv' := [(2, .int (x2_2 + (1 : Int32))), (0, .int x0_2), (1, .int x1_2)]) hx hb dX7_maskOf_19 hl (k := 2) rfl rfl (by decide) rfl (fun ls hl => ?_)
          refine lv_goto (tgt := 2) hx hb dX7_maskOf_22 (by decide) ?_
          exact ih h hRet hP hD hS (lv_sub hl [1, 2, 0] rfl) JK_2
        · have h := ifp c_3 h
          refine lv_iload_n hx hb dX7_maskOf_17 rfl (lv_at hl 2 rfl) ?_
          obtain rfl := Option.some.inj h
          exact hRet hP hD hS dX7_maskOf_18
  refine L_2 _ h hRet hP hD hS (lv_sub hl [1, 2, 0] rfl) ?_
  clear h
  intro u_4 H locs ls h hP hD hS hl
  refine lv_iconst (v := (-1 : Int32)) hx hb dX7_maskOf_25 (by decide) ?_
  obtain rfl := Option.some.inj h
  exact hRet hP hD hS dX7_maskOf_26
abbrev rm_X2_masksOf : Room := { frames := 3, cells := 0, slots := 0, locals := 62 }
theorem hd_X2_masksOf : yX2_masksOf.cls = RX2 ∧ yX2_masksOf.cls ≠ "java/lang/invoke/MethodHandle" ∧ yX2_masksOf.cls ≠ "java/lang/invoke/VarHandle" ∧ (parseMethodDescriptor yX2_masksOf.desc).map (fun d => d.parameters.length) = some 2 := by decide +kernel
set_option maxHeartbeats 4000000 in
set_option maxRecDepth 100000 in
theorem c_X2_masksOf {l : Launch} {G : va_G} {ca : Nat → ClassId} {ev : Nat → Nat} {n0 n1 n2 n3 n4 n5 n6 n7 c0 c1 c2 c3 c4 c5 c6 : Nat} {order : (Nat → Int32)} {stepsAt : (Nat → Int32)} {doubts : (Nat → Int32)} {weights : (Nat → Int32)} {rows : (Nat → Int32)} {metEver : (Nat → Int32)} {bowedTo : (Nat → Int32)} {isStale : Int32} {bowCount : Int32} {doubtCount : Int32} {seenBows : Int32} {likeliest : Int32} {mostSayingsSo : Int32} {bsize : Int32} {bcells : (Nat → Int32)} {ssize : Int32} {scells : (Nat → Int32)} {dsize : Int32} {dcells : (Nat → Int32)} {people : Int32} {rule : Int32} {believed : Int32} {a1 : Int32} {a2 : Int32} {N : Nat} {res : Int32} (h : f_X2_masksOf N stepsAt weights rows doubtCount a1 a2 = some res) : CtI l yX2_masksOf wsX2_masksOf rm_X2_masksOf G ca ev [.ref n0, .int a1, .int a2] (wN ca ev n0 n1 n2 n3 n4 n5 n6 n7 c0 c1 c2 c3 c4 c5 c6 order stepsAt doubts weights rows metEver bowedTo isStale bowCount doubtCount seenBows likeliest mostSayingsSo bsize bcells ssize scells dsize dcells people rule believed) (wN ca ev n0 n1 n2 n3 n4 n5 n6 n7 c0 c1 c2 c3 c4 c5 c6 order stepsAt doubts weights rows metEver bowedTo isStale bowCount doubtCount seenBows likeliest mostSayingsSo bsize bcells ssize scells dsize dcells people rule believed) res := by
  unfold f_X2_masksOf at h
  refine en_i (by decide) rfl (Nat.le_of_ble_eq_true rfl) ?_
  intro p e s m args below meth c A Q H locs ls hx hb hml hown hts hA hP hK hD hE hS hl hRet
  have hown : s.vm.findClass RX2 = some m.cls := hown
  have hl : lv_has ls 5 [(0, .ref n0), (1, .int a1), (2, .int a2)] := hl
  refine lv_iconst (v := (0 : Int32)) hx hb dX2_masksOf_0 (by decide) ?_
  refine lv_istore_n (lv' := [(3, .int (0 : Int32)), (0, .ref n0), (1, .int a1), (2, .int a2)]) hx hb dX2_masksOf_1 rfl hl (by decide) rfl (fun ls hl => ?_)
  refine lv_iconst (v := (0 : Int32)) hx hb dX2_masksOf_2 (by decide) ?_
  refine lv_istore (lv' := [(4, .int (0 : Int32)), (3, .int (0 : Int32)), (0, .ref n0), (1, .int a1), (2, .int a2)]) hx hb dX2_masksOf_3 hl (by decide) rfl (fun ls hl => ?_)
  have L_5 : ∀ {x1_5 : Int32} {x2_5 : Int32} {stepsAt_5 : (Nat → Int32)} {weights_5 : (Nat → Int32)} {rows_5 : (Nat → Int32)} {doubtCount_5 : Int32} (n_5 : Nat) {x3_5 : Int32} {x4_5 : Int32} {uL_5 : Int32} {H : Heap} {locs : List Loc} {ls : Array Slot}, f_X2_masksOf_5 N x1_5 x2_5 stepsAt_5 weights_5 rows_5 doubtCount_5  n_5 x3_5 x4_5 = some uL_5 → va_P G vwCl (wN ca ev n0 n1 n2 n3 n4 n5 n6 n7 c0 c1 c2 c3 c4 c5 c6 order stepsAt_5 doubts weights_5 rows_5 metEver bowedTo isStale bowCount doubtCount_5 seenBows likeliest mostSayingsSo bsize bcells ssize scells dsize dcells people rule believed) H → va_D A (wN ca ev n0 n1 n2 n3 n4 n5 n6 n7 c0 c1 c2 c3 c4 c5 c6 order stepsAt_5 doubts weights_5 rows_5 metEver bowedTo isStale bowCount doubtCount_5 seenBows likeliest mostSayingsSo bsize bcells ssize scells dsize dcells people rule believed) → va_S A s.heap H locs → lv_has ls 5 [(0, .ref n0), (1, .int x1_5), (2, .int x2_5), (3, .int x3_5), (4, .int x4_5)] → (∀ {H : Heap} {locs : List Loc} {ls : Array Slot}, va_P G vwCl (wN ca ev n0 n1 n2 n3 n4 n5 n6 n7 c0 c1 c2 c3 c4 c5 c6 order stepsAt_5 doubts weights_5 rows_5 metEver bowedTo isStale bowCount doubtCount_5 seenBows likeliest mostSayingsSo bsize bcells ssize scells dsize dcells people rule believed) H → va_D A (wN ca ev n0 n1 n2 n3 n4 n5 n6 n7 c0 c1 c2 c3 c4 c5 c6 order stepsAt_5 doubts weights_5 rows_5 metEver bowedTo isStale bowCount doubtCount_5 seenBows likeliest mostSayingsSo bsize bcells ssize scells dsize dcells people rule believed) → va_S A s.heap H locs → lv_has ls 5 [(3, .int uL_5)] → W p l e rm_X2_masksOf s m args below meth c H locs 0 0 Q (F0 m 45 ls [])) → W p l e rm_X2_masksOf s m args below meth c H locs 0 0 Q (F0 m 5 ls []) := by
    intro x1_5 x2_5 stepsAt_5 weights_5 rows_5 doubtCount_5 n_5
    induction n_5 with
    | zero => intro x3_5 x4_5 uL_5 H locs ls h; exact absurd h (by rw [f_X2_masksOf_5]; exact fun z => nomatch z)
    | succ n_5 ih =>
      intro x3_5 x4_5 uL_5 H locs ls h hP hD hS hl JK_5
      rw [f_X2_masksOf_5] at h
      refine lv_iload hx hb dX2_masksOf_5 (lv_at hl 4 rfl) ?_
      refine lv_aload_n hx hb dX2_masksOf_7 rfl (lv_at hl 0 rfl) ?_
      obtain ⟨u_1, e_1, h⟩ := bd_some h
      refine cm_Vi (As := []) (rest := [.int x4_5]) ⟨hx, hb, hml, hown, hts⟩ (c_X2_size (ca := ca) (ev := ev) (n0 := n0) (n1 := n1) (n2 := n2) (n3 := n3) (n4 := n4) (n5 := n5) (n6 := n6) (n7 := n7) (c0 := c0) (c1 := c1) (c2 := c2) (c3 := c3) (c4 := c4) (c5 := c5) (c6 := c6) (order := order) (stepsAt := stepsAt_5) (doubts := doubts) (weights := weights_5) (rows := rows_5) (metEver := metEver) (bowedTo := bowedTo) (isStale := isStale) (bowCount := bowCount) (doubtCount := doubtCount_5) (seenBows := seenBows) (likeliest := likeliest) (mostSayingsSo := mostSayingsSo) (bsize := bsize) (bcells := bcells) (ssize := ssize) (scells := scells) (dsize := dsize) (dcells := dcells) (people := people) (rule := rule) (believed := believed) e_1) (cwV 0 hts gX2_masksOf_X2_size rfl rfl rfl hd_X2_size ⟨Nat.le_of_ble_eq_true rfl, Nat.le_of_ble_eq_true rfl⟩) hK hP hD hS hA hE (q0 := 0) (ci := 2) rfl rfl rfl rfl hl.1 rfl (Nat.le_of_ble_eq_true rfl) dX2_masksOf_8 ⟨Nat.zero_le _, Nat.zero_le _⟩ (fun H locs hP hD hS => ?_)
      refine lv_icmp_ge (tgt := 45) hx hb dX2_masksOf_11 (by decide) (fun c_2 => ?_) (fun c_2 => ?_)
      · have h := ifp c_2 h
        obtain rfl := Option.some.inj h
        exact JK_5 hP hD hS (lv_sub hl [3] rfl)
      · have h := ifn c_2 h
        refine lv_aload_n hx hb dX2_masksOf_14 rfl (lv_at hl 0 rfl) ?_
        refine lv_iload hx hb dX2_masksOf_15 (lv_at hl 4 rfl) ?_
        obtain ⟨u_3, e_3, h⟩ := bd_some h
        refine cm_Vi (As := [.int x4_5]) (rest := []) ⟨hx, hb, hml, hown, hts⟩ (c_X2_holds (ca := ca) (ev := ev) (n0 := n0) (n1 := n1) (n2 := n2) (n3 := n3) (n4 := n4) (n5 := n5) (n6 := n6) (n7 := n7) (c0 := c0) (c1 := c1) (c2 := c2) (c3 := c3) (c4 := c4) (c5 := c5) (c6 := c6) (order := order) (stepsAt := stepsAt_5) (doubts := doubts) (weights := weights_5) (rows := rows_5) (metEver := metEver) (bowedTo := bowedTo) (isStale := isStale) (bowCount := bowCount) (doubtCount := doubtCount_5) (seenBows := seenBows) (likeliest := likeliest) (mostSayingsSo := mostSayingsSo) (bsize := bsize) (bcells := bcells) (ssize := ssize) (scells := scells) (dsize := dsize) (dcells := dcells) (people := people) (rule := rule) (believed := believed) e_3) (cwV 1 hts gX2_masksOf_X2_holds rfl rfl rfl hd_X2_holds ⟨Nat.le_of_ble_eq_true rfl, Nat.le_of_ble_eq_true rfl⟩) hK hP hD hS hA hE (q0 := 0) (ci := 2) rfl rfl rfl rfl hl.1 rfl (Nat.le_of_ble_eq_true rfl) dX2_masksOf_17 ⟨Nat.zero_le _, Nat.zero_le _⟩ (fun H locs hP hD hS => ?_)
        obtain ⟨u_4, e_4, h⟩ := bd_some h
        have J_4 : ∀ {H : Heap} {locs : List Loc} {ls : Array Slot}, va_P G vwCl (wN ca ev n0 n1 n2 n3 n4 n5 n6 n7 c0 c1 c2 c3 c4 c5 c6 order stepsAt_5 doubts weights_5 rows_5 metEver bowedTo isStale bowCount doubtCount_5 seenBows likeliest mostSayingsSo bsize bcells ssize scells dsize dcells people rule believed) H → va_D A (wN ca ev n0 n1 n2 n3 n4 n5 n6 n7 c0 c1 c2 c3 c4 c5 c6 order stepsAt_5 doubts weights_5 rows_5 metEver bowedTo isStale bowCount doubtCount_5 seenBows likeliest mostSayingsSo bsize bcells ssize scells dsize dcells people rule believed) → va_S A s.heap H locs → lv_has ls 5 [(0, .ref n0), (1, .int x1_5), (2, .int x2_5), (3, .int u_4), (4, .int x4_5)] → W p l e rm_X2_masksOf s m args below meth c H locs 0 0 Q (F0 m 39 ls []) := by
          intro H locs ls hP hD hS hl 
          refine lv_iinc (v := (x4_5 + (1 : Int32))) (lv' := [(4, .int (x4_5 + (1 : Int32))), (0, .ref n0), (1, .int x1_5), (2, .int x2_5), (3, .int u_4)]) hx hb dX2_masksOf_39 hl (k := 4) rfl rfl (by decide) rfl (fun ls hl => ?_)
          refine lv_goto (tgt := 5) hx hb dX2_masksOf_42 (by decide) ?_
          exact ih h hP hD hS (lv_sub hl [1, 2, 3, 4, 0] rfl) JK_5
        have h := e_4
        clear e_4
        refine lv_if_eq (tgt := 39) hx hb dX2_masksOf_20 (by decide) (fun c_4 => ?_) (fun c_4 => ?_)
        · have h := ifp c_4 h
          obtain rfl := Option.some.inj h
          exact J_4 hP hD hS (lv_sub hl [0, 1, 2, 3, 4] rfl)
        · have h := ifn c_4 h
          refine lv_iload_n hx hb dX2_masksOf_23 rfl (lv_at hl 3 rfl) ?_
          refine lv_iconst (v := (1 : Int32)) hx hb dX2_masksOf_24 (by decide) ?_
          refine lv_aload_n hx hb dX2_masksOf_25 rfl (lv_at hl 0 rfl) ?_
          refine lv_iload hx hb dX2_masksOf_26 (lv_at hl 4 rfl) ?_
          refine lv_iload_n hx hb dX2_masksOf_28 rfl (lv_at hl 2 rfl) ?_
          obtain ⟨u_5, e_5, h⟩ := bd_some h
          refine cm_Vi (As := [.int x4_5, .int x2_5]) (rest := [.int (1 : Int32), .int x3_5]) ⟨hx, hb, hml, hown, hts⟩ (c_X2_row (ca := ca) (ev := ev) (n0 := n0) (n1 := n1) (n2 := n2) (n3 := n3) (n4 := n4) (n5 := n5) (n6 := n6) (n7 := n7) (c0 := c0) (c1 := c1) (c2 := c2) (c3 := c3) (c4 := c4) (c5 := c5) (c6 := c6) (order := order) (stepsAt := stepsAt_5) (doubts := doubts) (weights := weights_5) (rows := rows_5) (metEver := metEver) (bowedTo := bowedTo) (isStale := isStale) (bowCount := bowCount) (doubtCount := doubtCount_5) (seenBows := seenBows) (likeliest := likeliest) (mostSayingsSo := mostSayingsSo) (bsize := bsize) (bcells := bcells) (ssize := ssize) (scells := scells) (dsize := dsize) (dcells := dcells) (people := people) (rule := rule) (believed := believed) e_5) (cwV 2 hts gX2_masksOf_X2_row rfl rfl rfl hd_X2_row ⟨Nat.le_of_ble_eq_true rfl, Nat.le_of_ble_eq_true rfl⟩) hK hP hD hS hA hE (q0 := 0) (ci := 2) rfl rfl rfl rfl hl.1 rfl (Nat.le_of_ble_eq_true rfl) dX2_masksOf_29 ⟨Nat.zero_le _, Nat.zero_le _⟩ (fun H locs hP hD hS => ?_)
          refine lv_iload_n hx hb dX2_masksOf_32 rfl (lv_at hl 1 rfl) ?_
          obtain ⟨u_6, e_6, h⟩ := bd_some h
          refine cn_Ni (As := [.int u_5, .int x1_5]) (rest := [.int (1 : Int32), .int x3_5]) ⟨hx, hb, hml, hown, hts⟩ (c_X7_maskOf e_6) (⟨va_cnB 2 hts gX2_masksOf_X7_maskOf_n110 rfl rfl rfl (hE.2.1 ("MaskBows$Nights", 110, ⟨"MaskBows", "maskOf", "(II)I"⟩, "MaskBows") (by decide +kernel)) (hts (.initialized RX7) (by decide +kernel)) hd_X7_maskOf ⟨Nat.le_of_ble_eq_true rfl, Nat.le_of_ble_eq_true rfl⟩, hts (.static yX7_maskOf) (by decide +kernel), trivial⟩) hK hP hD hS hA hE rfl hl.1 rfl (Nat.le_of_ble_eq_true rfl) dX2_masksOf_33 ⟨Nat.zero_le _, Nat.zero_le _⟩ (fun H locs hP hD hS => ?_)
          refine lv_ishl hx hb dX2_masksOf_36 ?_
          refine lv_ior hx hb dX2_masksOf_37 ?_
          refine lv_istore_n (lv' := [(3, .int (x3_5 ||| ((1 : Int32) <<< (u_6 &&& 31)))), (0, .ref n0), (1, .int x1_5), (2, .int x2_5), (4, .int x4_5)]) hx hb dX2_masksOf_38 rfl hl (by decide) rfl (fun ls hl => ?_)
          obtain rfl := Option.some.inj h
          exact J_4 hP hD hS (lv_sub hl [1, 2, 3, 0, 4] rfl)
  obtain ⟨u_7, e_7, h⟩ := bd_some h
  refine L_5 _ e_7 hP hD hS (lv_sub hl [2, 3, 4, 1, 0] rfl) ?_
  intro H locs ls hP hD hS hl
  refine lv_iload_n hx hb dX2_masksOf_45 rfl (lv_at hl 0 rfl) ?_
  obtain rfl := Option.some.inj h
  exact hRet hP hD hS dX2_masksOf_46
abbrev rm_X5_tells : Room := { frames := 1, cells := 0, slots := 0, locals := 23 }
theorem hd_X5_tells : yX5_tells.cls = RX5 ∧ yX5_tells.cls ≠ "java/lang/invoke/MethodHandle" ∧ yX5_tells.cls ≠ "java/lang/invoke/VarHandle" ∧ (parseMethodDescriptor yX5_tells.desc).map (fun d => d.parameters.length) = some 2 := by decide +kernel
set_option maxHeartbeats 4000000 in
set_option maxRecDepth 100000 in
theorem c_X5_tells {l : Launch} {G : va_G} {ca : Nat → ClassId} {ev : Nat → Nat} {s0 s1 : Nat} {nums : (Nat → Int64)} {bits : Int32} {len : Int32} {a1 : Int32} {a2 : Int32} {N : Nat} {res : Int32} (h : f_X5_tells N nums len a1 a2 = some res) : CtI l yX5_tells wsX5_tells rm_X5_tells G ca ev [.ref s0, .int a1, .int a2] (wS ca ev s0 s1 nums bits len) (wS ca ev s0 s1 nums bits len) res := by
  unfold f_X5_tells at h
  refine en_z (by decide) rfl (Nat.le_of_ble_eq_true rfl) ?_
  intro p e s m args below meth c A Q H locs ls hx hb hml hown hts hA hP hK hD hE hS hl hRet
  have hown : s.vm.findClass RX5 = some m.cls := hown
  have hl : lv_has ls 5 [(0, .ref s0), (1, .int a1), (2, .int a2)] := hl
  have hin_X5 : ∀ w ∈ u_ws RX5 TX5 3, w ∈ wsX5_tells := fun w h9 => List.mem_cons_of_mem _ (List.mem_append_right _ h9)
  have fk_19 := hts (.fieldLink RX5 19 "MaskBows$Sheet" "length" "I") (by decide +kernel)
  have fk_9 := hts (.fieldLink RX5 9 "MaskBows$Sheet" "numbers" "[J") (by decide +kernel)
  refine lv_aload_n hx hb dX5_tells_0 rfl (lv_at hl 0 rfl) ?_
  refine va_get (D := G) (ci := 5) (v := .int len) (C := RX5) (T := TX5) (N := 3) hx hb hts hin_X5 hown hK hP 0 rfl rfl 2 (by decide) fk_19 (fun _ h9 => h9) rfl dX5_tells_1 ?_
  refine lv_iload_n hx hb dX5_tells_4 rfl (lv_at hl 2 rfl) ?_
  refine va_mmin hx hb (hml.trans hl.1.symm) hown (hts (.methodLink RX5 22 Lib.Math.min.name) (by decide +kernel)) (hts (.static Lib.Math.min.name) (by decide +kernel)) (hts (.initialized "java/lang/Math") (by decide +kernel)) (hts (.code Lib.Math.min.name Lib.Math.min.code 2 (some .int)) (by decide +kernel)) (Nat.le_of_ble_eq_true rfl) (Nat.le_of_ble_eq_true rfl) (Nat.zero_le _) (Nat.zero_le _) dX5_tells_5 ?_
  refine lv_istore_n (lv' := [(3, .int (if a2 < len then a2 else len)), (0, .ref s0), (1, .int a1), (2, .int a2)]) hx hb dX5_tells_8 rfl hl (by decide) rfl (fun ls hl => ?_)
  refine lv_iconst (v := (0 : Int32)) hx hb dX5_tells_9 (by decide) ?_
  refine lv_istore (lv' := [(4, .int (0 : Int32)), (3, .int (if a2 < len then a2 else len)), (0, .ref s0), (1, .int a1), (2, .int a2)]) hx hb dX5_tells_10 hl (by decide) rfl (fun ls hl => ?_)
  have L_12 : ∀ {x1_12 : Int32} {x3_12 : Int32} {nums_12 : (Nat → Int64)} {K_12 : Unit → Option (Int32)} (n_12 : Nat) {x4_12 : Int32} {H : Heap} {locs : List Loc} {ls : Array Slot}, f_X5_tells_12 x1_12 x3_12 nums_12 K_12  n_12 x4_12 = some res → (∀ {H : Heap} {locs : List Loc} {pc : Nat} {ls : Array Slot}, va_P G vwCl (wS ca ev s0 s1 nums_12 bits len) H → va_D A (wS ca ev s0 s1 nums_12 bits len) → va_S A s.heap H locs → (res = 0 ∨ res = 1) → decode cX5_tells pc = .ok (.ireturn, 1) → W p l e rm_X5_tells s m args below meth c H locs 0 0 Q (F0 m pc ls [.int res])) → va_P G vwCl (wS ca ev s0 s1 nums_12 bits len) H → va_D A (wS ca ev s0 s1 nums_12 bits len) → va_S A s.heap H locs → lv_has ls 5 [(0, .ref s0), (1, .int x1_12), (3, .int x3_12), (4, .int x4_12)] → (∀ {uL_12 : Unit} {H : Heap} {locs : List Loc} {ls : Array Slot}, K_12 uL_12 = some res → va_P G vwCl (wS ca ev s0 s1 nums_12 bits len) H → va_D A (wS ca ev s0 s1 nums_12 bits len) → va_S A s.heap H locs → lv_has ls 5 [] → W p l e rm_X5_tells s m args below meth c H locs 0 0 Q (F0 m 44 ls [])) → W p l e rm_X5_tells s m args below meth c H locs 0 0 Q (F0 m 12 ls []) := by
    intro x1_12 x3_12 nums_12 K_12 n_12
    induction n_12 with
    | zero => intro x4_12 H locs ls h; exact absurd h (by rw [f_X5_tells_12]; exact fun z => nomatch z)
    | succ n_12 ih =>
      intro x4_12 H locs ls h hRet hP hD hS hl JK_12
      rw [f_X5_tells_12] at h
      refine lv_iload hx hb dX5_tells_12 (lv_at hl 3 rfl) ?_
      refine lv_iload_n hx hb dX5_tells_14 rfl (lv_at hl 2 rfl) ?_
      refine lv_icmp_ge (tgt := 44) hx hb dX5_tells_15 (by decide) (fun c_1 => ?_) (fun c_1 => ?_)
      · have h := ifp c_1 h
        exact JK_12 h hP hD hS (lv_sub hl [] rfl)
      · have h := ifn c_1 h
        refine lv_aload_n hx hb dX5_tells_18 rfl (lv_at hl 0 rfl) ?_
        refine va_get (D := G) (ci := 5) (v := .ref s1) (C := RX5) (T := TX5) (N := 3) hx hb hts hin_X5 hown hK hP 0 rfl rfl 0 (by decide) fk_9 (fun _ h9 => h9) rfl dX5_tells_19 ?_
        refine lv_iload hx hb dX5_tells_22 (lv_at hl 3 rfl) ?_
        obtain ⟨i_2, h⟩ := gd_some h
        refine va_lald hx hb hK hP 1 1 rfl rfl (ix_in i_2) dX5_tells_24 ?_
        refine lv_iload_n hx hb dX5_tells_25 rfl (lv_at hl 1 rfl) ?_
        refine lv_iload hx hb dX5_tells_26 (lv_at hl 3 rfl) ?_
        obtain ⟨u_3, e_3, h⟩ := bd_some h
        refine cn_Ni (As := [.int x1_12, .int x4_12]) (rest := [.long (nums_12 x4_12.toNatClampNeg)]) ⟨hx, hb, hml, hown, hts⟩ (c_X7_wearer e_3) (⟨va_cnB 2 hts gX5_tells_X7_wearer_n49 rfl rfl rfl (hE.2.1 ("MaskBows$Sheet", 49, ⟨"MaskBows", "wearer", "(II)I"⟩, "MaskBows") (by decide +kernel)) (hts (.initialized RX7) (by decide +kernel)) hd_X7_wearer ⟨Nat.le_of_ble_eq_true rfl, Nat.le_of_ble_eq_true rfl⟩, hts (.static yX7_wearer) (by decide +kernel), trivial⟩) hK hP hD hS hA hE rfl hl.1 rfl (Nat.le_of_ble_eq_true rfl) dX5_tells_28 ⟨Nat.zero_le _, Nat.zero_le _⟩ (fun H locs hP hD hS => ?_)
        refine lv_i2l (v := u_3.toInt64) hx hb dX5_tells_31 rfl ?_
        refine W.lcmp hx hb dX5_tells_32 ?_
        refine lv_if_eq (tgt := 38) hx hb dX5_tells_33 (by decide) (fun c_4 => ?_) (fun c_4 => ?_)
        · have h := ifp c_4 h
          refine lv_iinc (v := (x4_12 + (1 : Int32))) (lv' := [(4, .int (x4_12 + (1 : Int32))), (0, .ref s0), (1, .int x1_12), (3, .int x3_12)]) hx hb dX5_tells_38 hl (k := 3) rfl rfl (by decide) rfl (fun ls hl => ?_)
          refine lv_goto (tgt := 12) hx hb dX5_tells_41 (by decide) ?_
          exact ih h hRet hP hD hS (lv_sub hl [1, 2, 3, 0] rfl) JK_12
        · have h := ifn c_4 h
          refine lv_iconst (v := (0 : Int32)) hx hb dX5_tells_36 (by decide) ?_
          obtain rfl := Option.some.inj h
          exact hRet hP hD hS zb_0 dX5_tells_37
  refine L_12 _ h hRet hP hD hS (lv_sub hl [2, 3, 1, 0] rfl) ?_
  clear h
  intro u_5 H locs ls h hP hD hS hl
  refine lv_iconst (v := (1 : Int32)) hx hb dX5_tells_44 (by decide) ?_
  obtain rfl := Option.some.inj h
  exact hRet hP hD hS zb_1 dX5_tells_45
abbrev rm_X2_oddsOfSheet : Room := { frames := 2, cells := 0, slots := 0, locals := 47 }
theorem hd_X2_oddsOfSheet : yX2_oddsOfSheet.cls = RX2 ∧ yX2_oddsOfSheet.cls ≠ "java/lang/invoke/MethodHandle" ∧ yX2_oddsOfSheet.cls ≠ "java/lang/invoke/VarHandle" ∧ (parseMethodDescriptor yX2_oddsOfSheet.desc).map (fun d => d.parameters.length) = some 2 := by decide +kernel
set_option maxHeartbeats 4000000 in
set_option maxRecDepth 100000 in
theorem c_X2_oddsOfSheet {l : Launch} {G : va_G} {ca : Nat → ClassId} {ev : Nat → Nat} {n0 n1 n2 n3 n4 n5 n6 n7 c0 c1 c2 c3 c4 c5 c6 s0 s1 : Nat} {order : (Nat → Int32)} {stepsAt : (Nat → Int32)} {doubts : (Nat → Int32)} {weights : (Nat → Int32)} {rows : (Nat → Int32)} {metEver : (Nat → Int32)} {bowedTo : (Nat → Int32)} {isStale : Int32} {bowCount : Int32} {doubtCount : Int32} {seenBows : Int32} {likeliest : Int32} {mostSayingsSo : Int32} {bsize : Int32} {bcells : (Nat → Int32)} {ssize : Int32} {scells : (Nat → Int32)} {dsize : Int32} {dcells : (Nat → Int32)} {people : Int32} {rule : Int32} {believed : Int32} {nums : (Nat → Int64)} {bits : Int32} {len : Int32} {a2 : Int32} {N : Nat} {res : Int64} (h : f_X2_oddsOfSheet N stepsAt weights rows doubtCount people nums len a2 = some res) : CtL l yX2_oddsOfSheet wsX2_oddsOfSheet rm_X2_oddsOfSheet G ca ev [.ref n0, .ref s0, .int a2] (wNS ca ev n0 n1 n2 n3 n4 n5 n6 n7 c0 c1 c2 c3 c4 c5 c6 s0 s1 order stepsAt doubts weights rows metEver bowedTo isStale bowCount doubtCount seenBows likeliest mostSayingsSo bsize bcells ssize scells dsize dcells people rule believed nums bits len) (wNS ca ev n0 n1 n2 n3 n4 n5 n6 n7 c0 c1 c2 c3 c4 c5 c6 s0 s1 order stepsAt doubts weights rows metEver bowedTo isStale bowCount doubtCount seenBows likeliest mostSayingsSo bsize bcells ssize scells dsize dcells people rule believed nums bits len) res := by
  unfold f_X2_oddsOfSheet at h
  refine en_l (by decide) rfl (Nat.le_of_ble_eq_true rfl) ?_
  intro p e s m args below meth c A Q H locs ls hx hb hml hown hts hA hP hK hD hE hS hl hRet
  have hown : s.vm.findClass RX2 = some m.cls := hown
  have hl : lv_has ls 6 [(0, .ref n0), (1, .ref s0), (2, .int a2)] := hl
  have hin_X0 : ∀ w ∈ u_ws RX0 TX0 6, w ∈ wsX2_oddsOfSheet := fun w h9 => List.mem_cons_of_mem _ (List.mem_append_left _ (List.mem_append_right _ h9))
  have hin_X2 : ∀ w ∈ u_ws RX2 TX2 14, w ∈ wsX2_oddsOfSheet := fun w h9 => List.mem_cons_of_mem _ (List.mem_append_left _ (List.mem_append_left _ (List.mem_append_right _ h9)))
  have fk_113 := va_Nw.use (A := args) rfl (hE.1 ("MaskBows$Nights", 113, "MaskBows$Carnival", "people", "I", "MaskBows") (by decide +kernel))
  have fk_53 := hts (.fieldLink RX2 53 "MaskBows$Nights" "carnival" "LMaskBows$Carnival;") (by decide +kernel)
  refine lv_lconst (v := (0 : Int64)) hx hb dX2_oddsOfSheet_0 (by decide) ?_
  refine lv_lstore_n (lv' := [(3, .long (0 : Int64)), (0, .ref n0), (1, .ref s0), (2, .int a2)]) hx hb dX2_oddsOfSheet_1 rfl hl (by decide) rfl (fun ls hl => ?_)
  refine lv_iconst (v := (0 : Int32)) hx hb dX2_oddsOfSheet_2 (by decide) ?_
  refine lv_istore (lv' := [(5, .int (0 : Int32)), (3, .long (0 : Int64)), (0, .ref n0), (1, .ref s0), (2, .int a2)]) hx hb dX2_oddsOfSheet_3 hl (by decide) rfl (fun ls hl => ?_)
  have L_5 : ∀ {x2_5 : Int32} {stepsAt_5 : (Nat → Int32)} {weights_5 : (Nat → Int32)} {rows_5 : (Nat → Int32)} {doubtCount_5 : Int32} {people_5 : Int32} {nums_5 : (Nat → Int64)} {len_5 : Int32} (n_5 : Nat) {x3_5 : Int64} {x5_5 : Int32} {uL_5 : Int64} {H : Heap} {locs : List Loc} {ls : Array Slot}, f_X2_oddsOfSheet_5 N x2_5 stepsAt_5 weights_5 rows_5 doubtCount_5 people_5 nums_5 len_5  n_5 x3_5 x5_5 = some uL_5 → va_P G vwCl (wNS ca ev n0 n1 n2 n3 n4 n5 n6 n7 c0 c1 c2 c3 c4 c5 c6 s0 s1 order stepsAt_5 doubts weights_5 rows_5 metEver bowedTo isStale bowCount doubtCount_5 seenBows likeliest mostSayingsSo bsize bcells ssize scells dsize dcells people_5 rule believed nums_5 bits len_5) H → va_D A (wNS ca ev n0 n1 n2 n3 n4 n5 n6 n7 c0 c1 c2 c3 c4 c5 c6 s0 s1 order stepsAt_5 doubts weights_5 rows_5 metEver bowedTo isStale bowCount doubtCount_5 seenBows likeliest mostSayingsSo bsize bcells ssize scells dsize dcells people_5 rule believed nums_5 bits len_5) → va_S A s.heap H locs → lv_has ls 6 [(0, .ref n0), (1, .ref s0), (2, .int x2_5), (3, .long x3_5), (5, .int x5_5)] → (∀ {H : Heap} {locs : List Loc} {ls : Array Slot}, va_P G vwCl (wNS ca ev n0 n1 n2 n3 n4 n5 n6 n7 c0 c1 c2 c3 c4 c5 c6 s0 s1 order stepsAt_5 doubts weights_5 rows_5 metEver bowedTo isStale bowCount doubtCount_5 seenBows likeliest mostSayingsSo bsize bcells ssize scells dsize dcells people_5 rule believed nums_5 bits len_5) H → va_D A (wNS ca ev n0 n1 n2 n3 n4 n5 n6 n7 c0 c1 c2 c3 c4 c5 c6 s0 s1 order stepsAt_5 doubts weights_5 rows_5 metEver bowedTo isStale bowCount doubtCount_5 seenBows likeliest mostSayingsSo bsize bcells ssize scells dsize dcells people_5 rule believed nums_5 bits len_5) → va_S A s.heap H locs → lv_has ls 6 [(3, .long uL_5)] → W p l e rm_X2_oddsOfSheet s m args below meth c H locs 0 0 Q (F0 m 55 ls [])) → W p l e rm_X2_oddsOfSheet s m args below meth c H locs 0 0 Q (F0 m 5 ls []) := by
    intro x2_5 stepsAt_5 weights_5 rows_5 doubtCount_5 people_5 nums_5 len_5 n_5
    induction n_5 with
    | zero => intro x3_5 x5_5 uL_5 H locs ls h; exact absurd h (by rw [f_X2_oddsOfSheet_5]; exact fun z => nomatch z)
    | succ n_5 ih =>
      intro x3_5 x5_5 uL_5 H locs ls h hP hD hS hl JK_5
      rw [f_X2_oddsOfSheet_5] at h
      refine lv_iload hx hb dX2_oddsOfSheet_5 (lv_at hl 4 rfl) ?_
      refine lv_aload_n hx hb dX2_oddsOfSheet_7 rfl (lv_at hl 0 rfl) ?_
      obtain ⟨u_1, e_1, h⟩ := bd_some h
      refine cl_Vi (As := []) (rest := [.int x5_5]) (Wn := (wNS ca ev n0 n1 n2 n3 n4 n5 n6 n7 c0 c1 c2 c3 c4 c5 c6 s0 s1 order stepsAt_5 doubts weights_5 rows_5 metEver bowedTo isStale bowCount doubtCount_5 seenBows likeliest mostSayingsSo bsize bcells ssize scells dsize dcells people_5 rule believed nums_5 bits len_5)) ⟨hx, hb, hml, hown, hts⟩ (c_X2_size (ca := ca) (ev := ev) (n0 := n0) (n1 := n1) (n2 := n2) (n3 := n3) (n4 := n4) (n5 := n5) (n6 := n6) (n7 := n7) (c0 := c0) (c1 := c1) (c2 := c2) (c3 := c3) (c4 := c4) (c5 := c5) (c6 := c6) (order := order) (stepsAt := stepsAt_5) (doubts := doubts) (weights := weights_5) (rows := rows_5) (metEver := metEver) (bowedTo := bowedTo) (isStale := isStale) (bowCount := bowCount) (doubtCount := doubtCount_5) (seenBows := seenBows) (likeliest := likeliest) (mostSayingsSo := mostSayingsSo) (bsize := bsize) (bcells := bcells) (ssize := ssize) (scells := scells) (dsize := dsize) (dcells := dcells) (people := people_5) (rule := rule) (believed := believed) e_1) (cwV 0 hts gX2_oddsOfSheet_X2_size rfl rfl rfl hd_X2_size ⟨Nat.le_of_ble_eq_true rfl, Nat.le_of_ble_eq_true rfl⟩) hK hP hD hS hA hE wp_13 (q0 := 0) (ci := 2) rfl rfl rfl rfl hl.1 rfl (Nat.le_of_ble_eq_true rfl) dX2_oddsOfSheet_8 ⟨Nat.zero_le _, Nat.zero_le _⟩ (fun H locs hP hD hS => ?_)
      refine lv_icmp_ge (tgt := 55) hx hb dX2_oddsOfSheet_11 (by decide) (fun c_2 => ?_) (fun c_2 => ?_)
      · have h := ifp c_2 h
        obtain rfl := Option.some.inj h
        exact JK_5 hP hD hS (lv_sub hl [3] rfl)
      · have h := ifn c_2 h
        refine lv_aload_n hx hb dX2_oddsOfSheet_14 rfl (lv_at hl 1 rfl) ?_
        refine lv_ifnull hx hb dX2_oddsOfSheet_15 ?_
        refine lv_aload_n hx hb dX2_oddsOfSheet_18 rfl (lv_at hl 1 rfl) ?_
        refine lv_aload_n hx hb dX2_oddsOfSheet_19 rfl (lv_at hl 0 rfl) ?_
        refine lv_iload hx hb dX2_oddsOfSheet_20 (lv_at hl 4 rfl) ?_
        refine lv_iload_n hx hb dX2_oddsOfSheet_22 rfl (lv_at hl 2 rfl) ?_
        obtain ⟨u_3, e_3, h⟩ := bd_some h
        refine cl_Vi (As := [.int x5_5, .int x2_5]) (rest := [.ref s0]) (Wn := (wNS ca ev n0 n1 n2 n3 n4 n5 n6 n7 c0 c1 c2 c3 c4 c5 c6 s0 s1 order stepsAt_5 doubts weights_5 rows_5 metEver bowedTo isStale bowCount doubtCount_5 seenBows likeliest mostSayingsSo bsize bcells ssize scells dsize dcells people_5 rule believed nums_5 bits len_5)) ⟨hx, hb, hml, hown, hts⟩ (c_X2_row (ca := ca) (ev := ev) (n0 := n0) (n1 := n1) (n2 := n2) (n3 := n3) (n4 := n4) (n5 := n5) (n6 := n6) (n7 := n7) (c0 := c0) (c1 := c1) (c2 := c2) (c3 := c3) (c4 := c4) (c5 := c5) (c6 := c6) (order := order) (stepsAt := stepsAt_5) (doubts := doubts) (weights := weights_5) (rows := rows_5) (metEver := metEver) (bowedTo := bowedTo) (isStale := isStale) (bowCount := bowCount) (doubtCount := doubtCount_5) (seenBows := seenBows) (likeliest := likeliest) (mostSayingsSo := mostSayingsSo) (bsize := bsize) (bcells := bcells) (ssize := ssize) (scells := scells) (dsize := dsize) (dcells := dcells) (people := people_5) (rule := rule) (believed := believed) e_3) (cwV 2 hts gX2_oddsOfSheet_X2_row rfl rfl rfl hd_X2_row ⟨Nat.le_of_ble_eq_true rfl, Nat.le_of_ble_eq_true rfl⟩) hK hP hD hS hA hE wp_13 (q0 := 0) (ci := 2) rfl rfl rfl rfl hl.1 rfl (Nat.le_of_ble_eq_true rfl) dX2_oddsOfSheet_23 ⟨Nat.zero_le _, Nat.zero_le _⟩ (fun H locs hP hD hS => ?_)
        refine lv_aload_n hx hb dX2_oddsOfSheet_26 rfl (lv_at hl 0 rfl) ?_
        refine va_get (D := G) (ci := 2) (v := .ref c0) (C := RX2) (T := TX2) (N := 14) hx hb hts hin_X2 hown hK hP 0 rfl rfl 0 (by decide) fk_53 (fun _ h9 => h9) rfl dX2_oddsOfSheet_27 ?_
        refine va_getN (D := G) (ci := 0) (v := .int people_5) (C := RX0) (T := TX0) (N := 6) hx hb hts hin_X0 hown hK hP 8 rfl rfl 3 (by decide) fk_113 (fun _ h9 => h9) rfl dX2_oddsOfSheet_30 ?_
        obtain ⟨u_4, e_4, h⟩ := bd_some h
        refine cl_Vi (As := [.int u_3, .int people_5]) (rest := []) (Wn := (wNS ca ev n0 n1 n2 n3 n4 n5 n6 n7 c0 c1 c2 c3 c4 c5 c6 s0 s1 order stepsAt_5 doubts weights_5 rows_5 metEver bowedTo isStale bowCount doubtCount_5 seenBows likeliest mostSayingsSo bsize bcells ssize scells dsize dcells people_5 rule believed nums_5 bits len_5)) ⟨hx, hb, hml, hown, hts⟩ (c_X5_tells (ca := ca) (ev := ev) (s0 := s0) (s1 := s1) (nums := nums_5) (bits := bits) (len := len_5) e_4) (cwV 2 hts gX2_oddsOfSheet_X5_tells rfl rfl rfl hd_X5_tells ⟨Nat.le_of_ble_eq_true rfl, Nat.le_of_ble_eq_true rfl⟩) hK hP hD hS hA hE wp_14 (q0 := 0) (ci := 5) rfl rfl rfl rfl hl.1 rfl (Nat.le_of_ble_eq_true rfl) dX2_oddsOfSheet_33 ⟨Nat.zero_le _, Nat.zero_le _⟩ (fun H locs hP hD hS => ?_)
        obtain ⟨u_5, e_5, h⟩ := bd_some h
        have J_5 : ∀ {H : Heap} {locs : List Loc} {ls : Array Slot}, va_P G vwCl (wNS ca ev n0 n1 n2 n3 n4 n5 n6 n7 c0 c1 c2 c3 c4 c5 c6 s0 s1 order stepsAt_5 doubts weights_5 rows_5 metEver bowedTo isStale bowCount doubtCount_5 seenBows likeliest mostSayingsSo bsize bcells ssize scells dsize dcells people_5 rule believed nums_5 bits len_5) H → va_D A (wNS ca ev n0 n1 n2 n3 n4 n5 n6 n7 c0 c1 c2 c3 c4 c5 c6 s0 s1 order stepsAt_5 doubts weights_5 rows_5 metEver bowedTo isStale bowCount doubtCount_5 seenBows likeliest mostSayingsSo bsize bcells ssize scells dsize dcells people_5 rule believed nums_5 bits len_5) → va_S A s.heap H locs → lv_has ls 6 [(0, .ref n0), (1, .ref s0), (2, .int x2_5), (3, .long u_5), (5, .int x5_5)] → W p l e rm_X2_oddsOfSheet s m args below meth c H locs 0 0 Q (F0 m 49 ls []) := by
          intro H locs ls hP hD hS hl 
          refine lv_iinc (v := (x5_5 + (1 : Int32))) (lv' := [(5, .int (x5_5 + (1 : Int32))), (0, .ref n0), (1, .ref s0), (2, .int x2_5), (3, .long u_5)]) hx hb dX2_oddsOfSheet_49 hl (k := 4) rfl rfl (by decide) rfl (fun ls hl => ?_)
          refine lv_goto (tgt := 5) hx hb dX2_oddsOfSheet_52 (by decide) ?_
          exact ih h hP hD hS (lv_sub hl [1, 2, 3, 4, 0] rfl) JK_5
        have h := e_5
        clear e_5
        refine lv_if_eq (tgt := 49) hx hb dX2_oddsOfSheet_36 (by decide) (fun c_5 => ?_) (fun c_5 => ?_)
        · have h := ifp c_5 h
          obtain rfl := Option.some.inj h
          exact J_5 hP hD hS (lv_sub hl [0, 1, 2, 3, 4] rfl)
        · have h := ifn c_5 h
          refine lv_lload_n hx hb dX2_oddsOfSheet_39 rfl (lv_at hl 3 rfl) ?_
          refine lv_aload_n hx hb dX2_oddsOfSheet_40 rfl (lv_at hl 0 rfl) ?_
          refine lv_iload hx hb dX2_oddsOfSheet_41 (lv_at hl 4 rfl) ?_
          obtain ⟨u_6, e_6, h⟩ := bd_some h
          refine cl_Vi (As := [.int x5_5]) (rest := [.long x3_5]) (Wn := (wNS ca ev n0 n1 n2 n3 n4 n5 n6 n7 c0 c1 c2 c3 c4 c5 c6 s0 s1 order stepsAt_5 doubts weights_5 rows_5 metEver bowedTo isStale bowCount doubtCount_5 seenBows likeliest mostSayingsSo bsize bcells ssize scells dsize dcells people_5 rule believed nums_5 bits len_5)) ⟨hx, hb, hml, hown, hts⟩ (c_X2_weight (ca := ca) (ev := ev) (n0 := n0) (n1 := n1) (n2 := n2) (n3 := n3) (n4 := n4) (n5 := n5) (n6 := n6) (n7 := n7) (c0 := c0) (c1 := c1) (c2 := c2) (c3 := c3) (c4 := c4) (c5 := c5) (c6 := c6) (order := order) (stepsAt := stepsAt_5) (doubts := doubts) (weights := weights_5) (rows := rows_5) (metEver := metEver) (bowedTo := bowedTo) (isStale := isStale) (bowCount := bowCount) (doubtCount := doubtCount_5) (seenBows := seenBows) (likeliest := likeliest) (mostSayingsSo := mostSayingsSo) (bsize := bsize) (bcells := bcells) (ssize := ssize) (scells := scells) (dsize := dsize) (dcells := dcells) (people := people_5) (rule := rule) (believed := believed) e_6) (cwV 1 hts gX2_oddsOfSheet_X2_weight rfl rfl rfl hd_X2_weight ⟨Nat.le_of_ble_eq_true rfl, Nat.le_of_ble_eq_true rfl⟩) hK hP hD hS hA hE wp_13 (q0 := 0) (ci := 2) rfl rfl rfl rfl hl.1 rfl (Nat.le_of_ble_eq_true rfl) dX2_oddsOfSheet_43 ⟨Nat.zero_le _, Nat.zero_le _⟩ (fun H locs hP hD hS => ?_)
          refine lv_i2l (v := u_6.toInt64) hx hb dX2_oddsOfSheet_46 rfl ?_
          refine lv_ladd hx hb dX2_oddsOfSheet_47 ?_
          refine lv_lstore_n (lv' := [(3, .long (x3_5 + u_6.toInt64)), (0, .ref n0), (1, .ref s0), (2, .int x2_5), (5, .int x5_5)]) hx hb dX2_oddsOfSheet_48 rfl hl (by decide) rfl (fun ls hl => ?_)
          obtain rfl := Option.some.inj h
          exact J_5 hP hD hS (lv_sub hl [1, 2, 3, 0, 4] rfl)
  obtain ⟨u_7, e_7, h⟩ := bd_some h
  refine L_5 _ e_7 hP hD hS (lv_sub hl [2, 3, 4, 1, 0] rfl) ?_
  intro H locs ls hP hD hS hl
  refine lv_lload_n hx hb dX2_oddsOfSheet_55 rfl (lv_at hl 0 rfl) ?_
  obtain rfl := Option.some.inj h
  exact hRet hP hD hS dX2_oddsOfSheet_56
