abbrev rm_X1_owedInAllBy : Room := { frames := 3, cells := 0, slots := 0, locals := 67 }
theorem hd_X1_owedInAllBy : yX1_owedInAllBy.cls = RX1 ∧ yX1_owedInAllBy.cls ≠ "java/lang/invoke/MethodHandle" ∧ yX1_owedInAllBy.cls ≠ "java/lang/invoke/VarHandle" ∧ (parseMethodDescriptor yX1_owedInAllBy.desc).map (fun d => d.parameters.length) = some 1 := by decide +kernel
set_option maxHeartbeats 4000000 in
set_option maxRecDepth 100000 in
theorem c_X1_owedInAllBy {l : Launch} {G : va_G} {ca : Nat → ClassId} {ev : Nat → Nat} {b0 b1 b2 n0 n1 n2 n3 n4 n5 n6 n7 c0 c1 c2 c3 c4 c5 c6 : Nat} {doers : (Nat → Int64)} {isTelling : (Nat → Int32)} {order : (Nat → Int32)} {stepsAt : (Nat → Int32)} {doubts : (Nat → Int32)} {weights : (Nat → Int32)} {rows : (Nat → Int32)} {metEver : (Nat → Int32)} {bowedTo : (Nat → Int32)} {isStale : Int32} {bowCount : Int32} {doubtCount : Int32} {seenBows : Int32} {likeliest : Int32} {mostSayingsSo : Int32} {bsize : Int32} {bcells : (Nat → Int32)} {ssize : Int32} {scells : (Nat → Int32)} {dsize : Int32} {dcells : (Nat → Int32)} {people : Int32} {rule : Int32} {believed : Int32} {a1 : Int32} {N : Nat} {res : Int64} (h : f_X1_owedInAllBy N stepsAt weights rows doubtCount dsize dcells a1 = some res) : CtL l yX1_owedInAllBy wsX1_owedInAllBy rm_X1_owedInAllBy G ca ev [.ref b0, .int a1] (wB ca ev b0 b1 b2 n0 n1 n2 n3 n4 n5 n6 n7 c0 c1 c2 c3 c4 c5 c6 doers isTelling order stepsAt doubts weights rows metEver bowedTo isStale bowCount doubtCount seenBows likeliest mostSayingsSo bsize bcells ssize scells dsize dcells people rule believed) (wB ca ev b0 b1 b2 n0 n1 n2 n3 n4 n5 n6 n7 c0 c1 c2 c3 c4 c5 c6 doers isTelling order stepsAt doubts weights rows metEver bowedTo isStale bowCount doubtCount seenBows likeliest mostSayingsSo bsize bcells ssize scells dsize dcells people rule believed) res := by
  unfold f_X1_owedInAllBy at h
  refine en_l (by decide) rfl (Nat.le_of_ble_eq_true rfl) ?_
  intro p e s m args below meth c A Q H locs ls hx hb hml hown hts hA hP hK hD hE hS hl hRet
  have hown : s.vm.findClass RX1 = some m.cls := hown
  have hl : lv_has ls 10 [(0, .ref b0), (1, .int a1)] := hl
  have hin_X0 : ∀ w ∈ u_ws RX0 TX0 6, w ∈ wsX1_owedInAllBy := fun w h9 => List.mem_cons_of_mem _ (List.mem_append_left _ (List.mem_append_left _ (List.mem_append_right _ h9)))
  have hin_X1 : ∀ w ∈ u_ws RX1 TX1 4, w ∈ wsX1_owedInAllBy := fun w h9 => List.mem_cons_of_mem _ (List.mem_append_left _ (List.mem_append_left _ (List.mem_append_left _ (List.mem_append_right _ h9))))
  have fk_19 := hts (.fieldLink RX1 19 "MaskBows$DeedBook" "carnival" "LMaskBows$Carnival;") (by decide +kernel)
  have fk_23 := hts (.fieldLink RX1 23 "MaskBows$DeedBook" "table" "LMaskBows$Nights;") (by decide +kernel)
  have fk_51 := va_Nw.use (A := args) rfl (hE.1 ("MaskBows$DeedBook", 51, "MaskBows$Carnival", "deeds", "LMaskBows$Rows;", "MaskBows") (by decide +kernel))
  refine lv_lconst (v := (0 : Int64)) hx hb dX1_owedInAllBy_0 (by decide) ?_
  refine lv_lstore_n (lv' := [(2, .long (0 : Int64)), (0, .ref b0), (1, .int a1)]) hx hb dX1_owedInAllBy_1 rfl hl (by decide) rfl (fun ls hl => ?_)
  refine lv_iconst (v := (0 : Int32)) hx hb dX1_owedInAllBy_2 (by decide) ?_
  refine lv_istore (lv' := [(4, .int (0 : Int32)), (2, .long (0 : Int64)), (0, .ref b0), (1, .int a1)]) hx hb dX1_owedInAllBy_3 hl (by decide) rfl (fun ls hl => ?_)
  have L_5 : ∀ {x1_5 : Int32} {stepsAt_5 : (Nat → Int32)} {weights_5 : (Nat → Int32)} {rows_5 : (Nat → Int32)} {doubtCount_5 : Int32} {dsize_5 : Int32} {dcells_5 : (Nat → Int32)} (n_5 : Nat) {x2_5 : Int64} {x4_5 : Int32} {uL_5 : Int64} {H : Heap} {locs : List Loc} {ls : Array Slot}, f_X1_owedInAllBy_5 N x1_5 stepsAt_5 weights_5 rows_5 doubtCount_5 dsize_5 dcells_5  n_5 x2_5 x4_5 = some uL_5 → va_P G vwCl (wB ca ev b0 b1 b2 n0 n1 n2 n3 n4 n5 n6 n7 c0 c1 c2 c3 c4 c5 c6 doers isTelling order stepsAt_5 doubts weights_5 rows_5 metEver bowedTo isStale bowCount doubtCount_5 seenBows likeliest mostSayingsSo bsize bcells ssize scells dsize_5 dcells_5 people rule believed) H → va_D A (wB ca ev b0 b1 b2 n0 n1 n2 n3 n4 n5 n6 n7 c0 c1 c2 c3 c4 c5 c6 doers isTelling order stepsAt_5 doubts weights_5 rows_5 metEver bowedTo isStale bowCount doubtCount_5 seenBows likeliest mostSayingsSo bsize bcells ssize scells dsize_5 dcells_5 people rule believed) → va_S A s.heap H locs → lv_has ls 10 [(0, .ref b0), (1, .int x1_5), (2, .long x2_5), (4, .int x4_5)] → (∀ {H : Heap} {locs : List Loc} {ls : Array Slot}, va_P G vwCl (wB ca ev b0 b1 b2 n0 n1 n2 n3 n4 n5 n6 n7 c0 c1 c2 c3 c4 c5 c6 doers isTelling order stepsAt_5 doubts weights_5 rows_5 metEver bowedTo isStale bowCount doubtCount_5 seenBows likeliest mostSayingsSo bsize bcells ssize scells dsize_5 dcells_5 people rule believed) H → va_D A (wB ca ev b0 b1 b2 n0 n1 n2 n3 n4 n5 n6 n7 c0 c1 c2 c3 c4 c5 c6 doers isTelling order stepsAt_5 doubts weights_5 rows_5 metEver bowedTo isStale bowCount doubtCount_5 seenBows likeliest mostSayingsSo bsize bcells ssize scells dsize_5 dcells_5 people rule believed) → va_S A s.heap H locs → lv_has ls 10 [(2, .long uL_5)] → W p l e rm_X1_owedInAllBy s m args below meth c H locs 0 0 Q (F0 m 89 ls [])) → W p l e rm_X1_owedInAllBy s m args below meth c H locs 0 0 Q (F0 m 5 ls []) := by
    intro x1_5 stepsAt_5 weights_5 rows_5 doubtCount_5 dsize_5 dcells_5 n_5
    induction n_5 with
    | zero => intro x2_5 x4_5 uL_5 H locs ls h; exact absurd h (by rw [f_X1_owedInAllBy_5]; exact fun z => nomatch z)
    | succ n_5 ih =>
      intro x2_5 x4_5 uL_5 H locs ls h hP hD hS hl JK_5
      rw [f_X1_owedInAllBy_5] at h
      refine lv_iload hx hb dX1_owedInAllBy_5 (lv_at hl 3 rfl) ?_
      refine lv_aload_n hx hb dX1_owedInAllBy_7 rfl (lv_at hl 0 rfl) ?_
      refine va_get (D := G) (ci := 1) (v := .ref c0) (C := RX1) (T := TX1) (N := 4) hx hb hts hin_X1 hown hK hP 0 rfl rfl 0 (by decide) fk_19 (fun _ h9 => h9) rfl dX1_owedInAllBy_8 ?_
      refine va_getN (D := G) (ci := 0) (v := .ref c5) (C := RX0) (T := TX0) (N := 6) hx hb hts hin_X0 hown hK hP 11 rfl rfl 2 (by decide) fk_51 (fun _ h9 => h9) rfl dX1_owedInAllBy_11 ?_
      obtain ⟨u_1, e_1, h⟩ := bd_some h
      refine cl_Vi (As := []) (rest := [.int x4_5]) (Wn := (wB ca ev b0 b1 b2 n0 n1 n2 n3 n4 n5 n6 n7 c0 c1 c2 c3 c4 c5 c6 doers isTelling order stepsAt_5 doubts weights_5 rows_5 metEver bowedTo isStale bowCount doubtCount_5 seenBows likeliest mostSayingsSo bsize bcells ssize scells dsize_5 dcells_5 people rule believed)) ⟨hx, hb, hml, hown, hts⟩ (c_X4_size (ca := ca) (ev := ev) (r0 := c5) (r1 := c6) (limit := (12 : Int32)) (width := (5 : Int32)) (size := dsize_5) (cells := dcells_5) (nc := 60) e_1) (cwV 0 hts gX1_owedInAllBy_X4_size rfl rfl rfl hd_X4_size ⟨Nat.le_of_ble_eq_true rfl, Nat.le_of_ble_eq_true rfl⟩) hK hP hD hS hA hE wp_8 (q0 := 0) (ci := 4) rfl rfl rfl rfl hl.1 rfl (Nat.le_of_ble_eq_true rfl) dX1_owedInAllBy_14 ⟨Nat.zero_le _, Nat.zero_le _⟩ (fun H locs hP hD hS => ?_)
      refine lv_icmp_ge (tgt := 89) hx hb dX1_owedInAllBy_17 (by decide) (fun c_2 => ?_) (fun c_2 => ?_)
      · have h := ifp c_2 h
        obtain rfl := Option.some.inj h
        exact JK_5 hP hD hS (lv_sub hl [2] rfl)
      · have h := ifn c_2 h
        refine lv_aload_n hx hb dX1_owedInAllBy_20 rfl (lv_at hl 0 rfl) ?_
        refine lv_iload hx hb dX1_owedInAllBy_21 (lv_at hl 3 rfl) ?_
        refine lv_iconst (v := (1 : Int32)) hx hb dX1_owedInAllBy_23 (by decide) ?_
        obtain ⟨u_3, e_3, h⟩ := bd_some h
        refine cm_Vi (As := [.int x4_5, .int (1 : Int32)]) (rest := []) ⟨hx, hb, hml, hown, hts⟩ (c_X1_part (ca := ca) (ev := ev) (b0 := b0) (b1 := b1) (b2 := b2) (n0 := n0) (n1 := n1) (n2 := n2) (n3 := n3) (n4 := n4) (n5 := n5) (n6 := n6) (n7 := n7) (c0 := c0) (c1 := c1) (c2 := c2) (c3 := c3) (c4 := c4) (c5 := c5) (c6 := c6) (doers := doers) (isTelling := isTelling) (order := order) (stepsAt := stepsAt_5) (doubts := doubts) (weights := weights_5) (rows := rows_5) (metEver := metEver) (bowedTo := bowedTo) (isStale := isStale) (bowCount := bowCount) (doubtCount := doubtCount_5) (seenBows := seenBows) (likeliest := likeliest) (mostSayingsSo := mostSayingsSo) (bsize := bsize) (bcells := bcells) (ssize := ssize) (scells := scells) (dsize := dsize_5) (dcells := dcells_5) (people := people) (rule := rule) (believed := believed) e_3) (cwV 2 hts gX1_owedInAllBy_X1_part rfl rfl rfl hd_X1_part ⟨Nat.le_of_ble_eq_true rfl, Nat.le_of_ble_eq_true rfl⟩) hK hP hD hS hA hE (q0 := 0) (ci := 1) rfl rfl rfl rfl hl.1 rfl (Nat.le_of_ble_eq_true rfl) dX1_owedInAllBy_24 ⟨Nat.zero_le _, Nat.zero_le _⟩ (fun H locs hP hD hS => ?_)
        refine lv_istore (lv' := [(5, .int u_3), (0, .ref b0), (1, .int x1_5), (2, .long x2_5), (4, .int x4_5)]) hx hb dX1_owedInAllBy_27 hl (by decide) rfl (fun ls hl => ?_)
        refine lv_aload_n hx hb dX1_owedInAllBy_29 rfl (lv_at hl 1 rfl) ?_
        refine va_get (D := G) (ci := 1) (v := .ref n0) (C := RX1) (T := TX1) (N := 4) hx hb hts hin_X1 hown hK hP 0 rfl rfl 1 (by decide) fk_23 (fun _ h9 => h9) rfl dX1_owedInAllBy_30 ?_
        refine lv_aload_n hx hb dX1_owedInAllBy_33 rfl (lv_at hl 1 rfl) ?_
        refine lv_iload hx hb dX1_owedInAllBy_34 (lv_at hl 4 rfl) ?_
        refine lv_iconst (v := (2 : Int32)) hx hb dX1_owedInAllBy_36 (by decide) ?_
        obtain ⟨u_4, e_4, h⟩ := bd_some h
        refine cm_Vi (As := [.int x4_5, .int (2 : Int32)]) (rest := [.ref n0]) ⟨hx, hb, hml, hown, hts⟩ (c_X1_part (ca := ca) (ev := ev) (b0 := b0) (b1 := b1) (b2 := b2) (n0 := n0) (n1 := n1) (n2 := n2) (n3 := n3) (n4 := n4) (n5 := n5) (n6 := n6) (n7 := n7) (c0 := c0) (c1 := c1) (c2 := c2) (c3 := c3) (c4 := c4) (c5 := c5) (c6 := c6) (doers := doers) (isTelling := isTelling) (order := order) (stepsAt := stepsAt_5) (doubts := doubts) (weights := weights_5) (rows := rows_5) (metEver := metEver) (bowedTo := bowedTo) (isStale := isStale) (bowCount := bowCount) (doubtCount := doubtCount_5) (seenBows := seenBows) (likeliest := likeliest) (mostSayingsSo := mostSayingsSo) (bsize := bsize) (bcells := bcells) (ssize := ssize) (scells := scells) (dsize := dsize_5) (dcells := dcells_5) (people := people) (rule := rule) (believed := believed) e_4) (cwV 2 hts gX1_owedInAllBy_X1_part rfl rfl rfl hd_X1_part ⟨Nat.le_of_ble_eq_true rfl, Nat.le_of_ble_eq_true rfl⟩) hK hP hD hS hA hE (q0 := 0) (ci := 1) rfl rfl rfl rfl hl.1 rfl (Nat.le_of_ble_eq_true rfl) dX1_owedInAllBy_37 ⟨Nat.zero_le _, Nat.zero_le _⟩ (fun H locs hP hD hS => ?_)
        refine lv_iload_n hx hb dX1_owedInAllBy_40 rfl (lv_at hl 2 rfl) ?_
        refine lv_iload hx hb dX1_owedInAllBy_41 (lv_at hl 0 rfl) ?_
        obtain ⟨u_5, e_5, h⟩ := bd_some h
        refine cl_Vl (As := [.int u_4, .int x1_5, .int u_3]) (rest := []) (Wn := (wB ca ev b0 b1 b2 n0 n1 n2 n3 n4 n5 n6 n7 c0 c1 c2 c3 c4 c5 c6 doers isTelling order stepsAt_5 doubts weights_5 rows_5 metEver bowedTo isStale bowCount doubtCount_5 seenBows likeliest mostSayingsSo bsize bcells ssize scells dsize_5 dcells_5 people rule believed)) ⟨hx, hb, hml, hown, hts⟩ (c_X2_oddsOf (ca := ca) (ev := ev) (n0 := n0) (n1 := n1) (n2 := n2) (n3 := n3) (n4 := n4) (n5 := n5) (n6 := n6) (n7 := n7) (c0 := c0) (c1 := c1) (c2 := c2) (c3 := c3) (c4 := c4) (c5 := c5) (c6 := c6) (order := order) (stepsAt := stepsAt_5) (doubts := doubts) (weights := weights_5) (rows := rows_5) (metEver := metEver) (bowedTo := bowedTo) (isStale := isStale) (bowCount := bowCount) (doubtCount := doubtCount_5) (seenBows := seenBows) (likeliest := likeliest) (mostSayingsSo := mostSayingsSo) (bsize := bsize) (bcells := bcells) (ssize := ssize) (scells := scells) (dsize := dsize_5) (dcells := dcells_5) (people := people) (rule := rule) (believed := believed) e_5) (cwV 3 hts gX1_owedInAllBy_X2_oddsOf rfl rfl rfl hd_X2_oddsOf ⟨Nat.le_of_ble_eq_true rfl, Nat.le_of_ble_eq_true rfl⟩) hK hP hD hS hA hE wp_9 (q0 := 0) (ci := 2) rfl rfl rfl rfl hl.1 rfl (Nat.le_of_ble_eq_true rfl) dX1_owedInAllBy_43 ⟨Nat.zero_le _, Nat.zero_le _⟩ (fun H locs hP hD hS => ?_)
        refine lv_lstore (lv' := [(6, .long u_5), (5, .int u_3), (0, .ref b0), (1, .int x1_5), (2, .long x2_5), (4, .int x4_5)]) hx hb dX1_owedInAllBy_46 hl (by decide) rfl (fun ls hl => ?_)
        refine lv_aload_n hx hb dX1_owedInAllBy_48 rfl (lv_at hl 2 rfl) ?_
        refine va_get (D := G) (ci := 1) (v := .ref n0) (C := RX1) (T := TX1) (N := 4) hx hb hts hin_X1 hown hK hP 0 rfl rfl 1 (by decide) fk_23 (fun _ h9 => h9) rfl dX1_owedInAllBy_49 ?_
        refine lv_aload_n hx hb dX1_owedInAllBy_52 rfl (lv_at hl 2 rfl) ?_
        refine lv_iload hx hb dX1_owedInAllBy_53 (lv_at hl 5 rfl) ?_
        refine lv_iconst (v := (3 : Int32)) hx hb dX1_owedInAllBy_55 (by decide) ?_
        obtain ⟨u_6, e_6, h⟩ := bd_some h
        refine cm_Vi (As := [.int x4_5, .int (3 : Int32)]) (rest := [.ref n0]) ⟨hx, hb, hml, hown, hts⟩ (c_X1_part (ca := ca) (ev := ev) (b0 := b0) (b1 := b1) (b2 := b2) (n0 := n0) (n1 := n1) (n2 := n2) (n3 := n3) (n4 := n4) (n5 := n5) (n6 := n6) (n7 := n7) (c0 := c0) (c1 := c1) (c2 := c2) (c3 := c3) (c4 := c4) (c5 := c5) (c6 := c6) (doers := doers) (isTelling := isTelling) (order := order) (stepsAt := stepsAt_5) (doubts := doubts) (weights := weights_5) (rows := rows_5) (metEver := metEver) (bowedTo := bowedTo) (isStale := isStale) (bowCount := bowCount) (doubtCount := doubtCount_5) (seenBows := seenBows) (likeliest := likeliest) (mostSayingsSo := mostSayingsSo) (bsize := bsize) (bcells := bcells) (ssize := ssize) (scells := scells) (dsize := dsize_5) (dcells := dcells_5) (people := people) (rule := rule) (believed := believed) e_6) (cwV 2 hts gX1_owedInAllBy_X1_part rfl rfl rfl hd_X1_part ⟨Nat.le_of_ble_eq_true rfl, Nat.le_of_ble_eq_true rfl⟩) hK hP hD hS hA hE (q0 := 0) (ci := 1) rfl rfl rfl rfl hl.1 rfl (Nat.le_of_ble_eq_true rfl) dX1_owedInAllBy_56 ⟨Nat.zero_le _, Nat.zero_le _⟩ (fun H locs hP hD hS => ?_)
        refine lv_iload_n hx hb dX1_owedInAllBy_59 rfl (lv_at hl 3 rfl) ?_
        refine lv_iload hx hb dX1_owedInAllBy_60 (lv_at hl 1 rfl) ?_
        obtain ⟨u_7, e_7, h⟩ := bd_some h
        refine cl_Vl (As := [.int u_6, .int x1_5, .int u_3]) (rest := []) (Wn := (wB ca ev b0 b1 b2 n0 n1 n2 n3 n4 n5 n6 n7 c0 c1 c2 c3 c4 c5 c6 doers isTelling order stepsAt_5 doubts weights_5 rows_5 metEver bowedTo isStale bowCount doubtCount_5 seenBows likeliest mostSayingsSo bsize bcells ssize scells dsize_5 dcells_5 people rule believed)) ⟨hx, hb, hml, hown, hts⟩ (c_X2_oddsOf (ca := ca) (ev := ev) (n0 := n0) (n1 := n1) (n2 := n2) (n3 := n3) (n4 := n4) (n5 := n5) (n6 := n6) (n7 := n7) (c0 := c0) (c1 := c1) (c2 := c2) (c3 := c3) (c4 := c4) (c5 := c5) (c6 := c6) (order := order) (stepsAt := stepsAt_5) (doubts := doubts) (weights := weights_5) (rows := rows_5) (metEver := metEver) (bowedTo := bowedTo) (isStale := isStale) (bowCount := bowCount) (doubtCount := doubtCount_5) (seenBows := seenBows) (likeliest := likeliest) (mostSayingsSo := mostSayingsSo) (bsize := bsize) (bcells := bcells) (ssize := ssize) (scells := scells) (dsize := dsize_5) (dcells := dcells_5) (people := people) (rule := rule) (believed := believed) e_7) (cwV 3 hts gX1_owedInAllBy_X2_oddsOf rfl rfl rfl hd_X2_oddsOf ⟨Nat.le_of_ble_eq_true rfl, Nat.le_of_ble_eq_true rfl⟩) hK hP hD hS hA hE wp_9 (q0 := 0) (ci := 2) rfl rfl rfl rfl hl.1 rfl (Nat.le_of_ble_eq_true rfl) dX1_owedInAllBy_62 ⟨Nat.zero_le _, Nat.zero_le _⟩ (fun H locs hP hD hS => ?_)
        refine lv_lstore (lv' := [(8, .long u_7), (6, .long u_5), (5, .int u_3), (0, .ref b0), (1, .int x1_5), (2, .long x2_5), (4, .int x4_5)]) hx hb dX1_owedInAllBy_65 hl (by decide) rfl (fun ls hl => ?_)
        refine lv_lload_n hx hb dX1_owedInAllBy_67 rfl (lv_at hl 5 rfl) ?_
        refine lv_aload_n hx hb dX1_owedInAllBy_68 rfl (lv_at hl 3 rfl) ?_
        refine lv_iload hx hb dX1_owedInAllBy_69 (lv_at hl 6 rfl) ?_
        obtain ⟨u_8, e_8, h⟩ := bd_some h
        refine cm_Vi (As := [.int x4_5]) (rest := [.long x2_5]) ⟨hx, hb, hml, hown, hts⟩ (c_X1_paysOf (ca := ca) (ev := ev) (b0 := b0) (b1 := b1) (b2 := b2) (n0 := n0) (n1 := n1) (n2 := n2) (n3 := n3) (n4 := n4) (n5 := n5) (n6 := n6) (n7 := n7) (c0 := c0) (c1 := c1) (c2 := c2) (c3 := c3) (c4 := c4) (c5 := c5) (c6 := c6) (doers := doers) (isTelling := isTelling) (order := order) (stepsAt := stepsAt_5) (doubts := doubts) (weights := weights_5) (rows := rows_5) (metEver := metEver) (bowedTo := bowedTo) (isStale := isStale) (bowCount := bowCount) (doubtCount := doubtCount_5) (seenBows := seenBows) (likeliest := likeliest) (mostSayingsSo := mostSayingsSo) (bsize := bsize) (bcells := bcells) (ssize := ssize) (scells := scells) (dsize := dsize_5) (dcells := dcells_5) (people := people) (rule := rule) (believed := believed) e_8) (cwV 1 hts gX1_owedInAllBy_X1_paysOf rfl rfl rfl hd_X1_paysOf ⟨Nat.le_of_ble_eq_true rfl, Nat.le_of_ble_eq_true rfl⟩) hK hP hD hS hA hE (q0 := 0) (ci := 1) rfl rfl rfl rfl hl.1 rfl (Nat.le_of_ble_eq_true rfl) dX1_owedInAllBy_71 ⟨Nat.zero_le _, Nat.zero_le _⟩ (fun H locs hP hD hS => ?_)
        refine lv_i2l (v := u_8.toInt64) hx hb dX1_owedInAllBy_74 rfl ?_
        refine lv_lload hx hb dX1_owedInAllBy_75 (lv_at hl 1 rfl) ?_
        refine lv_lload hx hb dX1_owedInAllBy_77 (lv_at hl 0 rfl) ?_
        refine lv_lsub hx hb dX1_owedInAllBy_79 ?_
        refine lv_lmul hx hb dX1_owedInAllBy_80 ?_
        refine lv_ladd hx hb dX1_owedInAllBy_81 ?_
        refine lv_lstore_n (lv' := [(2, .long (x2_5 + (u_8.toInt64 * (u_5 - u_7)))), (8, .long u_7), (6, .long u_5), (5, .int u_3), (0, .ref b0), (1, .int x1_5), (4, .int x4_5)]) hx hb dX1_owedInAllBy_82 rfl hl (by decide) rfl (fun ls hl => ?_)
        refine lv_iinc (v := (x4_5 + (1 : Int32))) (lv' := [(4, .int (x4_5 + (1 : Int32))), (2, .long (x2_5 + (u_8.toInt64 * (u_5 - u_7)))), (8, .long u_7), (6, .long u_5), (5, .int u_3), (0, .ref b0), (1, .int x1_5)]) hx hb dX1_owedInAllBy_83 hl (k := 6) rfl rfl (by decide) rfl (fun ls hl => ?_)
        refine lv_goto (tgt := 5) hx hb dX1_owedInAllBy_86 (by decide) ?_
        exact ih h hP hD hS (lv_sub hl [5, 6, 1, 0] rfl) JK_5
  obtain ⟨u_9, e_9, h⟩ := bd_some h
  refine L_5 _ e_9 hP hD hS (lv_sub hl [2, 3, 1, 0] rfl) ?_
  intro H locs ls hP hD hS hl
  refine lv_lload_n hx hb dX1_owedInAllBy_89 rfl (lv_at hl 0 rfl) ?_
  obtain rfl := Option.some.inj h
  exact hRet hP hD hS dX1_owedInAllBy_90
abbrev rm_X1_isBetween : Room := { frames := 2, cells := 0, slots := 0, locals := 44 }
theorem hd_X1_isBetween : yX1_isBetween.cls = RX1 ∧ yX1_isBetween.cls ≠ "java/lang/invoke/MethodHandle" ∧ yX1_isBetween.cls ≠ "java/lang/invoke/VarHandle" ∧ (parseMethodDescriptor yX1_isBetween.desc).map (fun d => d.parameters.length) = some 4 := by decide +kernel
set_option maxHeartbeats 4000000 in
set_option maxRecDepth 100000 in
theorem c_X1_isBetween {l : Launch} {G : va_G} {ca : Nat → ClassId} {ev : Nat → Nat} {b0 b1 b2 n0 n1 n2 n3 n4 n5 n6 n7 c0 c1 c2 c3 c4 c5 c6 : Nat} {doers : (Nat → Int64)} {isTelling : (Nat → Int32)} {order : (Nat → Int32)} {stepsAt : (Nat → Int32)} {doubts : (Nat → Int32)} {weights : (Nat → Int32)} {rows : (Nat → Int32)} {metEver : (Nat → Int32)} {bowedTo : (Nat → Int32)} {isStale : Int32} {bowCount : Int32} {doubtCount : Int32} {seenBows : Int32} {likeliest : Int32} {mostSayingsSo : Int32} {bsize : Int32} {bcells : (Nat → Int32)} {ssize : Int32} {scells : (Nat → Int32)} {dsize : Int32} {dcells : (Nat → Int32)} {people : Int32} {rule : Int32} {believed : Int32} {a1 : Int32} {a2 : Int32} {a3 : Int32} {a4 : Int32} {res : Int32} (h : f_X1_isBetween stepsAt rows dsize dcells a1 a2 a3 a4 = some res) : CtI l yX1_isBetween wsX1_isBetween rm_X1_isBetween G ca ev [.ref b0, .int a1, .int a2, .int a3, .int a4] (wB ca ev b0 b1 b2 n0 n1 n2 n3 n4 n5 n6 n7 c0 c1 c2 c3 c4 c5 c6 doers isTelling order stepsAt doubts weights rows metEver bowedTo isStale bowCount doubtCount seenBows likeliest mostSayingsSo bsize bcells ssize scells dsize dcells people rule believed) (wB ca ev b0 b1 b2 n0 n1 n2 n3 n4 n5 n6 n7 c0 c1 c2 c3 c4 c5 c6 doers isTelling order stepsAt doubts weights rows metEver bowedTo isStale bowCount doubtCount seenBows likeliest mostSayingsSo bsize bcells ssize scells dsize dcells people rule believed) res := by
  unfold f_X1_isBetween at h
  refine en_z (by decide) rfl (Nat.le_of_ble_eq_true rfl) ?_
  intro p e s m args below meth c A Q H locs ls hx hb hml hown hts hA hP hK hD hE hS hl hRet
  have hown : s.vm.findClass RX1 = some m.cls := hown
  have hl : lv_has ls 6 [(0, .ref b0), (1, .int a1), (2, .int a2), (3, .int a3), (4, .int a4)] := hl
  have hin_X1 : ∀ w ∈ u_ws RX1 TX1 4, w ∈ wsX1_isBetween := fun w h9 => List.mem_cons_of_mem _ (List.mem_append_left _ (List.mem_append_left _ (List.mem_append_left _ (List.mem_append_right _ h9))))
  have fk_23 := hts (.fieldLink RX1 23 "MaskBows$DeedBook" "table" "LMaskBows$Nights;") (by decide +kernel)
  refine lv_aload_n hx hb dX1_isBetween_0 rfl (lv_at hl 0 rfl) ?_
  refine va_get (D := G) (ci := 1) (v := .ref n0) (C := RX1) (T := TX1) (N := 4) hx hb hts hin_X1 hown hK hP 0 rfl rfl 1 (by decide) fk_23 (fun _ h9 => h9) rfl dX1_isBetween_1 ?_
  refine lv_iload_n hx hb dX1_isBetween_4 rfl (lv_at hl 1 rfl) ?_
  refine lv_aload_n hx hb dX1_isBetween_5 rfl (lv_at hl 0 rfl) ?_
  refine lv_iload_n hx hb dX1_isBetween_6 rfl (lv_at hl 2 rfl) ?_
  refine lv_iconst (v := (1 : Int32)) hx hb dX1_isBetween_7 (by decide) ?_
  obtain ⟨u_1, e_1, h⟩ := bd_some h
  refine cm_Vi (As := [.int a2, .int (1 : Int32)]) (rest := [.int a1, .ref n0]) ⟨hx, hb, hml, hown, hts⟩ (c_X1_part (ca := ca) (ev := ev) (b0 := b0) (b1 := b1) (b2 := b2) (n0 := n0) (n1 := n1) (n2 := n2) (n3 := n3) (n4 := n4) (n5 := n5) (n6 := n6) (n7 := n7) (c0 := c0) (c1 := c1) (c2 := c2) (c3 := c3) (c4 := c4) (c5 := c5) (c6 := c6) (doers := doers) (isTelling := isTelling) (order := order) (stepsAt := stepsAt) (doubts := doubts) (weights := weights) (rows := rows) (metEver := metEver) (bowedTo := bowedTo) (isStale := isStale) (bowCount := bowCount) (doubtCount := doubtCount) (seenBows := seenBows) (likeliest := likeliest) (mostSayingsSo := mostSayingsSo) (bsize := bsize) (bcells := bcells) (ssize := ssize) (scells := scells) (dsize := dsize) (dcells := dcells) (people := people) (rule := rule) (believed := believed) e_1) (cwV 2 hts gX1_isBetween_X1_part rfl rfl rfl hd_X1_part ⟨Nat.le_of_ble_eq_true rfl, Nat.le_of_ble_eq_true rfl⟩) hK hP hD hS hA hE (q0 := 0) (ci := 1) rfl rfl rfl rfl hl.1 rfl (Nat.le_of_ble_eq_true rfl) dX1_isBetween_8 ⟨Nat.zero_le _, Nat.zero_le _⟩ (fun H locs hP hD hS => ?_)
  obtain ⟨u_2, e_2, h⟩ := bd_some h
  refine cl_Vi (As := [.int a1, .int u_1]) (rest := []) (Wn := (wB ca ev b0 b1 b2 n0 n1 n2 n3 n4 n5 n6 n7 c0 c1 c2 c3 c4 c5 c6 doers isTelling order stepsAt doubts weights rows metEver bowedTo isStale bowCount doubtCount seenBows likeliest mostSayingsSo bsize bcells ssize scells dsize dcells people rule believed)) ⟨hx, hb, hml, hown, hts⟩ (c_X2_row (ca := ca) (ev := ev) (n0 := n0) (n1 := n1) (n2 := n2) (n3 := n3) (n4 := n4) (n5 := n5) (n6 := n6) (n7 := n7) (c0 := c0) (c1 := c1) (c2 := c2) (c3 := c3) (c4 := c4) (c5 := c5) (c6 := c6) (order := order) (stepsAt := stepsAt) (doubts := doubts) (weights := weights) (rows := rows) (metEver := metEver) (bowedTo := bowedTo) (isStale := isStale) (bowCount := bowCount) (doubtCount := doubtCount) (seenBows := seenBows) (likeliest := likeliest) (mostSayingsSo := mostSayingsSo) (bsize := bsize) (bcells := bcells) (ssize := ssize) (scells := scells) (dsize := dsize) (dcells := dcells) (people := people) (rule := rule) (believed := believed) e_2) (cwV 2 hts gX1_isBetween_X2_row rfl rfl rfl hd_X2_row ⟨Nat.le_of_ble_eq_true rfl, Nat.le_of_ble_eq_true rfl⟩) hK hP hD hS hA hE wp_9 (q0 := 0) (ci := 2) rfl rfl rfl rfl hl.1 rfl (Nat.le_of_ble_eq_true rfl) dX1_isBetween_11 ⟨Nat.zero_le _, Nat.zero_le _⟩ (fun H locs hP hD hS => ?_)
  refine lv_istore (lv' := [(5, .int u_2), (0, .ref b0), (1, .int a1), (2, .int a2), (3, .int a3), (4, .int a4)]) hx hb dX1_isBetween_14 hl (by decide) rfl (fun ls hl => ?_)
  refine lv_iload hx hb dX1_isBetween_16 (lv_at hl 0 rfl) ?_
  refine lv_aload_n hx hb dX1_isBetween_18 rfl (lv_at hl 1 rfl) ?_
  refine lv_iload_n hx hb dX1_isBetween_19 rfl (lv_at hl 3 rfl) ?_
  refine lv_iconst (v := (2 : Int32)) hx hb dX1_isBetween_20 (by decide) ?_
  obtain ⟨u_3, e_3, h⟩ := bd_some h
  refine cm_Vi (As := [.int a2, .int (2 : Int32)]) (rest := [.int u_2]) ⟨hx, hb, hml, hown, hts⟩ (c_X1_part (ca := ca) (ev := ev) (b0 := b0) (b1 := b1) (b2 := b2) (n0 := n0) (n1 := n1) (n2 := n2) (n3 := n3) (n4 := n4) (n5 := n5) (n6 := n6) (n7 := n7) (c0 := c0) (c1 := c1) (c2 := c2) (c3 := c3) (c4 := c4) (c5 := c5) (c6 := c6) (doers := doers) (isTelling := isTelling) (order := order) (stepsAt := stepsAt) (doubts := doubts) (weights := weights) (rows := rows) (metEver := metEver) (bowedTo := bowedTo) (isStale := isStale) (bowCount := bowCount) (doubtCount := doubtCount) (seenBows := seenBows) (likeliest := likeliest) (mostSayingsSo := mostSayingsSo) (bsize := bsize) (bcells := bcells) (ssize := ssize) (scells := scells) (dsize := dsize) (dcells := dcells) (people := people) (rule := rule) (believed := believed) e_3) (cwV 2 hts gX1_isBetween_X1_part rfl rfl rfl hd_X1_part ⟨Nat.le_of_ble_eq_true rfl, Nat.le_of_ble_eq_true rfl⟩) hK hP hD hS hA hE (q0 := 0) (ci := 1) rfl rfl rfl rfl hl.1 rfl (Nat.le_of_ble_eq_true rfl) dX1_isBetween_21 ⟨Nat.zero_le _, Nat.zero_le _⟩ (fun H locs hP hD hS => ?_)
  obtain ⟨u_4, e_4, h⟩ := bd_some h
  refine cn_Ni (As := [.int u_2, .int u_3]) (rest := []) ⟨hx, hb, hml, hown, hts⟩ (c_X7_wearer e_4) (⟨va_cnB 2 hts gX1_isBetween_X7_wearer_n101 rfl rfl rfl (hE.2.1 ("MaskBows$DeedBook", 101, ⟨"MaskBows", "wearer", "(II)I"⟩, "MaskBows") (by decide +kernel)) (hts (.initialized RX7) (by decide +kernel)) hd_X7_wearer ⟨Nat.le_of_ble_eq_true rfl, Nat.le_of_ble_eq_true rfl⟩, hts (.static yX7_wearer) (by decide +kernel), trivial⟩) hK hP hD hS hA hE rfl hl.1 rfl (Nat.le_of_ble_eq_true rfl) dX1_isBetween_24 ⟨Nat.zero_le _, Nat.zero_le _⟩ (fun H locs hP hD hS => ?_)
  refine lv_iload_n hx hb dX1_isBetween_27 rfl (lv_at hl 4 rfl) ?_
  refine lv_icmp_ne (tgt := 51) hx hb dX1_isBetween_28 (by decide) (fun c_5 => ?_) (fun c_5 => ?_)
  · have h := ifn c_5 h
    refine lv_iconst (v := (0 : Int32)) hx hb dX1_isBetween_51 (by decide) ?_
    obtain rfl := Option.some.inj h
    exact hRet hP hD hS zb_0 dX1_isBetween_52
  · have h := ifp c_5 h
    refine lv_iload hx hb dX1_isBetween_31 (lv_at hl 0 rfl) ?_
    refine lv_aload_n hx hb dX1_isBetween_33 rfl (lv_at hl 1 rfl) ?_
    refine lv_iload_n hx hb dX1_isBetween_34 rfl (lv_at hl 3 rfl) ?_
    refine lv_iconst (v := (3 : Int32)) hx hb dX1_isBetween_35 (by decide) ?_
    obtain ⟨u_6, e_6, h⟩ := bd_some h
    refine cm_Vi (As := [.int a2, .int (3 : Int32)]) (rest := [.int u_2]) ⟨hx, hb, hml, hown, hts⟩ (c_X1_part (ca := ca) (ev := ev) (b0 := b0) (b1 := b1) (b2 := b2) (n0 := n0) (n1 := n1) (n2 := n2) (n3 := n3) (n4 := n4) (n5 := n5) (n6 := n6) (n7 := n7) (c0 := c0) (c1 := c1) (c2 := c2) (c3 := c3) (c4 := c4) (c5 := c5) (c6 := c6) (doers := doers) (isTelling := isTelling) (order := order) (stepsAt := stepsAt) (doubts := doubts) (weights := weights) (rows := rows) (metEver := metEver) (bowedTo := bowedTo) (isStale := isStale) (bowCount := bowCount) (doubtCount := doubtCount) (seenBows := seenBows) (likeliest := likeliest) (mostSayingsSo := mostSayingsSo) (bsize := bsize) (bcells := bcells) (ssize := ssize) (scells := scells) (dsize := dsize) (dcells := dcells) (people := people) (rule := rule) (believed := believed) e_6) (cwV 2 hts gX1_isBetween_X1_part rfl rfl rfl hd_X1_part ⟨Nat.le_of_ble_eq_true rfl, Nat.le_of_ble_eq_true rfl⟩) hK hP hD hS hA hE (q0 := 0) (ci := 1) rfl rfl rfl rfl hl.1 rfl (Nat.le_of_ble_eq_true rfl) dX1_isBetween_36 ⟨Nat.zero_le _, Nat.zero_le _⟩ (fun H locs hP hD hS => ?_)
    obtain ⟨u_7, e_7, h⟩ := bd_some h
    refine cn_Ni (As := [.int u_2, .int u_6]) (rest := []) ⟨hx, hb, hml, hown, hts⟩ (c_X7_wearer e_7) (⟨va_cnB 2 hts gX1_isBetween_X7_wearer_n101 rfl rfl rfl (hE.2.1 ("MaskBows$DeedBook", 101, ⟨"MaskBows", "wearer", "(II)I"⟩, "MaskBows") (by decide +kernel)) (hts (.initialized RX7) (by decide +kernel)) hd_X7_wearer ⟨Nat.le_of_ble_eq_true rfl, Nat.le_of_ble_eq_true rfl⟩, hts (.static yX7_wearer) (by decide +kernel), trivial⟩) hK hP hD hS hA hE rfl hl.1 rfl (Nat.le_of_ble_eq_true rfl) dX1_isBetween_39 ⟨Nat.zero_le _, Nat.zero_le _⟩ (fun H locs hP hD hS => ?_)
    refine lv_iload hx hb dX1_isBetween_42 (lv_at hl 5 rfl) ?_
    refine lv_icmp_ne (tgt := 51) hx hb dX1_isBetween_44 (by decide) (fun c_8 => ?_) (fun c_8 => ?_)
    · have h := ifn c_8 h
      refine lv_iconst (v := (0 : Int32)) hx hb dX1_isBetween_51 (by decide) ?_
      obtain rfl := Option.some.inj h
      exact hRet hP hD hS zb_0 dX1_isBetween_52
    · have h := ifp c_8 h
      refine lv_iconst (v := (1 : Int32)) hx hb dX1_isBetween_47 (by decide) ?_
      refine lv_goto (tgt := 52) hx hb dX1_isBetween_48 (by decide) ?_
      obtain rfl := Option.some.inj h
      exact hRet hP hD hS zb_1 dX1_isBetween_52
abbrev rm_X1_owedInNight : Room := { frames := 3, cells := 0, slots := 0, locals := 69 }
theorem hd_X1_owedInNight : yX1_owedInNight.cls = RX1 ∧ yX1_owedInNight.cls ≠ "java/lang/invoke/MethodHandle" ∧ yX1_owedInNight.cls ≠ "java/lang/invoke/VarHandle" ∧ (parseMethodDescriptor yX1_owedInNight.desc).map (fun d => d.parameters.length) = some 3 := by decide +kernel
set_option maxHeartbeats 4000000 in
set_option maxRecDepth 100000 in
theorem c_X1_owedInNight {l : Launch} {G : va_G} {ca : Nat → ClassId} {ev : Nat → Nat} {b0 b1 b2 n0 n1 n2 n3 n4 n5 n6 n7 c0 c1 c2 c3 c4 c5 c6 : Nat} {doers : (Nat → Int64)} {isTelling : (Nat → Int32)} {order : (Nat → Int32)} {stepsAt : (Nat → Int32)} {doubts : (Nat → Int32)} {weights : (Nat → Int32)} {rows : (Nat → Int32)} {metEver : (Nat → Int32)} {bowedTo : (Nat → Int32)} {isStale : Int32} {bowCount : Int32} {doubtCount : Int32} {seenBows : Int32} {likeliest : Int32} {mostSayingsSo : Int32} {bsize : Int32} {bcells : (Nat → Int32)} {ssize : Int32} {scells : (Nat → Int32)} {dsize : Int32} {dcells : (Nat → Int32)} {people : Int32} {rule : Int32} {believed : Int32} {a1 : Int32} {a2 : Int32} {a3 : Int32} {N : Nat} {res : Int32} (h : f_X1_owedInNight N stepsAt rows dsize dcells a1 a2 a3 = some res) : CtI l yX1_owedInNight wsX1_owedInNight rm_X1_owedInNight G ca ev [.ref b0, .int a1, .int a2, .int a3] (wB ca ev b0 b1 b2 n0 n1 n2 n3 n4 n5 n6 n7 c0 c1 c2 c3 c4 c5 c6 doers isTelling order stepsAt doubts weights rows metEver bowedTo isStale bowCount doubtCount seenBows likeliest mostSayingsSo bsize bcells ssize scells dsize dcells people rule believed) (wB ca ev b0 b1 b2 n0 n1 n2 n3 n4 n5 n6 n7 c0 c1 c2 c3 c4 c5 c6 doers isTelling order stepsAt doubts weights rows metEver bowedTo isStale bowCount doubtCount seenBows likeliest mostSayingsSo bsize bcells ssize scells dsize dcells people rule believed) res := by
  unfold f_X1_owedInNight at h
  refine en_i (by decide) rfl (Nat.le_of_ble_eq_true rfl) ?_
  intro p e s m args below meth c A Q H locs ls hx hb hml hown hts hA hP hK hD hE hS hl hRet
  have hown : s.vm.findClass RX1 = some m.cls := hown
  have hl : lv_has ls 6 [(0, .ref b0), (1, .int a1), (2, .int a2), (3, .int a3)] := hl
  have hin_X0 : ∀ w ∈ u_ws RX0 TX0 6, w ∈ wsX1_owedInNight := fun w h9 => List.mem_cons_of_mem _ (List.mem_append_left _ (List.mem_append_left _ (List.mem_append_right _ h9)))
  have hin_X1 : ∀ w ∈ u_ws RX1 TX1 4, w ∈ wsX1_owedInNight := fun w h9 => List.mem_cons_of_mem _ (List.mem_append_left _ (List.mem_append_left _ (List.mem_append_left _ (List.mem_append_right _ h9))))
  have fk_19 := hts (.fieldLink RX1 19 "MaskBows$DeedBook" "carnival" "LMaskBows$Carnival;") (by decide +kernel)
  have fk_51 := va_Nw.use (A := args) rfl (hE.1 ("MaskBows$DeedBook", 51, "MaskBows$Carnival", "deeds", "LMaskBows$Rows;", "MaskBows") (by decide +kernel))
  refine lv_iconst (v := (0 : Int32)) hx hb dX1_owedInNight_0 (by decide) ?_
  refine lv_istore (lv' := [(4, .int (0 : Int32)), (0, .ref b0), (1, .int a1), (2, .int a2), (3, .int a3)]) hx hb dX1_owedInNight_1 hl (by decide) rfl (fun ls hl => ?_)
  refine lv_iconst (v := (0 : Int32)) hx hb dX1_owedInNight_3 (by decide) ?_
  refine lv_istore (lv' := [(5, .int (0 : Int32)), (4, .int (0 : Int32)), (0, .ref b0), (1, .int a1), (2, .int a2), (3, .int a3)]) hx hb dX1_owedInNight_4 hl (by decide) rfl (fun ls hl => ?_)
  have L_6 : ∀ {x1_6 : Int32} {x2_6 : Int32} {x3_6 : Int32} {stepsAt_6 : (Nat → Int32)} {rows_6 : (Nat → Int32)} {dsize_6 : Int32} {dcells_6 : (Nat → Int32)} (n_6 : Nat) {x4_6 : Int32} {x5_6 : Int32} {uL_6 : Int32} {H : Heap} {locs : List Loc} {ls : Array Slot}, f_X1_owedInNight_6 x1_6 x2_6 x3_6 stepsAt_6 rows_6 dsize_6 dcells_6  n_6 x4_6 x5_6 = some uL_6 → va_P G vwCl (wB ca ev b0 b1 b2 n0 n1 n2 n3 n4 n5 n6 n7 c0 c1 c2 c3 c4 c5 c6 doers isTelling order stepsAt_6 doubts weights rows_6 metEver bowedTo isStale bowCount doubtCount seenBows likeliest mostSayingsSo bsize bcells ssize scells dsize_6 dcells_6 people rule believed) H → va_D A (wB ca ev b0 b1 b2 n0 n1 n2 n3 n4 n5 n6 n7 c0 c1 c2 c3 c4 c5 c6 doers isTelling order stepsAt_6 doubts weights rows_6 metEver bowedTo isStale bowCount doubtCount seenBows likeliest mostSayingsSo bsize bcells ssize scells dsize_6 dcells_6 people rule believed) → va_S A s.heap H locs → lv_has ls 6 [(0, .ref b0), (1, .int x1_6), (2, .int x2_6), (3, .int x3_6), (4, .int x4_6), (5, .int x5_6)] → (∀ {H : Heap} {locs : List Loc} {ls : Array Slot}, va_P G vwCl (wB ca ev b0 b1 b2 n0 n1 n2 n3 n4 n5 n6 n7 c0 c1 c2 c3 c4 c5 c6 doers isTelling order stepsAt_6 doubts weights rows_6 metEver bowedTo isStale bowCount doubtCount seenBows likeliest mostSayingsSo bsize bcells ssize scells dsize_6 dcells_6 people rule believed) H → va_D A (wB ca ev b0 b1 b2 n0 n1 n2 n3 n4 n5 n6 n7 c0 c1 c2 c3 c4 c5 c6 doers isTelling order stepsAt_6 doubts weights rows_6 metEver bowedTo isStale bowCount doubtCount seenBows likeliest mostSayingsSo bsize bcells ssize scells dsize_6 dcells_6 people rule believed) → va_S A s.heap H locs → lv_has ls 6 [(4, .int uL_6)] → W p l e rm_X1_owedInNight s m args below meth c H locs 0 0 Q (F0 m 76 ls [])) → W p l e rm_X1_owedInNight s m args below meth c H locs 0 0 Q (F0 m 6 ls []) := by
    intro x1_6 x2_6 x3_6 stepsAt_6 rows_6 dsize_6 dcells_6 n_6
    induction n_6 with
    | zero => intro x4_6 x5_6 uL_6 H locs ls h; exact absurd h (by rw [f_X1_owedInNight_6]; exact fun z => nomatch z)
    | succ n_6 ih =>
      intro x4_6 x5_6 uL_6 H locs ls h hP hD hS hl JK_6
      rw [f_X1_owedInNight_6] at h
      refine lv_iload hx hb dX1_owedInNight_6 (lv_at hl 5 rfl) ?_
      refine lv_aload_n hx hb dX1_owedInNight_8 rfl (lv_at hl 0 rfl) ?_
      refine va_get (D := G) (ci := 1) (v := .ref c0) (C := RX1) (T := TX1) (N := 4) hx hb hts hin_X1 hown hK hP 0 rfl rfl 0 (by decide) fk_19 (fun _ h9 => h9) rfl dX1_owedInNight_9 ?_
      refine va_getN (D := G) (ci := 0) (v := .ref c5) (C := RX0) (T := TX0) (N := 6) hx hb hts hin_X0 hown hK hP 11 rfl rfl 2 (by decide) fk_51 (fun _ h9 => h9) rfl dX1_owedInNight_12 ?_
      obtain ⟨u_1, e_1, h⟩ := bd_some h
      refine cl_Vi (As := []) (rest := [.int x5_6]) (Wn := (wB ca ev b0 b1 b2 n0 n1 n2 n3 n4 n5 n6 n7 c0 c1 c2 c3 c4 c5 c6 doers isTelling order stepsAt_6 doubts weights rows_6 metEver bowedTo isStale bowCount doubtCount seenBows likeliest mostSayingsSo bsize bcells ssize scells dsize_6 dcells_6 people rule believed)) ⟨hx, hb, hml, hown, hts⟩ (c_X4_size (ca := ca) (ev := ev) (r0 := c5) (r1 := c6) (limit := (12 : Int32)) (width := (5 : Int32)) (size := dsize_6) (cells := dcells_6) (nc := 60) e_1) (cwV 0 hts gX1_owedInNight_X4_size rfl rfl rfl hd_X4_size ⟨Nat.le_of_ble_eq_true rfl, Nat.le_of_ble_eq_true rfl⟩) hK hP hD hS hA hE wp_8 (q0 := 0) (ci := 4) rfl rfl rfl rfl hl.1 rfl (Nat.le_of_ble_eq_true rfl) dX1_owedInNight_15 ⟨Nat.zero_le _, Nat.zero_le _⟩ (fun H locs hP hD hS => ?_)
      refine lv_icmp_ge (tgt := 76) hx hb dX1_owedInNight_18 (by decide) (fun c_2 => ?_) (fun c_2 => ?_)
      · have h := ifp c_2 h
        obtain rfl := Option.some.inj h
        exact JK_6 hP hD hS (lv_sub hl [4] rfl)
      · have h := ifn c_2 h
        refine lv_aload_n hx hb dX1_owedInNight_21 rfl (lv_at hl 0 rfl) ?_
        refine lv_iload_n hx hb dX1_owedInNight_22 rfl (lv_at hl 1 rfl) ?_
        refine lv_iload hx hb dX1_owedInNight_23 (lv_at hl 5 rfl) ?_
        refine lv_iload_n hx hb dX1_owedInNight_25 rfl (lv_at hl 2 rfl) ?_
        refine lv_iload_n hx hb dX1_owedInNight_26 rfl (lv_at hl 3 rfl) ?_
        obtain ⟨u_3, e_3, h⟩ := bd_some h
        refine cm_Vi (As := [.int x1_6, .int x5_6, .int x2_6, .int x3_6]) (rest := []) ⟨hx, hb, hml, hown, hts⟩ (c_X1_isBetween (ca := ca) (ev := ev) (b0 := b0) (b1 := b1) (b2 := b2) (n0 := n0) (n1 := n1) (n2 := n2) (n3 := n3) (n4 := n4) (n5 := n5) (n6 := n6) (n7 := n7) (c0 := c0) (c1 := c1) (c2 := c2) (c3 := c3) (c4 := c4) (c5 := c5) (c6 := c6) (doers := doers) (isTelling := isTelling) (order := order) (stepsAt := stepsAt_6) (doubts := doubts) (weights := weights) (rows := rows_6) (metEver := metEver) (bowedTo := bowedTo) (isStale := isStale) (bowCount := bowCount) (doubtCount := doubtCount) (seenBows := seenBows) (likeliest := likeliest) (mostSayingsSo := mostSayingsSo) (bsize := bsize) (bcells := bcells) (ssize := ssize) (scells := scells) (dsize := dsize_6) (dcells := dcells_6) (people := people) (rule := rule) (believed := believed) e_3) (cwV 4 hts gX1_owedInNight_X1_isBetween rfl rfl rfl hd_X1_isBetween ⟨Nat.le_of_ble_eq_true rfl, Nat.le_of_ble_eq_true rfl⟩) hK hP hD hS hA hE (q0 := 0) (ci := 1) rfl rfl rfl rfl hl.1 rfl (Nat.le_of_ble_eq_true rfl) dX1_owedInNight_27 ⟨Nat.zero_le _, Nat.zero_le _⟩ (fun H locs hP hD hS => ?_)
        obtain ⟨u_4, e_4, h⟩ := bd_some h
        have J_4 : ∀ {H : Heap} {locs : List Loc} {ls : Array Slot}, va_P G vwCl (wB ca ev b0 b1 b2 n0 n1 n2 n3 n4 n5 n6 n7 c0 c1 c2 c3 c4 c5 c6 doers isTelling order stepsAt_6 doubts weights rows_6 metEver bowedTo isStale bowCount doubtCount seenBows likeliest mostSayingsSo bsize bcells ssize scells dsize_6 dcells_6 people rule believed) H → va_D A (wB ca ev b0 b1 b2 n0 n1 n2 n3 n4 n5 n6 n7 c0 c1 c2 c3 c4 c5 c6 doers isTelling order stepsAt_6 doubts weights rows_6 metEver bowedTo isStale bowCount doubtCount seenBows likeliest mostSayingsSo bsize bcells ssize scells dsize_6 dcells_6 people rule believed) → va_S A s.heap H locs → lv_has ls 6 [(0, .ref b0), (1, .int x1_6), (2, .int x2_6), (3, .int x3_6), (4, .int u_4), (5, .int x5_6)] → W p l e rm_X1_owedInNight s m args below meth c H locs 0 0 Q (F0 m 70 ls []) := by
          intro H locs ls hP hD hS hl 
          refine lv_iinc (v := (x5_6 + (1 : Int32))) (lv' := [(5, .int (x5_6 + (1 : Int32))), (0, .ref b0), (1, .int x1_6), (2, .int x2_6), (3, .int x3_6), (4, .int u_4)]) hx hb dX1_owedInNight_70 hl (k := 5) rfl rfl (by decide) rfl (fun ls hl => ?_)
          refine lv_goto (tgt := 6) hx hb dX1_owedInNight_73 (by decide) ?_
          exact ih h hP hD hS (lv_sub hl [1, 2, 3, 4, 5, 0] rfl) JK_6
        have h := e_4
        clear e_4
        refine lv_if_eq (tgt := 47) hx hb dX1_owedInNight_30 (by decide) (fun c_4 => ?_) (fun c_4 => ?_)
        · have h := ifp c_4 h
          refine lv_aload_n hx hb dX1_owedInNight_47 rfl (lv_at hl 0 rfl) ?_
          refine lv_iload_n hx hb dX1_owedInNight_48 rfl (lv_at hl 1 rfl) ?_
          refine lv_iload hx hb dX1_owedInNight_49 (lv_at hl 5 rfl) ?_
          refine lv_iload_n hx hb dX1_owedInNight_51 rfl (lv_at hl 3 rfl) ?_
          refine lv_iload_n hx hb dX1_owedInNight_52 rfl (lv_at hl 2 rfl) ?_
          obtain ⟨u_5, e_5, h⟩ := bd_some h
          refine cm_Vi (As := [.int x1_6, .int x5_6, .int x3_6, .int x2_6]) (rest := []) ⟨hx, hb, hml, hown, hts⟩ (c_X1_isBetween (ca := ca) (ev := ev) (b0 := b0) (b1 := b1) (b2 := b2) (n0 := n0) (n1 := n1) (n2 := n2) (n3 := n3) (n4 := n4) (n5 := n5) (n6 := n6) (n7 := n7) (c0 := c0) (c1 := c1) (c2 := c2) (c3 := c3) (c4 := c4) (c5 := c5) (c6 := c6) (doers := doers) (isTelling := isTelling) (order := order) (stepsAt := stepsAt_6) (doubts := doubts) (weights := weights) (rows := rows_6) (metEver := metEver) (bowedTo := bowedTo) (isStale := isStale) (bowCount := bowCount) (doubtCount := doubtCount) (seenBows := seenBows) (likeliest := likeliest) (mostSayingsSo := mostSayingsSo) (bsize := bsize) (bcells := bcells) (ssize := ssize) (scells := scells) (dsize := dsize_6) (dcells := dcells_6) (people := people) (rule := rule) (believed := believed) e_5) (cwV 4 hts gX1_owedInNight_X1_isBetween rfl rfl rfl hd_X1_isBetween ⟨Nat.le_of_ble_eq_true rfl, Nat.le_of_ble_eq_true rfl⟩) hK hP hD hS hA hE (q0 := 0) (ci := 1) rfl rfl rfl rfl hl.1 rfl (Nat.le_of_ble_eq_true rfl) dX1_owedInNight_53 ⟨Nat.zero_le _, Nat.zero_le _⟩ (fun H locs hP hD hS => ?_)
          refine lv_if_eq (tgt := 70) hx hb dX1_owedInNight_56 (by decide) (fun c_6 => ?_) (fun c_6 => ?_)
          · have h := ifp c_6 h
            obtain rfl := Option.some.inj h
            exact J_4 hP hD hS (lv_sub hl [0, 1, 2, 3, 4, 5] rfl)
          · have h := ifn c_6 h
            refine lv_iload hx hb dX1_owedInNight_59 (lv_at hl 4 rfl) ?_
            refine lv_aload_n hx hb dX1_owedInNight_61 rfl (lv_at hl 0 rfl) ?_
            refine lv_iload hx hb dX1_owedInNight_62 (lv_at hl 5 rfl) ?_
            obtain ⟨u_7, e_7, h⟩ := bd_some h
            refine cm_Vi (As := [.int x5_6]) (rest := [.int x4_6]) ⟨hx, hb, hml, hown, hts⟩ (c_X1_paysOf (ca := ca) (ev := ev) (b0 := b0) (b1 := b1) (b2 := b2) (n0 := n0) (n1 := n1) (n2 := n2) (n3 := n3) (n4 := n4) (n5 := n5) (n6 := n6) (n7 := n7) (c0 := c0) (c1 := c1) (c2 := c2) (c3 := c3) (c4 := c4) (c5 := c5) (c6 := c6) (doers := doers) (isTelling := isTelling) (order := order) (stepsAt := stepsAt_6) (doubts := doubts) (weights := weights) (rows := rows_6) (metEver := metEver) (bowedTo := bowedTo) (isStale := isStale) (bowCount := bowCount) (doubtCount := doubtCount) (seenBows := seenBows) (likeliest := likeliest) (mostSayingsSo := mostSayingsSo) (bsize := bsize) (bcells := bcells) (ssize := ssize) (scells := scells) (dsize := dsize_6) (dcells := dcells_6) (people := people) (rule := rule) (believed := believed) e_7) (cwV 1 hts gX1_owedInNight_X1_paysOf rfl rfl rfl hd_X1_paysOf ⟨Nat.le_of_ble_eq_true rfl, Nat.le_of_ble_eq_true rfl⟩) hK hP hD hS hA hE (q0 := 0) (ci := 1) rfl rfl rfl rfl hl.1 rfl (Nat.le_of_ble_eq_true rfl) dX1_owedInNight_64 ⟨Nat.zero_le _, Nat.zero_le _⟩ (fun H locs hP hD hS => ?_)
            refine lv_isub hx hb dX1_owedInNight_67 ?_
            refine lv_istore (lv' := [(4, .int (x4_6 - u_7)), (0, .ref b0), (1, .int x1_6), (2, .int x2_6), (3, .int x3_6), (5, .int x5_6)]) hx hb dX1_owedInNight_68 hl (by decide) rfl (fun ls hl => ?_)
            obtain rfl := Option.some.inj h
            exact J_4 hP hD hS (lv_sub hl [1, 2, 3, 4, 0, 5] rfl)
        · have h := ifn c_4 h
          refine lv_iload hx hb dX1_owedInNight_33 (lv_at hl 4 rfl) ?_
          refine lv_aload_n hx hb dX1_owedInNight_35 rfl (lv_at hl 0 rfl) ?_
          refine lv_iload hx hb dX1_owedInNight_36 (lv_at hl 5 rfl) ?_
          obtain ⟨u_8, e_8, h⟩ := bd_some h
          refine cm_Vi (As := [.int x5_6]) (rest := [.int x4_6]) ⟨hx, hb, hml, hown, hts⟩ (c_X1_paysOf (ca := ca) (ev := ev) (b0 := b0) (b1 := b1) (b2 := b2) (n0 := n0) (n1 := n1) (n2 := n2) (n3 := n3) (n4 := n4) (n5 := n5) (n6 := n6) (n7 := n7) (c0 := c0) (c1 := c1) (c2 := c2) (c3 := c3) (c4 := c4) (c5 := c5) (c6 := c6) (doers := doers) (isTelling := isTelling) (order := order) (stepsAt := stepsAt_6) (doubts := doubts) (weights := weights) (rows := rows_6) (metEver := metEver) (bowedTo := bowedTo) (isStale := isStale) (bowCount := bowCount) (doubtCount := doubtCount) (seenBows := seenBows) (likeliest := likeliest) (mostSayingsSo := mostSayingsSo) (bsize := bsize) (bcells := bcells) (ssize := ssize) (scells := scells) (dsize := dsize_6) (dcells := dcells_6) (people := people) (rule := rule) (believed := believed) e_8) (cwV 1 hts gX1_owedInNight_X1_paysOf rfl rfl rfl hd_X1_paysOf ⟨Nat.le_of_ble_eq_true rfl, Nat.le_of_ble_eq_true rfl⟩) hK hP hD hS hA hE (q0 := 0) (ci := 1) rfl rfl rfl rfl hl.1 rfl (Nat.le_of_ble_eq_true rfl) dX1_owedInNight_38 ⟨Nat.zero_le _, Nat.zero_le _⟩ (fun H locs hP hD hS => ?_)
          refine lv_iadd hx hb dX1_owedInNight_41 ?_
          refine lv_istore (lv' := [(4, .int (x4_6 + u_8)), (0, .ref b0), (1, .int x1_6), (2, .int x2_6), (3, .int x3_6), (5, .int x5_6)]) hx hb dX1_owedInNight_42 hl (by decide) rfl (fun ls hl => ?_)
          refine lv_goto (tgt := 70) hx hb dX1_owedInNight_44 (by decide) ?_
          obtain rfl := Option.some.inj h
          exact J_4 hP hD hS (lv_sub hl [1, 2, 3, 4, 0, 5] rfl)
  obtain ⟨u_9, e_9, h⟩ := bd_some h
  refine L_6 _ e_9 hP hD hS (lv_sub hl [2, 3, 4, 5, 1, 0] rfl) ?_
  intro H locs ls hP hD hS hl
  refine lv_iload hx hb dX1_owedInNight_76 (lv_at hl 0 rfl) ?_
  obtain rfl := Option.some.inj h
  exact hRet hP hD hS dX1_owedInNight_78
abbrev rm_X1_areBoundIn : Room := { frames := 3, cells := 0, slots := 0, locals := 69 }
theorem hd_X1_areBoundIn : yX1_areBoundIn.cls = RX1 ∧ yX1_areBoundIn.cls ≠ "java/lang/invoke/MethodHandle" ∧ yX1_areBoundIn.cls ≠ "java/lang/invoke/VarHandle" ∧ (parseMethodDescriptor yX1_areBoundIn.desc).map (fun d => d.parameters.length) = some 3 := by decide +kernel
set_option maxHeartbeats 4000000 in
set_option maxRecDepth 100000 in
theorem c_X1_areBoundIn {l : Launch} {G : va_G} {ca : Nat → ClassId} {ev : Nat → Nat} {b0 b1 b2 n0 n1 n2 n3 n4 n5 n6 n7 c0 c1 c2 c3 c4 c5 c6 : Nat} {doers : (Nat → Int64)} {isTelling : (Nat → Int32)} {order : (Nat → Int32)} {stepsAt : (Nat → Int32)} {doubts : (Nat → Int32)} {weights : (Nat → Int32)} {rows : (Nat → Int32)} {metEver : (Nat → Int32)} {bowedTo : (Nat → Int32)} {isStale : Int32} {bowCount : Int32} {doubtCount : Int32} {seenBows : Int32} {likeliest : Int32} {mostSayingsSo : Int32} {bsize : Int32} {bcells : (Nat → Int32)} {ssize : Int32} {scells : (Nat → Int32)} {dsize : Int32} {dcells : (Nat → Int32)} {people : Int32} {rule : Int32} {believed : Int32} {a1 : Int32} {a2 : Int32} {a3 : Int32} {N : Nat} {res : Int32} (h : f_X1_areBoundIn N stepsAt rows dsize dcells a1 a2 a3 = some res) : CtI l yX1_areBoundIn wsX1_areBoundIn rm_X1_areBoundIn G ca ev [.ref b0, .int a1, .int a2, .int a3] (wB ca ev b0 b1 b2 n0 n1 n2 n3 n4 n5 n6 n7 c0 c1 c2 c3 c4 c5 c6 doers isTelling order stepsAt doubts weights rows metEver bowedTo isStale bowCount doubtCount seenBows likeliest mostSayingsSo bsize bcells ssize scells dsize dcells people rule believed) (wB ca ev b0 b1 b2 n0 n1 n2 n3 n4 n5 n6 n7 c0 c1 c2 c3 c4 c5 c6 doers isTelling order stepsAt doubts weights rows metEver bowedTo isStale bowCount doubtCount seenBows likeliest mostSayingsSo bsize bcells ssize scells dsize dcells people rule believed) res := by
  unfold f_X1_areBoundIn at h
  refine en_z (by decide) rfl (Nat.le_of_ble_eq_true rfl) ?_
  intro p e s m args below meth c A Q H locs ls hx hb hml hown hts hA hP hK hD hE hS hl hRet
  have hown : s.vm.findClass RX1 = some m.cls := hown
  have hl : lv_has ls 5 [(0, .ref b0), (1, .int a1), (2, .int a2), (3, .int a3)] := hl
  have hin_X0 : ∀ w ∈ u_ws RX0 TX0 6, w ∈ wsX1_areBoundIn := fun w h9 => List.mem_cons_of_mem _ (List.mem_append_left _ (List.mem_append_left _ (List.mem_append_right _ h9)))
  have hin_X1 : ∀ w ∈ u_ws RX1 TX1 4, w ∈ wsX1_areBoundIn := fun w h9 => List.mem_cons_of_mem _ (List.mem_append_left _ (List.mem_append_left _ (List.mem_append_left _ (List.mem_append_right _ h9))))
  have fk_19 := hts (.fieldLink RX1 19 "MaskBows$DeedBook" "carnival" "LMaskBows$Carnival;") (by decide +kernel)
  have fk_51 := va_Nw.use (A := args) rfl (hE.1 ("MaskBows$DeedBook", 51, "MaskBows$Carnival", "deeds", "LMaskBows$Rows;", "MaskBows") (by decide +kernel))
  refine lv_iconst (v := (0 : Int32)) hx hb dX1_areBoundIn_0 (by decide) ?_
  refine lv_istore (lv' := [(4, .int (0 : Int32)), (0, .ref b0), (1, .int a1), (2, .int a2), (3, .int a3)]) hx hb dX1_areBoundIn_1 hl (by decide) rfl (fun ls hl => ?_)
  have L_3 : ∀ {x1_3 : Int32} {x2_3 : Int32} {x3_3 : Int32} {stepsAt_3 : (Nat → Int32)} {rows_3 : (Nat → Int32)} {dsize_3 : Int32} {dcells_3 : (Nat → Int32)} {K_3 : Unit → Option (Int32)} (n_3 : Nat) {x4_3 : Int32} {H : Heap} {locs : List Loc} {ls : Array Slot}, f_X1_areBoundIn_3 N x1_3 x2_3 x3_3 stepsAt_3 rows_3 dsize_3 dcells_3 K_3  n_3 x4_3 = some res → (∀ {H : Heap} {locs : List Loc} {pc : Nat} {ls : Array Slot}, va_P G vwCl (wB ca ev b0 b1 b2 n0 n1 n2 n3 n4 n5 n6 n7 c0 c1 c2 c3 c4 c5 c6 doers isTelling order stepsAt_3 doubts weights rows_3 metEver bowedTo isStale bowCount doubtCount seenBows likeliest mostSayingsSo bsize bcells ssize scells dsize_3 dcells_3 people rule believed) H → va_D A (wB ca ev b0 b1 b2 n0 n1 n2 n3 n4 n5 n6 n7 c0 c1 c2 c3 c4 c5 c6 doers isTelling order stepsAt_3 doubts weights rows_3 metEver bowedTo isStale bowCount doubtCount seenBows likeliest mostSayingsSo bsize bcells ssize scells dsize_3 dcells_3 people rule believed) → va_S A s.heap H locs → (res = 0 ∨ res = 1) → decode cX1_areBoundIn pc = .ok (.ireturn, 1) → W p l e rm_X1_areBoundIn s m args below meth c H locs 0 0 Q (F0 m pc ls [.int res])) → va_P G vwCl (wB ca ev b0 b1 b2 n0 n1 n2 n3 n4 n5 n6 n7 c0 c1 c2 c3 c4 c5 c6 doers isTelling order stepsAt_3 doubts weights rows_3 metEver bowedTo isStale bowCount doubtCount seenBows likeliest mostSayingsSo bsize bcells ssize scells dsize_3 dcells_3 people rule believed) H → va_D A (wB ca ev b0 b1 b2 n0 n1 n2 n3 n4 n5 n6 n7 c0 c1 c2 c3 c4 c5 c6 doers isTelling order stepsAt_3 doubts weights rows_3 metEver bowedTo isStale bowCount doubtCount seenBows likeliest mostSayingsSo bsize bcells ssize scells dsize_3 dcells_3 people rule believed) → va_S A s.heap H locs → lv_has ls 5 [(0, .ref b0), (1, .int x1_3), (2, .int x2_3), (3, .int x3_3), (4, .int x4_3)] → (∀ {uL_3 : Unit} {H : Heap} {locs : List Loc} {ls : Array Slot}, K_3 uL_3 = some res → va_P G vwCl (wB ca ev b0 b1 b2 n0 n1 n2 n3 n4 n5 n6 n7 c0 c1 c2 c3 c4 c5 c6 doers isTelling order stepsAt_3 doubts weights rows_3 metEver bowedTo isStale bowCount doubtCount seenBows likeliest mostSayingsSo bsize bcells ssize scells dsize_3 dcells_3 people rule believed) H → va_D A (wB ca ev b0 b1 b2 n0 n1 n2 n3 n4 n5 n6 n7 c0 c1 c2 c3 c4 c5 c6 doers isTelling order stepsAt_3 doubts weights rows_3 metEver bowedTo isStale bowCount doubtCount seenBows likeliest mostSayingsSo bsize bcells ssize scells dsize_3 dcells_3 people rule believed) → va_S A s.heap H locs → lv_has ls 5 [] → W p l e rm_X1_areBoundIn s m args below meth c H locs 0 0 Q (F0 m 59 ls [])) → W p l e rm_X1_areBoundIn s m args below meth c H locs 0 0 Q (F0 m 3 ls []) := by
    intro x1_3 x2_3 x3_3 stepsAt_3 rows_3 dsize_3 dcells_3 K_3 n_3
    induction n_3 with
    | zero => intro x4_3 H locs ls h; exact absurd h (by rw [f_X1_areBoundIn_3]; exact fun z => nomatch z)
    | succ n_3 ih =>
      intro x4_3 H locs ls h hRet hP hD hS hl JK_3
      rw [f_X1_areBoundIn_3] at h
      refine lv_iload hx hb dX1_areBoundIn_3 (lv_at hl 4 rfl) ?_
      refine lv_aload_n hx hb dX1_areBoundIn_5 rfl (lv_at hl 0 rfl) ?_
      refine va_get (D := G) (ci := 1) (v := .ref c0) (C := RX1) (T := TX1) (N := 4) hx hb hts hin_X1 hown hK hP 0 rfl rfl 0 (by decide) fk_19 (fun _ h9 => h9) rfl dX1_areBoundIn_6 ?_
      refine va_getN (D := G) (ci := 0) (v := .ref c5) (C := RX0) (T := TX0) (N := 6) hx hb hts hin_X0 hown hK hP 11 rfl rfl 2 (by decide) fk_51 (fun _ h9 => h9) rfl dX1_areBoundIn_9 ?_
      obtain ⟨u_1, e_1, h⟩ := bd_some h
      refine cl_Vi (As := []) (rest := [.int x4_3]) (Wn := (wB ca ev b0 b1 b2 n0 n1 n2 n3 n4 n5 n6 n7 c0 c1 c2 c3 c4 c5 c6 doers isTelling order stepsAt_3 doubts weights rows_3 metEver bowedTo isStale bowCount doubtCount seenBows likeliest mostSayingsSo bsize bcells ssize scells dsize_3 dcells_3 people rule believed)) ⟨hx, hb, hml, hown, hts⟩ (c_X4_size (ca := ca) (ev := ev) (r0 := c5) (r1 := c6) (limit := (12 : Int32)) (width := (5 : Int32)) (size := dsize_3) (cells := dcells_3) (nc := 60) e_1) (cwV 0 hts gX1_areBoundIn_X4_size rfl rfl rfl hd_X4_size ⟨Nat.le_of_ble_eq_true rfl, Nat.le_of_ble_eq_true rfl⟩) hK hP hD hS hA hE wp_8 (q0 := 0) (ci := 4) rfl rfl rfl rfl hl.1 rfl (Nat.le_of_ble_eq_true rfl) dX1_areBoundIn_12 ⟨Nat.zero_le _, Nat.zero_le _⟩ (fun H locs hP hD hS => ?_)
      refine lv_icmp_ge (tgt := 59) hx hb dX1_areBoundIn_15 (by decide) (fun c_2 => ?_) (fun c_2 => ?_)
      · have h := ifp c_2 h
        exact JK_3 h hP hD hS (lv_sub hl [] rfl)
      · have h := ifn c_2 h
        refine lv_aload_n hx hb dX1_areBoundIn_18 rfl (lv_at hl 0 rfl) ?_
        refine lv_iload hx hb dX1_areBoundIn_19 (lv_at hl 4 rfl) ?_
        obtain ⟨u_3, e_3, h⟩ := bd_some h
        refine cm_Vi (As := [.int x4_3]) (rest := []) ⟨hx, hb, hml, hown, hts⟩ (c_X1_binds (ca := ca) (ev := ev) (b0 := b0) (b1 := b1) (b2 := b2) (n0 := n0) (n1 := n1) (n2 := n2) (n3 := n3) (n4 := n4) (n5 := n5) (n6 := n6) (n7 := n7) (c0 := c0) (c1 := c1) (c2 := c2) (c3 := c3) (c4 := c4) (c5 := c5) (c6 := c6) (doers := doers) (isTelling := isTelling) (order := order) (stepsAt := stepsAt_3) (doubts := doubts) (weights := weights) (rows := rows_3) (metEver := metEver) (bowedTo := bowedTo) (isStale := isStale) (bowCount := bowCount) (doubtCount := doubtCount) (seenBows := seenBows) (likeliest := likeliest) (mostSayingsSo := mostSayingsSo) (bsize := bsize) (bcells := bcells) (ssize := ssize) (scells := scells) (dsize := dsize_3) (dcells := dcells_3) (people := people) (rule := rule) (believed := believed) e_3) (cwV 1 hts gX1_areBoundIn_X1_binds rfl rfl rfl hd_X1_binds ⟨Nat.le_of_ble_eq_true rfl, Nat.le_of_ble_eq_true rfl⟩) hK hP hD hS hA hE (q0 := 0) (ci := 1) rfl rfl rfl rfl hl.1 rfl (Nat.le_of_ble_eq_true rfl) dX1_areBoundIn_21 ⟨Nat.zero_le _, Nat.zero_le _⟩ (fun H locs hP hD hS => ?_)
        refine lv_if_eq (tgt := 53) hx hb dX1_areBoundIn_24 (by decide) (fun c_4 => ?_) (fun c_4 => ?_)
        · have h := ifp c_4 h
          refine lv_iinc (v := (x4_3 + (1 : Int32))) (lv' := [(4, .int (x4_3 + (1 : Int32))), (0, .ref b0), (1, .int x1_3), (2, .int x2_3), (3, .int x3_3)]) hx hb dX1_areBoundIn_53 hl (k := 4) rfl rfl (by decide) rfl (fun ls hl => ?_)
          refine lv_goto (tgt := 3) hx hb dX1_areBoundIn_56 (by decide) ?_
          exact ih h hRet hP hD hS (lv_sub hl [1, 2, 3, 4, 0] rfl) JK_3
        · have h := ifn c_4 h
          refine lv_aload_n hx hb dX1_areBoundIn_27 rfl (lv_at hl 0 rfl) ?_
          refine lv_iload_n hx hb dX1_areBoundIn_28 rfl (lv_at hl 1 rfl) ?_
          refine lv_iload hx hb dX1_areBoundIn_29 (lv_at hl 4 rfl) ?_
          refine lv_iload_n hx hb dX1_areBoundIn_31 rfl (lv_at hl 2 rfl) ?_
          refine lv_iload_n hx hb dX1_areBoundIn_32 rfl (lv_at hl 3 rfl) ?_
          obtain ⟨u_5, e_5, h⟩ := bd_some h
          refine cm_Vi (As := [.int x1_3, .int x4_3, .int x2_3, .int x3_3]) (rest := []) ⟨hx, hb, hml, hown, hts⟩ (c_X1_isBetween (ca := ca) (ev := ev) (b0 := b0) (b1 := b1) (b2 := b2) (n0 := n0) (n1 := n1) (n2 := n2) (n3 := n3) (n4 := n4) (n5 := n5) (n6 := n6) (n7 := n7) (c0 := c0) (c1 := c1) (c2 := c2) (c3 := c3) (c4 := c4) (c5 := c5) (c6 := c6) (doers := doers) (isTelling := isTelling) (order := order) (stepsAt := stepsAt_3) (doubts := doubts) (weights := weights) (rows := rows_3) (metEver := metEver) (bowedTo := bowedTo) (isStale := isStale) (bowCount := bowCount) (doubtCount := doubtCount) (seenBows := seenBows) (likeliest := likeliest) (mostSayingsSo := mostSayingsSo) (bsize := bsize) (bcells := bcells) (ssize := ssize) (scells := scells) (dsize := dsize_3) (dcells := dcells_3) (people := people) (rule := rule) (believed := believed) e_5) (cwV 4 hts gX1_areBoundIn_X1_isBetween rfl rfl rfl hd_X1_isBetween ⟨Nat.le_of_ble_eq_true rfl, Nat.le_of_ble_eq_true rfl⟩) hK hP hD hS hA hE (q0 := 0) (ci := 1) rfl rfl rfl rfl hl.1 rfl (Nat.le_of_ble_eq_true rfl) dX1_areBoundIn_33 ⟨Nat.zero_le _, Nat.zero_le _⟩ (fun H locs hP hD hS => ?_)
          refine lv_if_ne (tgt := 51) hx hb dX1_areBoundIn_36 (by decide) (fun c_6 => ?_) (fun c_6 => ?_)
          · have h := ifn c_6 h
            refine lv_iconst (v := (1 : Int32)) hx hb dX1_areBoundIn_51 (by decide) ?_
            obtain rfl := Option.some.inj h
            exact hRet hP hD hS zb_1 dX1_areBoundIn_52
          · have h := ifp c_6 h
            refine lv_aload_n hx hb dX1_areBoundIn_39 rfl (lv_at hl 0 rfl) ?_
            refine lv_iload_n hx hb dX1_areBoundIn_40 rfl (lv_at hl 1 rfl) ?_
            refine lv_iload hx hb dX1_areBoundIn_41 (lv_at hl 4 rfl) ?_
            refine lv_iload_n hx hb dX1_areBoundIn_43 rfl (lv_at hl 3 rfl) ?_
            refine lv_iload_n hx hb dX1_areBoundIn_44 rfl (lv_at hl 2 rfl) ?_
            obtain ⟨u_7, e_7, h⟩ := bd_some h
            refine cm_Vi (As := [.int x1_3, .int x4_3, .int x3_3, .int x2_3]) (rest := []) ⟨hx, hb, hml, hown, hts⟩ (c_X1_isBetween (ca := ca) (ev := ev) (b0 := b0) (b1 := b1) (b2 := b2) (n0 := n0) (n1 := n1) (n2 := n2) (n3 := n3) (n4 := n4) (n5 := n5) (n6 := n6) (n7 := n7) (c0 := c0) (c1 := c1) (c2 := c2) (c3 := c3) (c4 := c4) (c5 := c5) (c6 := c6) (doers := doers) (isTelling := isTelling) (order := order) (stepsAt := stepsAt_3) (doubts := doubts) (weights := weights) (rows := rows_3) (metEver := metEver) (bowedTo := bowedTo) (isStale := isStale) (bowCount := bowCount) (doubtCount := doubtCount) (seenBows := seenBows) (likeliest := likeliest) (mostSayingsSo := mostSayingsSo) (bsize := bsize) (bcells := bcells) (ssize := ssize) (scells := scells) (dsize := dsize_3) (dcells := dcells_3) (people := people) (rule := rule) (believed := believed) e_7) (cwV 4 hts gX1_areBoundIn_X1_isBetween rfl rfl rfl hd_X1_isBetween ⟨Nat.le_of_ble_eq_true rfl, Nat.le_of_ble_eq_true rfl⟩) hK hP hD hS hA hE (q0 := 0) (ci := 1) rfl rfl rfl rfl hl.1 rfl (Nat.le_of_ble_eq_true rfl) dX1_areBoundIn_45 ⟨Nat.zero_le _, Nat.zero_le _⟩ (fun H locs hP hD hS => ?_)
            refine lv_if_eq (tgt := 53) hx hb dX1_areBoundIn_48 (by decide) (fun c_8 => ?_) (fun c_8 => ?_)
            · have h := ifp c_8 h
              refine lv_iinc (v := (x4_3 + (1 : Int32))) (lv' := [(4, .int (x4_3 + (1 : Int32))), (0, .ref b0), (1, .int x1_3), (2, .int x2_3), (3, .int x3_3)]) hx hb dX1_areBoundIn_53 hl (k := 4) rfl rfl (by decide) rfl (fun ls hl => ?_)
              refine lv_goto (tgt := 3) hx hb dX1_areBoundIn_56 (by decide) ?_
              exact ih h hRet hP hD hS (lv_sub hl [1, 2, 3, 4, 0] rfl) JK_3
            · have h := ifn c_8 h
              refine lv_iconst (v := (1 : Int32)) hx hb dX1_areBoundIn_51 (by decide) ?_
              obtain rfl := Option.some.inj h
              exact hRet hP hD hS zb_1 dX1_areBoundIn_52
  refine L_3 _ h hRet hP hD hS (lv_sub hl [1, 2, 3, 4, 0] rfl) ?_
  clear h
  intro u_9 H locs ls h hP hD hS hl
  refine lv_iconst (v := (0 : Int32)) hx hb dX1_areBoundIn_59 (by decide) ?_
  obtain rfl := Option.some.inj h
  exact hRet hP hD hS zb_0 dX1_areBoundIn_60
abbrev rm_X1_oddsOfBond : Room := { frames := 4, cells := 0, slots := 0, locals := 93 }
theorem hd_X1_oddsOfBond : yX1_oddsOfBond.cls = RX1 ∧ yX1_oddsOfBond.cls ≠ "java/lang/invoke/MethodHandle" ∧ yX1_oddsOfBond.cls ≠ "java/lang/invoke/VarHandle" ∧ (parseMethodDescriptor yX1_oddsOfBond.desc).map (fun d => d.parameters.length) = some 2 := by decide +kernel
set_option maxHeartbeats 4000000 in
set_option maxRecDepth 100000 in
theorem c_X1_oddsOfBond {l : Launch} {G : va_G} {ca : Nat → ClassId} {ev : Nat → Nat} {b0 b1 b2 n0 n1 n2 n3 n4 n5 n6 n7 c0 c1 c2 c3 c4 c5 c6 : Nat} {doers : (Nat → Int64)} {isTelling : (Nat → Int32)} {order : (Nat → Int32)} {stepsAt : (Nat → Int32)} {doubts : (Nat → Int32)} {weights : (Nat → Int32)} {rows : (Nat → Int32)} {metEver : (Nat → Int32)} {bowedTo : (Nat → Int32)} {isStale : Int32} {bowCount : Int32} {doubtCount : Int32} {seenBows : Int32} {likeliest : Int32} {mostSayingsSo : Int32} {bsize : Int32} {bcells : (Nat → Int32)} {ssize : Int32} {scells : (Nat → Int32)} {dsize : Int32} {dcells : (Nat → Int32)} {people : Int32} {rule : Int32} {believed : Int32} {a1 : Int32} {a2 : Int32} {N : Nat} {res : Int64} (h : f_X1_oddsOfBond N stepsAt weights rows doubtCount dsize dcells a1 a2 = some res) : CtL l yX1_oddsOfBond wsX1_oddsOfBond rm_X1_oddsOfBond G ca ev [.ref b0, .int a1, .int a2] (wB ca ev b0 b1 b2 n0 n1 n2 n3 n4 n5 n6 n7 c0 c1 c2 c3 c4 c5 c6 doers isTelling order stepsAt doubts weights rows metEver bowedTo isStale bowCount doubtCount seenBows likeliest mostSayingsSo bsize bcells ssize scells dsize dcells people rule believed) (wB ca ev b0 b1 b2 n0 n1 n2 n3 n4 n5 n6 n7 c0 c1 c2 c3 c4 c5 c6 doers isTelling order stepsAt doubts weights rows metEver bowedTo isStale bowCount doubtCount seenBows likeliest mostSayingsSo bsize bcells ssize scells dsize dcells people rule believed) res := by
  unfold f_X1_oddsOfBond at h
  refine en_l (by decide) rfl (Nat.le_of_ble_eq_true rfl) ?_
  intro p e s m args below meth c A Q H locs ls hx hb hml hown hts hA hP hK hD hE hS hl hRet
  have hown : s.vm.findClass RX1 = some m.cls := hown
  have hl : lv_has ls 6 [(0, .ref b0), (1, .int a1), (2, .int a2)] := hl
  have hin_X1 : ∀ w ∈ u_ws RX1 TX1 4, w ∈ wsX1_oddsOfBond := fun w h9 => List.mem_cons_of_mem _ (List.mem_append_left _ (List.mem_append_left _ (List.mem_append_left _ (List.mem_append_right _ h9))))
  have fk_23 := hts (.fieldLink RX1 23 "MaskBows$DeedBook" "table" "LMaskBows$Nights;") (by decide +kernel)
  refine lv_lconst (v := (0 : Int64)) hx hb dX1_oddsOfBond_0 (by decide) ?_
  refine lv_lstore_n (lv' := [(3, .long (0 : Int64)), (0, .ref b0), (1, .int a1), (2, .int a2)]) hx hb dX1_oddsOfBond_1 rfl hl (by decide) rfl (fun ls hl => ?_)
  refine lv_iconst (v := (0 : Int32)) hx hb dX1_oddsOfBond_2 (by decide) ?_
  refine lv_istore (lv' := [(5, .int (0 : Int32)), (3, .long (0 : Int64)), (0, .ref b0), (1, .int a1), (2, .int a2)]) hx hb dX1_oddsOfBond_3 hl (by decide) rfl (fun ls hl => ?_)
  have L_5 : ∀ {x1_5 : Int32} {x2_5 : Int32} {stepsAt_5 : (Nat → Int32)} {weights_5 : (Nat → Int32)} {rows_5 : (Nat → Int32)} {doubtCount_5 : Int32} {dsize_5 : Int32} {dcells_5 : (Nat → Int32)} (n_5 : Nat) {x3_5 : Int64} {x5_5 : Int32} {uL_5 : Int64} {H : Heap} {locs : List Loc} {ls : Array Slot}, f_X1_oddsOfBond_5 N x1_5 x2_5 stepsAt_5 weights_5 rows_5 doubtCount_5 dsize_5 dcells_5  n_5 x3_5 x5_5 = some uL_5 → va_P G vwCl (wB ca ev b0 b1 b2 n0 n1 n2 n3 n4 n5 n6 n7 c0 c1 c2 c3 c4 c5 c6 doers isTelling order stepsAt_5 doubts weights_5 rows_5 metEver bowedTo isStale bowCount doubtCount_5 seenBows likeliest mostSayingsSo bsize bcells ssize scells dsize_5 dcells_5 people rule believed) H → va_D A (wB ca ev b0 b1 b2 n0 n1 n2 n3 n4 n5 n6 n7 c0 c1 c2 c3 c4 c5 c6 doers isTelling order stepsAt_5 doubts weights_5 rows_5 metEver bowedTo isStale bowCount doubtCount_5 seenBows likeliest mostSayingsSo bsize bcells ssize scells dsize_5 dcells_5 people rule believed) → va_S A s.heap H locs → lv_has ls 6 [(0, .ref b0), (1, .int x1_5), (2, .int x2_5), (3, .long x3_5), (5, .int x5_5)] → (∀ {H : Heap} {locs : List Loc} {ls : Array Slot}, va_P G vwCl (wB ca ev b0 b1 b2 n0 n1 n2 n3 n4 n5 n6 n7 c0 c1 c2 c3 c4 c5 c6 doers isTelling order stepsAt_5 doubts weights_5 rows_5 metEver bowedTo isStale bowCount doubtCount_5 seenBows likeliest mostSayingsSo bsize bcells ssize scells dsize_5 dcells_5 people rule believed) H → va_D A (wB ca ev b0 b1 b2 n0 n1 n2 n3 n4 n5 n6 n7 c0 c1 c2 c3 c4 c5 c6 doers isTelling order stepsAt_5 doubts weights_5 rows_5 metEver bowedTo isStale bowCount doubtCount_5 seenBows likeliest mostSayingsSo bsize bcells ssize scells dsize_5 dcells_5 people rule believed) → va_S A s.heap H locs → lv_has ls 6 [(3, .long uL_5)] → W p l e rm_X1_oddsOfBond s m args below meth c H locs 0 0 Q (F0 m 59 ls [])) → W p l e rm_X1_oddsOfBond s m args below meth c H locs 0 0 Q (F0 m 5 ls []) := by
    intro x1_5 x2_5 stepsAt_5 weights_5 rows_5 doubtCount_5 dsize_5 dcells_5 n_5
    induction n_5 with
    | zero => intro x3_5 x5_5 uL_5 H locs ls h; exact absurd h (by rw [f_X1_oddsOfBond_5]; exact fun z => nomatch z)
    | succ n_5 ih =>
      intro x3_5 x5_5 uL_5 H locs ls h hP hD hS hl JK_5
      rw [f_X1_oddsOfBond_5] at h
      refine lv_iload hx hb dX1_oddsOfBond_5 (lv_at hl 4 rfl) ?_
      refine lv_aload_n hx hb dX1_oddsOfBond_7 rfl (lv_at hl 0 rfl) ?_
      refine va_get (D := G) (ci := 1) (v := .ref n0) (C := RX1) (T := TX1) (N := 4) hx hb hts hin_X1 hown hK hP 0 rfl rfl 1 (by decide) fk_23 (fun _ h9 => h9) rfl dX1_oddsOfBond_8 ?_
      obtain ⟨u_1, e_1, h⟩ := bd_some h
      refine cl_Vi (As := []) (rest := [.int x5_5]) (Wn := (wB ca ev b0 b1 b2 n0 n1 n2 n3 n4 n5 n6 n7 c0 c1 c2 c3 c4 c5 c6 doers isTelling order stepsAt_5 doubts weights_5 rows_5 metEver bowedTo isStale bowCount doubtCount_5 seenBows likeliest mostSayingsSo bsize bcells ssize scells dsize_5 dcells_5 people rule believed)) ⟨hx, hb, hml, hown, hts⟩ (c_X2_size (ca := ca) (ev := ev) (n0 := n0) (n1 := n1) (n2 := n2) (n3 := n3) (n4 := n4) (n5 := n5) (n6 := n6) (n7 := n7) (c0 := c0) (c1 := c1) (c2 := c2) (c3 := c3) (c4 := c4) (c5 := c5) (c6 := c6) (order := order) (stepsAt := stepsAt_5) (doubts := doubts) (weights := weights_5) (rows := rows_5) (metEver := metEver) (bowedTo := bowedTo) (isStale := isStale) (bowCount := bowCount) (doubtCount := doubtCount_5) (seenBows := seenBows) (likeliest := likeliest) (mostSayingsSo := mostSayingsSo) (bsize := bsize) (bcells := bcells) (ssize := ssize) (scells := scells) (dsize := dsize_5) (dcells := dcells_5) (people := people) (rule := rule) (believed := believed) e_1) (cwV 0 hts gX1_oddsOfBond_X2_size rfl rfl rfl hd_X2_size ⟨Nat.le_of_ble_eq_true rfl, Nat.le_of_ble_eq_true rfl⟩) hK hP hD hS hA hE wp_9 (q0 := 0) (ci := 2) rfl rfl rfl rfl hl.1 rfl (Nat.le_of_ble_eq_true rfl) dX1_oddsOfBond_11 ⟨Nat.zero_le _, Nat.zero_le _⟩ (fun H locs hP hD hS => ?_)
      refine lv_icmp_ge (tgt := 59) hx hb dX1_oddsOfBond_14 (by decide) (fun c_2 => ?_) (fun c_2 => ?_)
      · have h := ifp c_2 h
        obtain rfl := Option.some.inj h
        exact JK_5 hP hD hS (lv_sub hl [3] rfl)
      · have h := ifn c_2 h
        refine lv_aload_n hx hb dX1_oddsOfBond_17 rfl (lv_at hl 0 rfl) ?_
        refine va_get (D := G) (ci := 1) (v := .ref n0) (C := RX1) (T := TX1) (N := 4) hx hb hts hin_X1 hown hK hP 0 rfl rfl 1 (by decide) fk_23 (fun _ h9 => h9) rfl dX1_oddsOfBond_18 ?_
        refine lv_iload hx hb dX1_oddsOfBond_21 (lv_at hl 4 rfl) ?_
        obtain ⟨u_3, e_3, h⟩ := bd_some h
        refine cl_Vi (As := [.int x5_5]) (rest := []) (Wn := (wB ca ev b0 b1 b2 n0 n1 n2 n3 n4 n5 n6 n7 c0 c1 c2 c3 c4 c5 c6 doers isTelling order stepsAt_5 doubts weights_5 rows_5 metEver bowedTo isStale bowCount doubtCount_5 seenBows likeliest mostSayingsSo bsize bcells ssize scells dsize_5 dcells_5 people rule believed)) ⟨hx, hb, hml, hown, hts⟩ (c_X2_holds (ca := ca) (ev := ev) (n0 := n0) (n1 := n1) (n2 := n2) (n3 := n3) (n4 := n4) (n5 := n5) (n6 := n6) (n7 := n7) (c0 := c0) (c1 := c1) (c2 := c2) (c3 := c3) (c4 := c4) (c5 := c5) (c6 := c6) (order := order) (stepsAt := stepsAt_5) (doubts := doubts) (weights := weights_5) (rows := rows_5) (metEver := metEver) (bowedTo := bowedTo) (isStale := isStale) (bowCount := bowCount) (doubtCount := doubtCount_5) (seenBows := seenBows) (likeliest := likeliest) (mostSayingsSo := mostSayingsSo) (bsize := bsize) (bcells := bcells) (ssize := ssize) (scells := scells) (dsize := dsize_5) (dcells := dcells_5) (people := people) (rule := rule) (believed := believed) e_3) (cwV 1 hts gX1_oddsOfBond_X2_holds rfl rfl rfl hd_X2_holds ⟨Nat.le_of_ble_eq_true rfl, Nat.le_of_ble_eq_true rfl⟩) hK hP hD hS hA hE wp_9 (q0 := 0) (ci := 2) rfl rfl rfl rfl hl.1 rfl (Nat.le_of_ble_eq_true rfl) dX1_oddsOfBond_23 ⟨Nat.zero_le _, Nat.zero_le _⟩ (fun H locs hP hD hS => ?_)
        obtain ⟨u_4, e_4, h⟩ := bd_some h
        have J_4 : ∀ {H : Heap} {locs : List Loc} {ls : Array Slot}, va_P G vwCl (wB ca ev b0 b1 b2 n0 n1 n2 n3 n4 n5 n6 n7 c0 c1 c2 c3 c4 c5 c6 doers isTelling order stepsAt_5 doubts weights_5 rows_5 metEver bowedTo isStale bowCount doubtCount_5 seenBows likeliest mostSayingsSo bsize bcells ssize scells dsize_5 dcells_5 people rule believed) H → va_D A (wB ca ev b0 b1 b2 n0 n1 n2 n3 n4 n5 n6 n7 c0 c1 c2 c3 c4 c5 c6 doers isTelling order stepsAt_5 doubts weights_5 rows_5 metEver bowedTo isStale bowCount doubtCount_5 seenBows likeliest mostSayingsSo bsize bcells ssize scells dsize_5 dcells_5 people rule believed) → va_S A s.heap H locs → lv_has ls 6 [(0, .ref b0), (1, .int x1_5), (2, .int x2_5), (3, .long u_4), (5, .int x5_5)] → W p l e rm_X1_oddsOfBond s m args below meth c H locs 0 0 Q (F0 m 53 ls []) := by
          intro H locs ls hP hD hS hl 
          refine lv_iinc (v := (x5_5 + (1 : Int32))) (lv' := [(5, .int (x5_5 + (1 : Int32))), (0, .ref b0), (1, .int x1_5), (2, .int x2_5), (3, .long u_4)]) hx hb dX1_oddsOfBond_53 hl (k := 4) rfl rfl (by decide) rfl (fun ls hl => ?_)
          refine lv_goto (tgt := 5) hx hb dX1_oddsOfBond_56 (by decide) ?_
          exact ih h hP hD hS (lv_sub hl [1, 2, 3, 4, 0] rfl) JK_5
        have h := e_4
        clear e_4
        refine lv_if_eq (tgt := 53) hx hb dX1_oddsOfBond_26 (by decide) (fun c_4 => ?_) (fun c_4 => ?_)
        · have h := ifp c_4 h
          obtain rfl := Option.some.inj h
          exact J_4 hP hD hS (lv_sub hl [0, 1, 2, 3, 4] rfl)
        · have h := ifn c_4 h
          refine lv_aload_n hx hb dX1_oddsOfBond_29 rfl (lv_at hl 0 rfl) ?_
          refine lv_iload hx hb dX1_oddsOfBond_30 (lv_at hl 4 rfl) ?_
          refine lv_iload_n hx hb dX1_oddsOfBond_32 rfl (lv_at hl 1 rfl) ?_
          refine lv_iload_n hx hb dX1_oddsOfBond_33 rfl (lv_at hl 2 rfl) ?_
          obtain ⟨u_5, e_5, h⟩ := bd_some h
          refine cm_Vi (As := [.int x5_5, .int x1_5, .int x2_5]) (rest := []) ⟨hx, hb, hml, hown, hts⟩ (c_X1_areBoundIn (ca := ca) (ev := ev) (b0 := b0) (b1 := b1) (b2 := b2) (n0 := n0) (n1 := n1) (n2 := n2) (n3 := n3) (n4 := n4) (n5 := n5) (n6 := n6) (n7 := n7) (c0 := c0) (c1 := c1) (c2 := c2) (c3 := c3) (c4 := c4) (c5 := c5) (c6 := c6) (doers := doers) (isTelling := isTelling) (order := order) (stepsAt := stepsAt_5) (doubts := doubts) (weights := weights_5) (rows := rows_5) (metEver := metEver) (bowedTo := bowedTo) (isStale := isStale) (bowCount := bowCount) (doubtCount := doubtCount_5) (seenBows := seenBows) (likeliest := likeliest) (mostSayingsSo := mostSayingsSo) (bsize := bsize) (bcells := bcells) (ssize := ssize) (scells := scells) (dsize := dsize_5) (dcells := dcells_5) (people := people) (rule := rule) (believed := believed) e_5) (cwV 3 hts gX1_oddsOfBond_X1_areBoundIn rfl rfl rfl hd_X1_areBoundIn ⟨Nat.le_of_ble_eq_true rfl, Nat.le_of_ble_eq_true rfl⟩) hK hP hD hS hA hE (q0 := 0) (ci := 1) rfl rfl rfl rfl hl.1 rfl (Nat.le_of_ble_eq_true rfl) dX1_oddsOfBond_34 ⟨Nat.zero_le _, Nat.zero_le _⟩ (fun H locs hP hD hS => ?_)
          refine lv_if_eq (tgt := 53) hx hb dX1_oddsOfBond_37 (by decide) (fun c_6 => ?_) (fun c_6 => ?_)
          · have h := ifp c_6 h
            obtain rfl := Option.some.inj h
            exact J_4 hP hD hS (lv_sub hl [0, 1, 2, 3, 4] rfl)
          · have h := ifn c_6 h
            refine lv_lload_n hx hb dX1_oddsOfBond_40 rfl (lv_at hl 3 rfl) ?_
            refine lv_aload_n hx hb dX1_oddsOfBond_41 rfl (lv_at hl 0 rfl) ?_
            refine va_get (D := G) (ci := 1) (v := .ref n0) (C := RX1) (T := TX1) (N := 4) hx hb hts hin_X1 hown hK hP 0 rfl rfl 1 (by decide) fk_23 (fun _ h9 => h9) rfl dX1_oddsOfBond_42 ?_
            refine lv_iload hx hb dX1_oddsOfBond_45 (lv_at hl 4 rfl) ?_
            obtain ⟨u_7, e_7, h⟩ := bd_some h
            refine cl_Vi (As := [.int x5_5]) (rest := [.long x3_5]) (Wn := (wB ca ev b0 b1 b2 n0 n1 n2 n3 n4 n5 n6 n7 c0 c1 c2 c3 c4 c5 c6 doers isTelling order stepsAt_5 doubts weights_5 rows_5 metEver bowedTo isStale bowCount doubtCount_5 seenBows likeliest mostSayingsSo bsize bcells ssize scells dsize_5 dcells_5 people rule believed)) ⟨hx, hb, hml, hown, hts⟩ (c_X2_weight (ca := ca) (ev := ev) (n0 := n0) (n1 := n1) (n2 := n2) (n3 := n3) (n4 := n4) (n5 := n5) (n6 := n6) (n7 := n7) (c0 := c0) (c1 := c1) (c2 := c2) (c3 := c3) (c4 := c4) (c5 := c5) (c6 := c6) (order := order) (stepsAt := stepsAt_5) (doubts := doubts) (weights := weights_5) (rows := rows_5) (metEver := metEver) (bowedTo := bowedTo) (isStale := isStale) (bowCount := bowCount) (doubtCount := doubtCount_5) (seenBows := seenBows) (likeliest := likeliest) (mostSayingsSo := mostSayingsSo) (bsize := bsize) (bcells := bcells) (ssize := ssize) (scells := scells) (dsize := dsize_5) (dcells := dcells_5) (people := people) (rule := rule) (believed := believed) e_7) (cwV 1 hts gX1_oddsOfBond_X2_weight rfl rfl rfl hd_X2_weight ⟨Nat.le_of_ble_eq_true rfl, Nat.le_of_ble_eq_true rfl⟩) hK hP hD hS hA hE wp_9 (q0 := 0) (ci := 2) rfl rfl rfl rfl hl.1 rfl (Nat.le_of_ble_eq_true rfl) dX1_oddsOfBond_47 ⟨Nat.zero_le _, Nat.zero_le _⟩ (fun H locs hP hD hS => ?_)
            refine lv_i2l (v := u_7.toInt64) hx hb dX1_oddsOfBond_50 rfl ?_
            refine lv_ladd hx hb dX1_oddsOfBond_51 ?_
            refine lv_lstore_n (lv' := [(3, .long (x3_5 + u_7.toInt64)), (0, .ref b0), (1, .int x1_5), (2, .int x2_5), (5, .int x5_5)]) hx hb dX1_oddsOfBond_52 rfl hl (by decide) rfl (fun ls hl => ?_)
            obtain rfl := Option.some.inj h
            exact J_4 hP hD hS (lv_sub hl [1, 2, 3, 0, 4] rfl)
  obtain ⟨u_8, e_8, h⟩ := bd_some h
  refine L_5 _ e_8 hP hD hS (lv_sub hl [2, 3, 4, 1, 0] rfl) ?_
  intro H locs ls hP hD hS hl
  refine lv_lload_n hx hb dX1_oddsOfBond_59 rfl (lv_at hl 0 rfl) ?_
  obtain rfl := Option.some.inj h
  exact hRet hP hD hS dX1_oddsOfBond_60
abbrev rm_X1_noteDoers : Room := { frames := 3, cells := 0, slots := 0, locals := 66 }
theorem hd_X1_noteDoers : yX1_noteDoers.cls = RX1 ∧ yX1_noteDoers.cls ≠ "java/lang/invoke/MethodHandle" ∧ yX1_noteDoers.cls ≠ "java/lang/invoke/VarHandle" ∧ (parseMethodDescriptor yX1_noteDoers.desc).map (fun d => d.parameters.length) = some 0 := by decide +kernel
set_option maxHeartbeats 4000000 in
set_option maxRecDepth 100000 in
theorem c_X1_noteDoers {l : Launch} {G : va_G} {ca : Nat → ClassId} {ev : Nat → Nat} {b0 b1 b2 n0 n1 n2 n3 n4 n5 n6 n7 c0 c1 c2 c3 c4 c5 c6 : Nat} {doers : (Nat → Int64)} {isTelling : (Nat → Int32)} {order : (Nat → Int32)} {stepsAt : (Nat → Int32)} {doubts : (Nat → Int32)} {weights : (Nat → Int32)} {rows : (Nat → Int32)} {metEver : (Nat → Int32)} {bowedTo : (Nat → Int32)} {isStale : Int32} {bowCount : Int32} {doubtCount : Int32} {seenBows : Int32} {likeliest : Int32} {mostSayingsSo : Int32} {bsize : Int32} {bcells : (Nat → Int32)} {ssize : Int32} {scells : (Nat → Int32)} {dsize : Int32} {dcells : (Nat → Int32)} {people : Int32} {rule : Int32} {believed : Int32}  {N : Nat} {res : (Nat → Int64)} (h : f_X1_noteDoers N doers stepsAt weights rows doubtCount dsize dcells = some res) : CtV l yX1_noteDoers wsX1_noteDoers rm_X1_noteDoers G ca ev [.ref b0] (wB ca ev b0 b1 b2 n0 n1 n2 n3 n4 n5 n6 n7 c0 c1 c2 c3 c4 c5 c6 doers isTelling order stepsAt doubts weights rows metEver bowedTo isStale bowCount doubtCount seenBows likeliest mostSayingsSo bsize bcells ssize scells dsize dcells people rule believed) (wB ca ev b0 b1 b2 n0 n1 n2 n3 n4 n5 n6 n7 c0 c1 c2 c3 c4 c5 c6 res isTelling order stepsAt doubts weights rows metEver bowedTo isStale bowCount doubtCount seenBows likeliest mostSayingsSo bsize bcells ssize scells dsize dcells people rule believed) := by
  unfold f_X1_noteDoers at h
  refine en_v (by decide) rfl (Nat.le_of_ble_eq_true rfl) ?_
  intro p e s m args below meth c A Q H locs ls hx hb hml hown hts hA hP hK hD hE hS hl hRet
  have hown : s.vm.findClass RX1 = some m.cls := hown
  have hl : lv_has ls 5 [(0, .ref b0)] := hl
  have hin_X0 : ∀ w ∈ u_ws RX0 TX0 6, w ∈ wsX1_noteDoers := fun w h9 => List.mem_cons_of_mem _ (List.mem_append_left _ (List.mem_append_left _ (List.mem_append_right _ h9)))
  have hin_X1 : ∀ w ∈ u_ws RX1 TX1 4, w ∈ wsX1_noteDoers := fun w h9 => List.mem_cons_of_mem _ (List.mem_append_left _ (List.mem_append_left _ (List.mem_append_left _ (List.mem_append_right _ h9))))
  have fk_19 := hts (.fieldLink RX1 19 "MaskBows$DeedBook" "carnival" "LMaskBows$Carnival;") (by decide +kernel)
  have fk_23 := hts (.fieldLink RX1 23 "MaskBows$DeedBook" "table" "LMaskBows$Nights;") (by decide +kernel)
  have fk_51 := va_Nw.use (A := args) rfl (hE.1 ("MaskBows$DeedBook", 51, "MaskBows$Carnival", "deeds", "LMaskBows$Rows;", "MaskBows") (by decide +kernel))
  have fk_9 := hts (.fieldLink RX1 9 "MaskBows$DeedBook" "doers" "[J") (by decide +kernel)
  refine lv_iconst (v := (0 : Int32)) hx hb dX1_noteDoers_0 (by decide) ?_
  refine lv_istore_n (lv' := [(1, .int (0 : Int32)), (0, .ref b0)]) hx hb dX1_noteDoers_1 rfl hl (by decide) rfl (fun ls hl => ?_)
  have L_2 : ∀  {stepsAt_2 : (Nat → Int32)} {weights_2 : (Nat → Int32)} {rows_2 : (Nat → Int32)} {doubtCount_2 : Int32} {dsize_2 : Int32} {dcells_2 : (Nat → Int32)} (n_2 : Nat) {x1_2 : Int32} {doers_2 : (Nat → Int64)} {uL_2 : (Nat → Int64)} {H : Heap} {locs : List Loc} {ls : Array Slot}, f_X1_noteDoers_2 N stepsAt_2 weights_2 rows_2 doubtCount_2 dsize_2 dcells_2  n_2 x1_2 doers_2 = some uL_2 → va_P G vwCl (wB ca ev b0 b1 b2 n0 n1 n2 n3 n4 n5 n6 n7 c0 c1 c2 c3 c4 c5 c6 doers_2 isTelling order stepsAt_2 doubts weights_2 rows_2 metEver bowedTo isStale bowCount doubtCount_2 seenBows likeliest mostSayingsSo bsize bcells ssize scells dsize_2 dcells_2 people rule believed) H → va_D A (wB ca ev b0 b1 b2 n0 n1 n2 n3 n4 n5 n6 n7 c0 c1 c2 c3 c4 c5 c6 doers_2 isTelling order stepsAt_2 doubts weights_2 rows_2 metEver bowedTo isStale bowCount doubtCount_2 seenBows likeliest mostSayingsSo bsize bcells ssize scells dsize_2 dcells_2 people rule believed) → va_S A s.heap H locs → lv_has ls 5 [(0, .ref b0), (1, .int x1_2)] → (∀ {H : Heap} {locs : List Loc} {ls : Array Slot}, va_P G vwCl (wB ca ev b0 b1 b2 n0 n1 n2 n3 n4 n5 n6 n7 c0 c1 c2 c3 c4 c5 c6 uL_2 isTelling order stepsAt_2 doubts weights_2 rows_2 metEver bowedTo isStale bowCount doubtCount_2 seenBows likeliest mostSayingsSo bsize bcells ssize scells dsize_2 dcells_2 people rule believed) H → va_D A (wB ca ev b0 b1 b2 n0 n1 n2 n3 n4 n5 n6 n7 c0 c1 c2 c3 c4 c5 c6 uL_2 isTelling order stepsAt_2 doubts weights_2 rows_2 metEver bowedTo isStale bowCount doubtCount_2 seenBows likeliest mostSayingsSo bsize bcells ssize scells dsize_2 dcells_2 people rule believed) → va_S A s.heap H locs → lv_has ls 5 [] → W p l e rm_X1_noteDoers s m args below meth c H locs 0 0 Q (F0 m 82 ls [])) → W p l e rm_X1_noteDoers s m args below meth c H locs 0 0 Q (F0 m 2 ls []) := by
    intro stepsAt_2 weights_2 rows_2 doubtCount_2 dsize_2 dcells_2 n_2
    induction n_2 with
    | zero => intro x1_2 doers_2 uL_2 H locs ls h; exact absurd h (by rw [f_X1_noteDoers_2]; exact fun z => nomatch z)
    | succ n_2 ih =>
      intro x1_2 doers_2 uL_2 H locs ls h hP hD hS hl JK_2
      rw [f_X1_noteDoers_2] at h
      refine lv_iload_n hx hb dX1_noteDoers_2 rfl (lv_at hl 1 rfl) ?_
      refine lv_aload_n hx hb dX1_noteDoers_3 rfl (lv_at hl 0 rfl) ?_
      refine va_get (D := G) (ci := 1) (v := .ref n0) (C := RX1) (T := TX1) (N := 4) hx hb hts hin_X1 hown hK hP 0 rfl rfl 1 (by decide) fk_23 (fun _ h9 => h9) rfl dX1_noteDoers_4 ?_
      obtain ⟨u_1, e_1, h⟩ := bd_some h
      refine cl_Vi (As := []) (rest := [.int x1_2]) (Wn := (wB ca ev b0 b1 b2 n0 n1 n2 n3 n4 n5 n6 n7 c0 c1 c2 c3 c4 c5 c6 doers_2 isTelling order stepsAt_2 doubts weights_2 rows_2 metEver bowedTo isStale bowCount doubtCount_2 seenBows likeliest mostSayingsSo bsize bcells ssize scells dsize_2 dcells_2 people rule believed)) ⟨hx, hb, hml, hown, hts⟩ (c_X2_size (ca := ca) (ev := ev) (n0 := n0) (n1 := n1) (n2 := n2) (n3 := n3) (n4 := n4) (n5 := n5) (n6 := n6) (n7 := n7) (c0 := c0) (c1 := c1) (c2 := c2) (c3 := c3) (c4 := c4) (c5 := c5) (c6 := c6) (order := order) (stepsAt := stepsAt_2) (doubts := doubts) (weights := weights_2) (rows := rows_2) (metEver := metEver) (bowedTo := bowedTo) (isStale := isStale) (bowCount := bowCount) (doubtCount := doubtCount_2) (seenBows := seenBows) (likeliest := likeliest) (mostSayingsSo := mostSayingsSo) (bsize := bsize) (bcells := bcells) (ssize := ssize) (scells := scells) (dsize := dsize_2) (dcells := dcells_2) (people := people) (rule := rule) (believed := believed) e_1) (cwV 0 hts gX1_noteDoers_X2_size rfl rfl rfl hd_X2_size ⟨Nat.le_of_ble_eq_true rfl, Nat.le_of_ble_eq_true rfl⟩) hK hP hD hS hA hE wp_9 (q0 := 0) (ci := 2) rfl rfl rfl rfl hl.1 rfl (Nat.le_of_ble_eq_true rfl) dX1_noteDoers_7 ⟨Nat.zero_le _, Nat.zero_le _⟩ (fun H locs hP hD hS => ?_)
      refine lv_icmp_ge (tgt := 82) hx hb dX1_noteDoers_10 (by decide) (fun c_2 => ?_) (fun c_2 => ?_)
      · have h := ifp c_2 h
        obtain rfl := Option.some.inj h
        exact JK_2 hP hD hS (lv_sub hl [] rfl)
      · have h := ifn c_2 h
        refine lv_lconst (v := (0 : Int64)) hx hb dX1_noteDoers_13 (by decide) ?_
        refine lv_lstore_n (lv' := [(2, .long (0 : Int64)), (0, .ref b0), (1, .int x1_2)]) hx hb dX1_noteDoers_14 rfl hl (by decide) rfl (fun ls hl => ?_)
        refine lv_iconst (v := (0 : Int32)) hx hb dX1_noteDoers_15 (by decide) ?_
        refine lv_istore (lv' := [(4, .int (0 : Int32)), (2, .long (0 : Int64)), (0, .ref b0), (1, .int x1_2)]) hx hb dX1_noteDoers_16 hl (by decide) rfl (fun ls hl => ?_)
        have L_18 : ∀ {x1_18 : Int32} {stepsAt_18 : (Nat → Int32)} {rows_18 : (Nat → Int32)} {dsize_18 : Int32} {dcells_18 : (Nat → Int32)} (n_18 : Nat) {x2_18 : Int64} {x4_18 : Int32} {uL_18 : Int64} {H : Heap} {locs : List Loc} {ls : Array Slot}, f_X1_noteDoers_18 x1_18 stepsAt_18 rows_18 dsize_18 dcells_18  n_18 x2_18 x4_18 = some uL_18 → va_P G vwCl (wB ca ev b0 b1 b2 n0 n1 n2 n3 n4 n5 n6 n7 c0 c1 c2 c3 c4 c5 c6 doers_2 isTelling order stepsAt_18 doubts weights_2 rows_18 metEver bowedTo isStale bowCount doubtCount_2 seenBows likeliest mostSayingsSo bsize bcells ssize scells dsize_18 dcells_18 people rule believed) H → va_D A (wB ca ev b0 b1 b2 n0 n1 n2 n3 n4 n5 n6 n7 c0 c1 c2 c3 c4 c5 c6 doers_2 isTelling order stepsAt_18 doubts weights_2 rows_18 metEver bowedTo isStale bowCount doubtCount_2 seenBows likeliest mostSayingsSo bsize bcells ssize scells dsize_18 dcells_18 people rule believed) → va_S A s.heap H locs → lv_has ls 5 [(0, .ref b0), (1, .int x1_18), (2, .long x2_18), (4, .int x4_18)] → (∀ {H : Heap} {locs : List Loc} {ls : Array Slot}, va_P G vwCl (wB ca ev b0 b1 b2 n0 n1 n2 n3 n4 n5 n6 n7 c0 c1 c2 c3 c4 c5 c6 doers_2 isTelling order stepsAt_18 doubts weights_2 rows_18 metEver bowedTo isStale bowCount doubtCount_2 seenBows likeliest mostSayingsSo bsize bcells ssize scells dsize_18 dcells_18 people rule believed) H → va_D A (wB ca ev b0 b1 b2 n0 n1 n2 n3 n4 n5 n6 n7 c0 c1 c2 c3 c4 c5 c6 doers_2 isTelling order stepsAt_18 doubts weights_2 rows_18 metEver bowedTo isStale bowCount doubtCount_2 seenBows likeliest mostSayingsSo bsize bcells ssize scells dsize_18 dcells_18 people rule believed) → va_S A s.heap H locs → lv_has ls 5 [(0, .ref b0), (1, .int x1_18), (2, .long uL_18)] → W p l e rm_X1_noteDoers s m args below meth c H locs 0 0 Q (F0 m 52 ls [])) → W p l e rm_X1_noteDoers s m args below meth c H locs 0 0 Q (F0 m 18 ls []) := by
          intro x1_18 stepsAt_18 rows_18 dsize_18 dcells_18 n_18
          induction n_18 with
          | zero => intro x2_18 x4_18 uL_18 H locs ls h; exact absurd h (by rw [f_X1_noteDoers_18]; exact fun z => nomatch z)
          | succ n_18 ih =>
            intro x2_18 x4_18 uL_18 H locs ls h hP hD hS hl JK_18
            rw [f_X1_noteDoers_18] at h
            refine lv_iload hx hb dX1_noteDoers_18 (lv_at hl 3 rfl) ?_
            refine lv_aload_n hx hb dX1_noteDoers_20 rfl (lv_at hl 0 rfl) ?_
            refine va_get (D := G) (ci := 1) (v := .ref c0) (C := RX1) (T := TX1) (N := 4) hx hb hts hin_X1 hown hK hP 0 rfl rfl 0 (by decide) fk_19 (fun _ h9 => h9) rfl dX1_noteDoers_21 ?_
            refine va_getN (D := G) (ci := 0) (v := .ref c5) (C := RX0) (T := TX0) (N := 6) hx hb hts hin_X0 hown hK hP 11 rfl rfl 2 (by decide) fk_51 (fun _ h9 => h9) rfl dX1_noteDoers_24 ?_
            obtain ⟨u_3, e_3, h⟩ := bd_some h
            refine cl_Vi (As := []) (rest := [.int x4_18]) (Wn := (wB ca ev b0 b1 b2 n0 n1 n2 n3 n4 n5 n6 n7 c0 c1 c2 c3 c4 c5 c6 doers_2 isTelling order stepsAt_18 doubts weights_2 rows_18 metEver bowedTo isStale bowCount doubtCount_2 seenBows likeliest mostSayingsSo bsize bcells ssize scells dsize_18 dcells_18 people rule believed)) ⟨hx, hb, hml, hown, hts⟩ (c_X4_size (ca := ca) (ev := ev) (r0 := c5) (r1 := c6) (limit := (12 : Int32)) (width := (5 : Int32)) (size := dsize_18) (cells := dcells_18) (nc := 60) e_3) (cwV 0 hts gX1_noteDoers_X4_size rfl rfl rfl hd_X4_size ⟨Nat.le_of_ble_eq_true rfl, Nat.le_of_ble_eq_true rfl⟩) hK hP hD hS hA hE wp_8 (q0 := 0) (ci := 4) rfl rfl rfl rfl hl.1 rfl (Nat.le_of_ble_eq_true rfl) dX1_noteDoers_27 ⟨Nat.zero_le _, Nat.zero_le _⟩ (fun H locs hP hD hS => ?_)
            refine lv_icmp_ge (tgt := 52) hx hb dX1_noteDoers_30 (by decide) (fun c_4 => ?_) (fun c_4 => ?_)
            · have h := ifp c_4 h
              obtain rfl := Option.some.inj h
              exact JK_18 hP hD hS (lv_sub hl [0, 1, 2] rfl)
            · have h := ifn c_4 h
              refine lv_lload_n hx hb dX1_noteDoers_33 rfl (lv_at hl 2 rfl) ?_
              refine lv_iconst (v := (3 : Int32)) hx hb dX1_noteDoers_34 (by decide) ?_
              refine lv_lshl (v := (x2_18 <<< ((3 : Int32).toInt64 &&& 63))) hx hb dX1_noteDoers_35 rfl ?_
              refine lv_aload_n hx hb dX1_noteDoers_36 rfl (lv_at hl 0 rfl) ?_
              refine lv_iload_n hx hb dX1_noteDoers_37 rfl (lv_at hl 1 rfl) ?_
              refine lv_iload hx hb dX1_noteDoers_38 (lv_at hl 3 rfl) ?_
              obtain ⟨u_5, e_5, h⟩ := bd_some h
              refine cm_Vi (As := [.int x1_18, .int x4_18]) (rest := [.long (x2_18 <<< ((3 : Int32).toInt64 &&& 63))]) ⟨hx, hb, hml, hown, hts⟩ (c_X1_doerIn (ca := ca) (ev := ev) (b0 := b0) (b1 := b1) (b2 := b2) (n0 := n0) (n1 := n1) (n2 := n2) (n3 := n3) (n4 := n4) (n5 := n5) (n6 := n6) (n7 := n7) (c0 := c0) (c1 := c1) (c2 := c2) (c3 := c3) (c4 := c4) (c5 := c5) (c6 := c6) (doers := doers_2) (isTelling := isTelling) (order := order) (stepsAt := stepsAt_18) (doubts := doubts) (weights := weights_2) (rows := rows_18) (metEver := metEver) (bowedTo := bowedTo) (isStale := isStale) (bowCount := bowCount) (doubtCount := doubtCount_2) (seenBows := seenBows) (likeliest := likeliest) (mostSayingsSo := mostSayingsSo) (bsize := bsize) (bcells := bcells) (ssize := ssize) (scells := scells) (dsize := dsize_18) (dcells := dcells_18) (people := people) (rule := rule) (believed := believed) e_5) (cwV 2 hts gX1_noteDoers_X1_doerIn rfl rfl rfl hd_X1_doerIn ⟨Nat.le_of_ble_eq_true rfl, Nat.le_of_ble_eq_true rfl⟩) hK hP hD hS hA hE (q0 := 0) (ci := 1) rfl rfl rfl rfl hl.1 rfl (Nat.le_of_ble_eq_true rfl) dX1_noteDoers_40 ⟨Nat.zero_le _, Nat.zero_le _⟩ (fun H locs hP hD hS => ?_)
              refine lv_i2l (v := u_5.toInt64) hx hb dX1_noteDoers_43 rfl ?_
              refine lv_lor hx hb dX1_noteDoers_44 ?_
              refine lv_lstore_n (lv' := [(2, .long ((x2_18 <<< ((3 : Int32).toInt64 &&& 63)) ||| u_5.toInt64)), (0, .ref b0), (1, .int x1_18), (4, .int x4_18)]) hx hb dX1_noteDoers_45 rfl hl (by decide) rfl (fun ls hl => ?_)
              refine lv_iinc (v := (x4_18 + (1 : Int32))) (lv' := [(4, .int (x4_18 + (1 : Int32))), (2, .long ((x2_18 <<< ((3 : Int32).toInt64 &&& 63)) ||| u_5.toInt64)), (0, .ref b0), (1, .int x1_18)]) hx hb dX1_noteDoers_46 hl (k := 3) rfl rfl (by decide) rfl (fun ls hl => ?_)
              refine lv_goto (tgt := 18) hx hb dX1_noteDoers_49 (by decide) ?_
              exact ih h hP hD hS (lv_sub hl [2, 3, 1, 0] rfl) JK_18
        obtain ⟨u_6, e_6, h⟩ := bd_some h
        refine L_18 _ e_6 hP hD hS (lv_sub hl [2, 3, 1, 0] rfl) ?_
        intro H locs ls hP hD hS hl
        refine lv_aload_n hx hb dX1_noteDoers_52 rfl (lv_at hl 0 rfl) ?_
        refine va_get (D := G) (ci := 1) (v := .ref b1) (C := RX1) (T := TX1) (N := 4) hx hb hts hin_X1 hown hK hP 0 rfl rfl 2 (by decide) fk_9 (fun _ h9 => h9) rfl dX1_noteDoers_53 ?_
        refine lv_iload_n hx hb dX1_noteDoers_56 rfl (lv_at hl 1 rfl) ?_
        refine lv_aload_n hx hb dX1_noteDoers_57 rfl (lv_at hl 0 rfl) ?_
        refine va_get (D := G) (ci := 1) (v := .ref n0) (C := RX1) (T := TX1) (N := 4) hx hb hts hin_X1 hown hK hP 0 rfl rfl 1 (by decide) fk_23 (fun _ h9 => h9) rfl dX1_noteDoers_58 ?_
        refine lv_iload_n hx hb dX1_noteDoers_61 rfl (lv_at hl 1 rfl) ?_
        obtain ⟨u_7, e_7, h⟩ := bd_some h
        refine cl_Vi (As := [.int x1_2]) (rest := [.int x1_2, .ref b1]) (Wn := (wB ca ev b0 b1 b2 n0 n1 n2 n3 n4 n5 n6 n7 c0 c1 c2 c3 c4 c5 c6 doers_2 isTelling order stepsAt_2 doubts weights_2 rows_2 metEver bowedTo isStale bowCount doubtCount_2 seenBows likeliest mostSayingsSo bsize bcells ssize scells dsize_2 dcells_2 people rule believed)) ⟨hx, hb, hml, hown, hts⟩ (c_X2_holds (ca := ca) (ev := ev) (n0 := n0) (n1 := n1) (n2 := n2) (n3 := n3) (n4 := n4) (n5 := n5) (n6 := n6) (n7 := n7) (c0 := c0) (c1 := c1) (c2 := c2) (c3 := c3) (c4 := c4) (c5 := c5) (c6 := c6) (order := order) (stepsAt := stepsAt_2) (doubts := doubts) (weights := weights_2) (rows := rows_2) (metEver := metEver) (bowedTo := bowedTo) (isStale := isStale) (bowCount := bowCount) (doubtCount := doubtCount_2) (seenBows := seenBows) (likeliest := likeliest) (mostSayingsSo := mostSayingsSo) (bsize := bsize) (bcells := bcells) (ssize := ssize) (scells := scells) (dsize := dsize_2) (dcells := dcells_2) (people := people) (rule := rule) (believed := believed) e_7) (cwV 1 hts gX1_noteDoers_X2_holds rfl rfl rfl hd_X2_holds ⟨Nat.le_of_ble_eq_true rfl, Nat.le_of_ble_eq_true rfl⟩) hK hP hD hS hA hE wp_9 (q0 := 0) (ci := 2) rfl rfl rfl rfl hl.1 rfl (Nat.le_of_ble_eq_true rfl) dX1_noteDoers_62 ⟨Nat.zero_le _, Nat.zero_le _⟩ (fun H locs hP hD hS => ?_)
        obtain ⟨u_8, e_8, h⟩ := bd_some h
        have J_8 : ∀ {H : Heap} {locs : List Loc} {ls : Array Slot}, va_P G vwCl (wB ca ev b0 b1 b2 n0 n1 n2 n3 n4 n5 n6 n7 c0 c1 c2 c3 c4 c5 c6 doers_2 isTelling order stepsAt_2 doubts weights_2 rows_2 metEver bowedTo isStale bowCount doubtCount_2 seenBows likeliest mostSayingsSo bsize bcells ssize scells dsize_2 dcells_2 people rule believed) H → va_D A (wB ca ev b0 b1 b2 n0 n1 n2 n3 n4 n5 n6 n7 c0 c1 c2 c3 c4 c5 c6 doers_2 isTelling order stepsAt_2 doubts weights_2 rows_2 metEver bowedTo isStale bowCount doubtCount_2 seenBows likeliest mostSayingsSo bsize bcells ssize scells dsize_2 dcells_2 people rule believed) → va_S A s.heap H locs → lv_has ls 5 [(0, .ref b0), (1, .int x1_2)] → W p l e rm_X1_noteDoers s m args below meth c H locs 0 0 Q (F0 m 75 ls [.long u_8, .int x1_2, .ref b1]) := by
          intro H locs ls hP hD hS hl 
          obtain ⟨i_9, h⟩ := gd_some h
          refine va_last hx hb hK hP hD hS 1 1 rfl rfl (ix_in i_9) dX1_noteDoers_75 (fun H locs hP hD hS => ?_)
          have hP : va_P G vwCl (wB ca ev b0 b1 b2 n0 n1 n2 n3 n4 n5 n6 n7 c0 c1 c2 c3 c4 c5 c6 (vp_updL doers_2 x1_2.toNatClampNeg u_8) isTelling order stepsAt_2 doubts weights_2 rows_2 metEver bowedTo isStale bowCount doubtCount_2 seenBows likeliest mostSayingsSo bsize bcells ssize scells dsize_2 dcells_2 people rule believed) H := hP
          have hD : va_D A (wB ca ev b0 b1 b2 n0 n1 n2 n3 n4 n5 n6 n7 c0 c1 c2 c3 c4 c5 c6 (vp_updL doers_2 x1_2.toNatClampNeg u_8) isTelling order stepsAt_2 doubts weights_2 rows_2 metEver bowedTo isStale bowCount doubtCount_2 seenBows likeliest mostSayingsSo bsize bcells ssize scells dsize_2 dcells_2 people rule believed) := hD
          refine lv_iinc (v := (x1_2 + (1 : Int32))) (lv' := [(1, .int (x1_2 + (1 : Int32))), (0, .ref b0)]) hx hb dX1_noteDoers_76 hl (k := 1) rfl rfl (by decide) rfl (fun ls hl => ?_)
          refine lv_goto (tgt := 2) hx hb dX1_noteDoers_79 (by decide) ?_
          exact ih h hP hD hS (lv_sub hl [1, 0] rfl) JK_2
        have h := e_8
        clear e_8
        refine lv_if_eq (tgt := 72) hx hb dX1_noteDoers_65 (by decide) (fun c_8 => ?_) (fun c_8 => ?_)
        · have h := ifp c_8 h
          refine lv_ldc2 (v := (-1 : Int64)) hx hb hown (hts (.constantLong RX1 93 (-1)) (by decide +kernel)) dX1_noteDoers_72 ?_
          obtain rfl := Option.some.inj h
          exact J_8 hP hD hS (lv_sub hl [0, 1] rfl)
        · have h := ifn c_8 h
          refine lv_lload_n hx hb dX1_noteDoers_68 rfl (lv_at hl 2 rfl) ?_
          refine lv_goto (tgt := 75) hx hb dX1_noteDoers_69 (by decide) ?_
          obtain rfl := Option.some.inj h
          exact J_8 hP hD hS (lv_sub hl [0, 1] rfl)
  obtain ⟨u_10, e_10, h⟩ := bd_some h
  refine L_2 _ e_10 hP hD hS (lv_sub hl [1, 0] rfl) ?_
  intro H locs ls hP hD hS hl
  obtain rfl := Option.some.inj h
  exact hRet hP hD hS dX1_noteDoers_82
abbrev rm_X1_noteTellingSets : Room := { frames := 1, cells := 0, slots := 0, locals := 20 }
theorem hd_X1_noteTellingSets : yX1_noteTellingSets.cls = RX1 ∧ yX1_noteTellingSets.cls ≠ "java/lang/invoke/MethodHandle" ∧ yX1_noteTellingSets.cls ≠ "java/lang/invoke/VarHandle" ∧ (parseMethodDescriptor yX1_noteTellingSets.desc).map (fun d => d.parameters.length) = some 0 := by decide +kernel
set_option maxHeartbeats 4000000 in
set_option maxRecDepth 100000 in
theorem c_X1_noteTellingSets {l : Launch} {G : va_G} {ca : Nat → ClassId} {ev : Nat → Nat} {b0 b1 b2 n0 n1 n2 n3 n4 n5 n6 n7 c0 c1 c2 c3 c4 c5 c6 : Nat} {doers : (Nat → Int64)} {isTelling : (Nat → Int32)} {order : (Nat → Int32)} {stepsAt : (Nat → Int32)} {doubts : (Nat → Int32)} {weights : (Nat → Int32)} {rows : (Nat → Int32)} {metEver : (Nat → Int32)} {bowedTo : (Nat → Int32)} {isStale : Int32} {bowCount : Int32} {doubtCount : Int32} {seenBows : Int32} {likeliest : Int32} {mostSayingsSo : Int32} {bsize : Int32} {bcells : (Nat → Int32)} {ssize : Int32} {scells : (Nat → Int32)} {dsize : Int32} {dcells : (Nat → Int32)} {people : Int32} {rule : Int32} {believed : Int32}  {N : Nat} {res : (Nat → Int32)} (h : f_X1_noteTellingSets N doers isTelling doubtCount = some res) : CtV l yX1_noteTellingSets wsX1_noteTellingSets rm_X1_noteTellingSets G ca ev [.ref b0] (wB ca ev b0 b1 b2 n0 n1 n2 n3 n4 n5 n6 n7 c0 c1 c2 c3 c4 c5 c6 doers isTelling order stepsAt doubts weights rows metEver bowedTo isStale bowCount doubtCount seenBows likeliest mostSayingsSo bsize bcells ssize scells dsize dcells people rule believed) (wB ca ev b0 b1 b2 n0 n1 n2 n3 n4 n5 n6 n7 c0 c1 c2 c3 c4 c5 c6 doers res order stepsAt doubts weights rows metEver bowedTo isStale bowCount doubtCount seenBows likeliest mostSayingsSo bsize bcells ssize scells dsize dcells people rule believed) := by
  unfold f_X1_noteTellingSets at h
  refine en_v (by decide) rfl (Nat.le_of_ble_eq_true rfl) ?_
  intro p e s m args below meth c A Q H locs ls hx hb hml hown hts hA hP hK hD hE hS hl hRet
  have hown : s.vm.findClass RX1 = some m.cls := hown
  have hl : lv_has ls 4 [(0, .ref b0)] := hl
  have hin_X1 : ∀ w ∈ u_ws RX1 TX1 4, w ∈ wsX1_noteTellingSets := fun w h9 => List.mem_cons_of_mem _ (List.mem_append_left _ (List.mem_append_right _ h9))
  have fk_15 := hts (.fieldLink RX1 15 "MaskBows$DeedBook" "isTelling" "[Z") (by decide +kernel)
  have fk_23 := hts (.fieldLink RX1 23 "MaskBows$DeedBook" "table" "LMaskBows$Nights;") (by decide +kernel)
  have fk_9 := hts (.fieldLink RX1 9 "MaskBows$DeedBook" "doers" "[J") (by decide +kernel)
  refine lv_aload_n hx hb dX1_noteTellingSets_0 rfl (lv_at hl 0 rfl) ?_
  refine va_get (D := G) (ci := 1) (v := .ref n0) (C := RX1) (T := TX1) (N := 4) hx hb hts hin_X1 hown hK hP 0 rfl rfl 1 (by decide) fk_23 (fun _ h9 => h9) rfl dX1_noteTellingSets_1 ?_
  obtain ⟨u_1, e_1, h⟩ := bd_some h
  refine cl_Vi (As := []) (rest := []) (Wn := (wB ca ev b0 b1 b2 n0 n1 n2 n3 n4 n5 n6 n7 c0 c1 c2 c3 c4 c5 c6 doers isTelling order stepsAt doubts weights rows metEver bowedTo isStale bowCount doubtCount seenBows likeliest mostSayingsSo bsize bcells ssize scells dsize dcells people rule believed)) ⟨hx, hb, hml, hown, hts⟩ (c_X2_size (ca := ca) (ev := ev) (n0 := n0) (n1 := n1) (n2 := n2) (n3 := n3) (n4 := n4) (n5 := n5) (n6 := n6) (n7 := n7) (c0 := c0) (c1 := c1) (c2 := c2) (c3 := c3) (c4 := c4) (c5 := c5) (c6 := c6) (order := order) (stepsAt := stepsAt) (doubts := doubts) (weights := weights) (rows := rows) (metEver := metEver) (bowedTo := bowedTo) (isStale := isStale) (bowCount := bowCount) (doubtCount := doubtCount) (seenBows := seenBows) (likeliest := likeliest) (mostSayingsSo := mostSayingsSo) (bsize := bsize) (bcells := bcells) (ssize := ssize) (scells := scells) (dsize := dsize) (dcells := dcells) (people := people) (rule := rule) (believed := believed) e_1) (cwV 0 hts gX1_noteTellingSets_X2_size rfl rfl rfl hd_X2_size ⟨Nat.le_of_ble_eq_true rfl, Nat.le_of_ble_eq_true rfl⟩) hK hP hD hS hA hE wp_9 (q0 := 0) (ci := 2) rfl rfl rfl rfl hl.1 rfl (Nat.le_of_ble_eq_true rfl) dX1_noteTellingSets_4 ⟨Nat.zero_le _, Nat.zero_le _⟩ (fun H locs hP hD hS => ?_)
  refine lv_istore_n (lv' := [(1, .int u_1), (0, .ref b0)]) hx hb dX1_noteTellingSets_7 rfl hl (by decide) rfl (fun ls hl => ?_)
  refine lv_iconst (v := (0 : Int32)) hx hb dX1_noteTellingSets_8 (by decide) ?_
  refine lv_istore_n (lv' := [(2, .int (0 : Int32)), (1, .int u_1), (0, .ref b0)]) hx hb dX1_noteTellingSets_9 rfl hl (by decide) rfl (fun ls hl => ?_)
  have L_10 : ∀ {x1_10 : Int32}  (n_10 : Nat) {x2_10 : Int32} {isTelling_10 : (Nat → Int32)} {uL_10 : (Nat → Int32)} {H : Heap} {locs : List Loc} {ls : Array Slot}, f_X1_noteTellingSets_10 x1_10  n_10 x2_10 isTelling_10 = some uL_10 → va_P G vwCl (wB ca ev b0 b1 b2 n0 n1 n2 n3 n4 n5 n6 n7 c0 c1 c2 c3 c4 c5 c6 doers isTelling_10 order stepsAt doubts weights rows metEver bowedTo isStale bowCount doubtCount seenBows likeliest mostSayingsSo bsize bcells ssize scells dsize dcells people rule believed) H → va_D A (wB ca ev b0 b1 b2 n0 n1 n2 n3 n4 n5 n6 n7 c0 c1 c2 c3 c4 c5 c6 doers isTelling_10 order stepsAt doubts weights rows metEver bowedTo isStale bowCount doubtCount seenBows likeliest mostSayingsSo bsize bcells ssize scells dsize dcells people rule believed) → va_S A s.heap H locs → lv_has ls 4 [(0, .ref b0), (1, .int x1_10), (2, .int x2_10)] → (∀ {H : Heap} {locs : List Loc} {ls : Array Slot}, va_P G vwCl (wB ca ev b0 b1 b2 n0 n1 n2 n3 n4 n5 n6 n7 c0 c1 c2 c3 c4 c5 c6 doers uL_10 order stepsAt doubts weights rows metEver bowedTo isStale bowCount doubtCount seenBows likeliest mostSayingsSo bsize bcells ssize scells dsize dcells people rule believed) H → va_D A (wB ca ev b0 b1 b2 n0 n1 n2 n3 n4 n5 n6 n7 c0 c1 c2 c3 c4 c5 c6 doers uL_10 order stepsAt doubts weights rows metEver bowedTo isStale bowCount doubtCount seenBows likeliest mostSayingsSo bsize bcells ssize scells dsize dcells people rule believed) → va_S A s.heap H locs → lv_has ls 4 [(0, .ref b0), (1, .int x1_10)] → W p l e rm_X1_noteTellingSets s m args below meth c H locs 0 0 Q (F0 m 28 ls [])) → W p l e rm_X1_noteTellingSets s m args below meth c H locs 0 0 Q (F0 m 10 ls []) := by
    intro x1_10 n_10
    induction n_10 with
    | zero => intro x2_10 isTelling_10 uL_10 H locs ls h; exact absurd h (by rw [f_X1_noteTellingSets_10]; exact fun z => nomatch z)
    | succ n_10 ih =>
      intro x2_10 isTelling_10 uL_10 H locs ls h hP hD hS hl JK_10
      rw [f_X1_noteTellingSets_10] at h
      refine lv_iload_n hx hb dX1_noteTellingSets_10 rfl (lv_at hl 2 rfl) ?_
      refine lv_iload_n hx hb dX1_noteTellingSets_11 rfl (lv_at hl 1 rfl) ?_
      refine lv_icmp_ge (tgt := 28) hx hb dX1_noteTellingSets_12 (by decide) (fun c_2 => ?_) (fun c_2 => ?_)
      · have h := ifp c_2 h
        obtain rfl := Option.some.inj h
        exact JK_10 hP hD hS (lv_sub hl [0, 1] rfl)
      · have h := ifn c_2 h
        refine lv_aload_n hx hb dX1_noteTellingSets_15 rfl (lv_at hl 0 rfl) ?_
        refine va_get (D := G) (ci := 1) (v := .ref b2) (C := RX1) (T := TX1) (N := 4) hx hb hts hin_X1 hown hK hP 0 rfl rfl 3 (by decide) fk_15 (fun _ h9 => h9) rfl dX1_noteTellingSets_16 ?_
        refine lv_iload_n hx hb dX1_noteTellingSets_19 rfl (lv_at hl 2 rfl) ?_
        refine lv_iconst (v := (0 : Int32)) hx hb dX1_noteTellingSets_20 (by decide) ?_
        obtain ⟨i_3, h⟩ := gd_some h
        refine va_zast hx hb hK hP hD hS 2 2 rfl rfl (ix_in i_3) dX1_noteTellingSets_21 (fun H locs hP hD hS => ?_)
        have hP : va_P G vwCl (wB ca ev b0 b1 b2 n0 n1 n2 n3 n4 n5 n6 n7 c0 c1 c2 c3 c4 c5 c6 doers (upd isTelling_10 x2_10.toNatClampNeg (0 : Int32)) order stepsAt doubts weights rows metEver bowedTo isStale bowCount doubtCount seenBows likeliest mostSayingsSo bsize bcells ssize scells dsize dcells people rule believed) H := hP
        have hD : va_D A (wB ca ev b0 b1 b2 n0 n1 n2 n3 n4 n5 n6 n7 c0 c1 c2 c3 c4 c5 c6 doers (upd isTelling_10 x2_10.toNatClampNeg (0 : Int32)) order stepsAt doubts weights rows metEver bowedTo isStale bowCount doubtCount seenBows likeliest mostSayingsSo bsize bcells ssize scells dsize dcells people rule believed) := hD
        refine lv_iinc (v := (x2_10 + (1 : Int32))) (lv' := [(2, .int (x2_10 + (1 : Int32))), (0, .ref b0), (1, .int x1_10)]) hx hb dX1_noteTellingSets_22 hl (k := 2) rfl rfl (by decide) rfl (fun ls hl => ?_)
        refine lv_goto (tgt := 10) hx hb dX1_noteTellingSets_25 (by decide) ?_
        exact ih h hP hD hS (lv_sub hl [1, 2, 0] rfl) JK_10
  obtain ⟨u_4, e_4, h⟩ := bd_some h
  refine L_10 _ e_4 hP hD hS (lv_sub hl [2, 1, 0] rfl) ?_
  intro H locs ls hP hD hS hl
  refine lv_iconst (v := (1 : Int32)) hx hb dX1_noteTellingSets_28 (by decide) ?_
  refine lv_istore_n (lv' := [(2, .int (1 : Int32)), (0, .ref b0), (1, .int u_1)]) hx hb dX1_noteTellingSets_29 rfl hl (by decide) rfl (fun ls hl => ?_)
  have L_30 : ∀ {x1_30 : Int32} {doers_30 : (Nat → Int64)} (n_30 : Nat) {x2_30 : Int32} {isTelling_30 : (Nat → Int32)} {uL_30 : (Nat → Int32)} {H : Heap} {locs : List Loc} {ls : Array Slot}, f_X1_noteTellingSets_30 N x1_30 doers_30  n_30 x2_30 isTelling_30 = some uL_30 → va_P G vwCl (wB ca ev b0 b1 b2 n0 n1 n2 n3 n4 n5 n6 n7 c0 c1 c2 c3 c4 c5 c6 doers_30 isTelling_30 order stepsAt doubts weights rows metEver bowedTo isStale bowCount doubtCount seenBows likeliest mostSayingsSo bsize bcells ssize scells dsize dcells people rule believed) H → va_D A (wB ca ev b0 b1 b2 n0 n1 n2 n3 n4 n5 n6 n7 c0 c1 c2 c3 c4 c5 c6 doers_30 isTelling_30 order stepsAt doubts weights rows metEver bowedTo isStale bowCount doubtCount seenBows likeliest mostSayingsSo bsize bcells ssize scells dsize dcells people rule believed) → va_S A s.heap H locs → lv_has ls 4 [(0, .ref b0), (1, .int x1_30), (2, .int x2_30)] → (∀ {H : Heap} {locs : List Loc} {ls : Array Slot}, va_P G vwCl (wB ca ev b0 b1 b2 n0 n1 n2 n3 n4 n5 n6 n7 c0 c1 c2 c3 c4 c5 c6 doers_30 uL_30 order stepsAt doubts weights rows metEver bowedTo isStale bowCount doubtCount seenBows likeliest mostSayingsSo bsize bcells ssize scells dsize dcells people rule believed) H → va_D A (wB ca ev b0 b1 b2 n0 n1 n2 n3 n4 n5 n6 n7 c0 c1 c2 c3 c4 c5 c6 doers_30 uL_30 order stepsAt doubts weights rows metEver bowedTo isStale bowCount doubtCount seenBows likeliest mostSayingsSo bsize bcells ssize scells dsize dcells people rule believed) → va_S A s.heap H locs → lv_has ls 4 [] → W p l e rm_X1_noteTellingSets s m args below meth c H locs 0 0 Q (F0 m 105 ls [])) → W p l e rm_X1_noteTellingSets s m args below meth c H locs 0 0 Q (F0 m 30 ls []) := by
    intro x1_30 doers_30 n_30
    induction n_30 with
    | zero => intro x2_30 isTelling_30 uL_30 H locs ls h; exact absurd h (by rw [f_X1_noteTellingSets_30]; exact fun z => nomatch z)
    | succ n_30 ih =>
      intro x2_30 isTelling_30 uL_30 H locs ls h hP hD hS hl JK_30
      rw [f_X1_noteTellingSets_30] at h
      refine lv_iload_n hx hb dX1_noteTellingSets_30 rfl (lv_at hl 2 rfl) ?_
      refine lv_iload_n hx hb dX1_noteTellingSets_31 rfl (lv_at hl 1 rfl) ?_
      refine lv_icmp_ge (tgt := 105) hx hb dX1_noteTellingSets_32 (by decide) (fun c_5 => ?_) (fun c_5 => ?_)
      · have h := ifp c_5 h
        obtain rfl := Option.some.inj h
        exact JK_30 hP hD hS (lv_sub hl [] rfl)
      · have h := ifn c_5 h
        refine lv_iconst (v := (0 : Int32)) hx hb dX1_noteTellingSets_35 (by decide) ?_
        refine lv_istore_n (lv' := [(3, .int (0 : Int32)), (0, .ref b0), (1, .int x1_30), (2, .int x2_30)]) hx hb dX1_noteTellingSets_36 rfl hl (by decide) rfl (fun ls hl => ?_)
        have L_37 : ∀ {x2_37 : Int32} {doers_37 : (Nat → Int64)} (n_37 : Nat) {x3_37 : Int32} {isTelling_37 : (Nat → Int32)} {uL_37 : (Nat → Int32)} {H : Heap} {locs : List Loc} {ls : Array Slot}, f_X1_noteTellingSets_37 x2_37 doers_37  n_37 x3_37 isTelling_37 = some uL_37 → va_P G vwCl (wB ca ev b0 b1 b2 n0 n1 n2 n3 n4 n5 n6 n7 c0 c1 c2 c3 c4 c5 c6 doers_37 isTelling_37 order stepsAt doubts weights rows metEver bowedTo isStale bowCount doubtCount seenBows likeliest mostSayingsSo bsize bcells ssize scells dsize dcells people rule believed) H → va_D A (wB ca ev b0 b1 b2 n0 n1 n2 n3 n4 n5 n6 n7 c0 c1 c2 c3 c4 c5 c6 doers_37 isTelling_37 order stepsAt doubts weights rows metEver bowedTo isStale bowCount doubtCount seenBows likeliest mostSayingsSo bsize bcells ssize scells dsize dcells people rule believed) → va_S A s.heap H locs → lv_has ls 4 [(0, .ref b0), (1, .int x1_30), (2, .int x2_37), (3, .int x3_37)] → (∀ {H : Heap} {locs : List Loc} {ls : Array Slot}, va_P G vwCl (wB ca ev b0 b1 b2 n0 n1 n2 n3 n4 n5 n6 n7 c0 c1 c2 c3 c4 c5 c6 doers_37 uL_37 order stepsAt doubts weights rows metEver bowedTo isStale bowCount doubtCount seenBows likeliest mostSayingsSo bsize bcells ssize scells dsize dcells people rule believed) H → va_D A (wB ca ev b0 b1 b2 n0 n1 n2 n3 n4 n5 n6 n7 c0 c1 c2 c3 c4 c5 c6 doers_37 uL_37 order stepsAt doubts weights rows metEver bowedTo isStale bowCount doubtCount seenBows likeliest mostSayingsSo bsize bcells ssize scells dsize dcells people rule believed) → va_S A s.heap H locs → lv_has ls 4 [(0, .ref b0), (1, .int x1_30), (2, .int x2_37)] → W p l e rm_X1_noteTellingSets s m args below meth c H locs 0 0 Q (F0 m 99 ls [])) → W p l e rm_X1_noteTellingSets s m args below meth c H locs 0 0 Q (F0 m 37 ls []) := by
          intro x2_37 doers_37 n_37
          induction n_37 with
          | zero => intro x3_37 isTelling_37 uL_37 H locs ls h; exact absurd h (by rw [f_X1_noteTellingSets_37]; exact fun z => nomatch z)
          | succ n_37 ih =>
            intro x3_37 isTelling_37 uL_37 H locs ls h hP hD hS hl JK_37
            rw [f_X1_noteTellingSets_37] at h
            refine lv_iload_n hx hb dX1_noteTellingSets_37 rfl (lv_at hl 3 rfl) ?_
            refine lv_iload_n hx hb dX1_noteTellingSets_38 rfl (lv_at hl 2 rfl) ?_
            refine lv_icmp_ge (tgt := 99) hx hb dX1_noteTellingSets_39 (by decide) (fun c_6 => ?_) (fun c_6 => ?_)
            · have h := ifp c_6 h
              obtain rfl := Option.some.inj h
              exact JK_37 hP hD hS (lv_sub hl [0, 1, 2] rfl)
            · have h := ifn c_6 h
              refine lv_aload_n hx hb dX1_noteTellingSets_42 rfl (lv_at hl 0 rfl) ?_
              refine va_get (D := G) (ci := 1) (v := .ref b1) (C := RX1) (T := TX1) (N := 4) hx hb hts hin_X1 hown hK hP 0 rfl rfl 2 (by decide) fk_9 (fun _ h9 => h9) rfl dX1_noteTellingSets_43 ?_
              refine lv_iload_n hx hb dX1_noteTellingSets_46 rfl (lv_at hl 2 rfl) ?_
              obtain ⟨i_7, h⟩ := gd_some h
              refine va_lald hx hb hK hP 1 1 rfl rfl (ix_in i_7) dX1_noteTellingSets_47 ?_
              refine lv_ldc2 (v := (-1 : Int64)) hx hb hown (hts (.constantLong RX1 93 (-1)) (by decide +kernel)) dX1_noteTellingSets_48 ?_
              refine W.lcmp hx hb dX1_noteTellingSets_51 ?_
              obtain ⟨u_8, e_8, h⟩ := bd_some h
              have J_8 : ∀ {H : Heap} {locs : List Loc} {ls : Array Slot}, va_P G vwCl (wB ca ev b0 b1 b2 n0 n1 n2 n3 n4 n5 n6 n7 c0 c1 c2 c3 c4 c5 c6 doers_37 u_8 order stepsAt doubts weights rows metEver bowedTo isStale bowCount doubtCount seenBows likeliest mostSayingsSo bsize bcells ssize scells dsize dcells people rule believed) H → va_D A (wB ca ev b0 b1 b2 n0 n1 n2 n3 n4 n5 n6 n7 c0 c1 c2 c3 c4 c5 c6 doers_37 u_8 order stepsAt doubts weights rows metEver bowedTo isStale bowCount doubtCount seenBows likeliest mostSayingsSo bsize bcells ssize scells dsize dcells people rule believed) → va_S A s.heap H locs → lv_has ls 4 [(0, .ref b0), (1, .int x1_30), (2, .int x2_37), (3, .int x3_37)] → W p l e rm_X1_noteTellingSets s m args below meth c H locs 0 0 Q (F0 m 93 ls []) := by
                intro H locs ls hP hD hS hl 
                refine lv_iinc (v := (x3_37 + (1 : Int32))) (lv' := [(3, .int (x3_37 + (1 : Int32))), (0, .ref b0), (1, .int x1_30), (2, .int x2_37)]) hx hb dX1_noteTellingSets_93 hl (k := 3) rfl rfl (by decide) rfl (fun ls hl => ?_)
                refine lv_goto (tgt := 37) hx hb dX1_noteTellingSets_96 (by decide) ?_
                exact ih h hP hD hS (lv_sub hl [1, 2, 3, 0] rfl) JK_37
              have h := e_8
              clear e_8
              refine lv_if_eq (tgt := 93) hx hb dX1_noteTellingSets_52 (by decide) (fun c_8 => ?_) (fun c_8 => ?_)
              · have h := ifp c_8 h
                obtain rfl := Option.some.inj h
                exact J_8 hP hD hS (lv_sub hl [0, 1, 2, 3] rfl)
              · have h := ifn c_8 h
                refine lv_aload_n hx hb dX1_noteTellingSets_55 rfl (lv_at hl 0 rfl) ?_
                refine va_get (D := G) (ci := 1) (v := .ref b1) (C := RX1) (T := TX1) (N := 4) hx hb hts hin_X1 hown hK hP 0 rfl rfl 2 (by decide) fk_9 (fun _ h9 => h9) rfl dX1_noteTellingSets_56 ?_
                refine lv_iload_n hx hb dX1_noteTellingSets_59 rfl (lv_at hl 3 rfl) ?_
                obtain ⟨i_9, h⟩ := gd_some h
                refine va_lald hx hb hK hP 1 1 rfl rfl (ix_in i_9) dX1_noteTellingSets_60 ?_
                refine lv_ldc2 (v := (-1 : Int64)) hx hb hown (hts (.constantLong RX1 93 (-1)) (by decide +kernel)) dX1_noteTellingSets_61 ?_
                refine W.lcmp hx hb dX1_noteTellingSets_64 ?_
                refine lv_if_eq (tgt := 93) hx hb dX1_noteTellingSets_65 (by decide) (fun c_10 => ?_) (fun c_10 => ?_)
                · have h := ifp c_10 h
                  obtain rfl := Option.some.inj h
                  exact J_8 hP hD hS (lv_sub hl [0, 1, 2, 3] rfl)
                · have h := ifn c_10 h
                  refine lv_aload_n hx hb dX1_noteTellingSets_68 rfl (lv_at hl 0 rfl) ?_
                  refine va_get (D := G) (ci := 1) (v := .ref b1) (C := RX1) (T := TX1) (N := 4) hx hb hts hin_X1 hown hK hP 0 rfl rfl 2 (by decide) fk_9 (fun _ h9 => h9) rfl dX1_noteTellingSets_69 ?_
                  refine lv_iload_n hx hb dX1_noteTellingSets_72 rfl (lv_at hl 2 rfl) ?_
                  refine va_lald hx hb hK hP 1 1 rfl rfl (ix_in i_7) dX1_noteTellingSets_73 ?_
                  refine lv_aload_n hx hb dX1_noteTellingSets_74 rfl (lv_at hl 0 rfl) ?_
                  refine va_get (D := G) (ci := 1) (v := .ref b1) (C := RX1) (T := TX1) (N := 4) hx hb hts hin_X1 hown hK hP 0 rfl rfl 2 (by decide) fk_9 (fun _ h9 => h9) rfl dX1_noteTellingSets_75 ?_
                  refine lv_iload_n hx hb dX1_noteTellingSets_78 rfl (lv_at hl 3 rfl) ?_
                  refine va_lald hx hb hK hP 1 1 rfl rfl (ix_in i_9) dX1_noteTellingSets_79 ?_
                  refine W.lcmp hx hb dX1_noteTellingSets_80 ?_
                  refine lv_if_eq (tgt := 93) hx hb dX1_noteTellingSets_81 (by decide) (fun c_11 => ?_) (fun c_11 => ?_)
                  · have h := ifp c_11 h
                    obtain rfl := Option.some.inj h
                    exact J_8 hP hD hS (lv_sub hl [0, 1, 2, 3] rfl)
                  · have h := ifn c_11 h
                    refine lv_aload_n hx hb dX1_noteTellingSets_84 rfl (lv_at hl 0 rfl) ?_
                    refine va_get (D := G) (ci := 1) (v := .ref b2) (C := RX1) (T := TX1) (N := 4) hx hb hts hin_X1 hown hK hP 0 rfl rfl 3 (by decide) fk_15 (fun _ h9 => h9) rfl dX1_noteTellingSets_85 ?_
                    refine lv_iload_n hx hb dX1_noteTellingSets_88 rfl (lv_at hl 2 rfl) ?_
                    refine lv_iload_n hx hb dX1_noteTellingSets_89 rfl (lv_at hl 3 rfl) ?_
                    refine lv_ixor hx hb dX1_noteTellingSets_90 ?_
                    refine lv_iconst (v := (1 : Int32)) hx hb dX1_noteTellingSets_91 (by decide) ?_
                    obtain ⟨i_12, h⟩ := gd_some h
                    refine va_zast hx hb hK hP hD hS 2 2 rfl rfl (ix_in i_12) dX1_noteTellingSets_92 (fun H locs hP hD hS => ?_)
                    have hP : va_P G vwCl (wB ca ev b0 b1 b2 n0 n1 n2 n3 n4 n5 n6 n7 c0 c1 c2 c3 c4 c5 c6 doers_37 (upd isTelling_37 (x2_37 ^^^ x3_37).toNatClampNeg (1 : Int32)) order stepsAt doubts weights rows metEver bowedTo isStale bowCount doubtCount seenBows likeliest mostSayingsSo bsize bcells ssize scells dsize dcells people rule believed) H := hP
                    have hD : va_D A (wB ca ev b0 b1 b2 n0 n1 n2 n3 n4 n5 n6 n7 c0 c1 c2 c3 c4 c5 c6 doers_37 (upd isTelling_37 (x2_37 ^^^ x3_37).toNatClampNeg (1 : Int32)) order stepsAt doubts weights rows metEver bowedTo isStale bowCount doubtCount seenBows likeliest mostSayingsSo bsize bcells ssize scells dsize dcells people rule believed) := hD
                    obtain rfl := Option.some.inj h
                    exact J_8 hP hD hS (lv_sub hl [0, 1, 2, 3] rfl)
        obtain ⟨u_13, e_13, h⟩ := bd_some h
        refine L_37 _ e_13 hP hD hS (lv_sub hl [1, 2, 3, 0] rfl) ?_
        intro H locs ls hP hD hS hl
        refine lv_iinc (v := (x2_30 + (1 : Int32))) (lv' := [(2, .int (x2_30 + (1 : Int32))), (0, .ref b0), (1, .int x1_30)]) hx hb dX1_noteTellingSets_99 hl (k := 2) rfl rfl (by decide) rfl (fun ls hl => ?_)
        refine lv_goto (tgt := 30) hx hb dX1_noteTellingSets_102 (by decide) ?_
        exact ih h hP hD hS (lv_sub hl [1, 2, 0] rfl) JK_30
  obtain ⟨u_14, e_14, h⟩ := bd_some h
  refine L_30 _ e_14 hP hD hS (lv_sub hl [1, 2, 0] rfl) ?_
  intro H locs ls hP hD hS hl
  obtain rfl := Option.some.inj h
  exact hRet hP hD hS dX1_noteTellingSets_105
abbrev rm_X1_settles : Room := { frames := 1, cells := 0, slots := 0, locals := 20 }
theorem hd_X1_settles : yX1_settles.cls = RX1 ∧ yX1_settles.cls ≠ "java/lang/invoke/MethodHandle" ∧ yX1_settles.cls ≠ "java/lang/invoke/VarHandle" ∧ (parseMethodDescriptor yX1_settles.desc).map (fun d => d.parameters.length) = some 1 := by decide +kernel
set_option maxHeartbeats 4000000 in
set_option maxRecDepth 100000 in
theorem c_X1_settles {l : Launch} {G : va_G} {ca : Nat → ClassId} {ev : Nat → Nat} {b0 b1 b2 n0 n1 n2 n3 n4 n5 n6 n7 c0 c1 c2 c3 c4 c5 c6 : Nat} {doers : (Nat → Int64)} {isTelling : (Nat → Int32)} {order : (Nat → Int32)} {stepsAt : (Nat → Int32)} {doubts : (Nat → Int32)} {weights : (Nat → Int32)} {rows : (Nat → Int32)} {metEver : (Nat → Int32)} {bowedTo : (Nat → Int32)} {isStale : Int32} {bowCount : Int32} {doubtCount : Int32} {seenBows : Int32} {likeliest : Int32} {mostSayingsSo : Int32} {bsize : Int32} {bcells : (Nat → Int32)} {ssize : Int32} {scells : (Nat → Int32)} {dsize : Int32} {dcells : (Nat → Int32)} {people : Int32} {rule : Int32} {believed : Int32} {a1 : Int32} {N : Nat} {res : Int32} (h : f_X1_settles N isTelling doubtCount a1 = some res) : CtI l yX1_settles wsX1_settles rm_X1_settles G ca ev [.ref b0, .int a1] (wB ca ev b0 b1 b2 n0 n1 n2 n3 n4 n5 n6 n7 c0 c1 c2 c3 c4 c5 c6 doers isTelling order stepsAt doubts weights rows metEver bowedTo isStale bowCount doubtCount seenBows likeliest mostSayingsSo bsize bcells ssize scells dsize dcells people rule believed) (wB ca ev b0 b1 b2 n0 n1 n2 n3 n4 n5 n6 n7 c0 c1 c2 c3 c4 c5 c6 doers isTelling order stepsAt doubts weights rows metEver bowedTo isStale bowCount doubtCount seenBows likeliest mostSayingsSo bsize bcells ssize scells dsize dcells people rule believed) res := by
  unfold f_X1_settles at h
  refine en_z (by decide) rfl (Nat.le_of_ble_eq_true rfl) ?_
  intro p e s m args below meth c A Q H locs ls hx hb hml hown hts hA hP hK hD hE hS hl hRet
  have hown : s.vm.findClass RX1 = some m.cls := hown
  have hl : lv_has ls 4 [(0, .ref b0), (1, .int a1)] := hl
  have hin_X1 : ∀ w ∈ u_ws RX1 TX1 4, w ∈ wsX1_settles := fun w h9 => List.mem_cons_of_mem _ (List.mem_append_left _ (List.mem_append_right _ h9))
  have fk_15 := hts (.fieldLink RX1 15 "MaskBows$DeedBook" "isTelling" "[Z") (by decide +kernel)
  have fk_23 := hts (.fieldLink RX1 23 "MaskBows$DeedBook" "table" "LMaskBows$Nights;") (by decide +kernel)
  refine lv_aload_n hx hb dX1_settles_0 rfl (lv_at hl 0 rfl) ?_
  refine va_get (D := G) (ci := 1) (v := .ref n0) (C := RX1) (T := TX1) (N := 4) hx hb hts hin_X1 hown hK hP 0 rfl rfl 1 (by decide) fk_23 (fun _ h9 => h9) rfl dX1_settles_1 ?_
  obtain ⟨u_1, e_1, h⟩ := bd_some h
  refine cl_Vi (As := []) (rest := []) (Wn := (wB ca ev b0 b1 b2 n0 n1 n2 n3 n4 n5 n6 n7 c0 c1 c2 c3 c4 c5 c6 doers isTelling order stepsAt doubts weights rows metEver bowedTo isStale bowCount doubtCount seenBows likeliest mostSayingsSo bsize bcells ssize scells dsize dcells people rule believed)) ⟨hx, hb, hml, hown, hts⟩ (c_X2_size (ca := ca) (ev := ev) (n0 := n0) (n1 := n1) (n2 := n2) (n3 := n3) (n4 := n4) (n5 := n5) (n6 := n6) (n7 := n7) (c0 := c0) (c1 := c1) (c2 := c2) (c3 := c3) (c4 := c4) (c5 := c5) (c6 := c6) (order := order) (stepsAt := stepsAt) (doubts := doubts) (weights := weights) (rows := rows) (metEver := metEver) (bowedTo := bowedTo) (isStale := isStale) (bowCount := bowCount) (doubtCount := doubtCount) (seenBows := seenBows) (likeliest := likeliest) (mostSayingsSo := mostSayingsSo) (bsize := bsize) (bcells := bcells) (ssize := ssize) (scells := scells) (dsize := dsize) (dcells := dcells) (people := people) (rule := rule) (believed := believed) e_1) (cwV 0 hts gX1_settles_X2_size rfl rfl rfl hd_X2_size ⟨Nat.le_of_ble_eq_true rfl, Nat.le_of_ble_eq_true rfl⟩) hK hP hD hS hA hE wp_9 (q0 := 0) (ci := 2) rfl rfl rfl rfl hl.1 rfl (Nat.le_of_ble_eq_true rfl) dX1_settles_4 ⟨Nat.zero_le _, Nat.zero_le _⟩ (fun H locs hP hD hS => ?_)
  refine lv_istore_n (lv' := [(2, .int u_1), (0, .ref b0), (1, .int a1)]) hx hb dX1_settles_7 rfl hl (by decide) rfl (fun ls hl => ?_)
  refine lv_iconst (v := (1 : Int32)) hx hb dX1_settles_8 (by decide) ?_
  refine lv_istore_n (lv' := [(3, .int (1 : Int32)), (2, .int u_1), (0, .ref b0), (1, .int a1)]) hx hb dX1_settles_9 rfl hl (by decide) rfl (fun ls hl => ?_)
  have L_10 : ∀ {x1_10 : Int32} {x2_10 : Int32} {isTelling_10 : (Nat → Int32)} {K_10 : Unit → Option (Int32)} (n_10 : Nat) {x3_10 : Int32} {H : Heap} {locs : List Loc} {ls : Array Slot}, f_X1_settles_10 x1_10 x2_10 isTelling_10 K_10  n_10 x3_10 = some res → (∀ {H : Heap} {locs : List Loc} {pc : Nat} {ls : Array Slot}, va_P G vwCl (wB ca ev b0 b1 b2 n0 n1 n2 n3 n4 n5 n6 n7 c0 c1 c2 c3 c4 c5 c6 doers isTelling_10 order stepsAt doubts weights rows metEver bowedTo isStale bowCount doubtCount seenBows likeliest mostSayingsSo bsize bcells ssize scells dsize dcells people rule believed) H → va_D A (wB ca ev b0 b1 b2 n0 n1 n2 n3 n4 n5 n6 n7 c0 c1 c2 c3 c4 c5 c6 doers isTelling_10 order stepsAt doubts weights rows metEver bowedTo isStale bowCount doubtCount seenBows likeliest mostSayingsSo bsize bcells ssize scells dsize dcells people rule believed) → va_S A s.heap H locs → (res = 0 ∨ res = 1) → decode cX1_settles pc = .ok (.ireturn, 1) → W p l e rm_X1_settles s m args below meth c H locs 0 0 Q (F0 m pc ls [.int res])) → va_P G vwCl (wB ca ev b0 b1 b2 n0 n1 n2 n3 n4 n5 n6 n7 c0 c1 c2 c3 c4 c5 c6 doers isTelling_10 order stepsAt doubts weights rows metEver bowedTo isStale bowCount doubtCount seenBows likeliest mostSayingsSo bsize bcells ssize scells dsize dcells people rule believed) H → va_D A (wB ca ev b0 b1 b2 n0 n1 n2 n3 n4 n5 n6 n7 c0 c1 c2 c3 c4 c5 c6 doers isTelling_10 order stepsAt doubts weights rows metEver bowedTo isStale bowCount doubtCount seenBows likeliest mostSayingsSo bsize bcells ssize scells dsize dcells people rule believed) → va_S A s.heap H locs → lv_has ls 4 [(0, .ref b0), (1, .int x1_10), (2, .int x2_10), (3, .int x3_10)] → (∀ {uL_10 : Unit} {H : Heap} {locs : List Loc} {ls : Array Slot}, K_10 uL_10 = some res → va_P G vwCl (wB ca ev b0 b1 b2 n0 n1 n2 n3 n4 n5 n6 n7 c0 c1 c2 c3 c4 c5 c6 doers isTelling_10 order stepsAt doubts weights rows metEver bowedTo isStale bowCount doubtCount seenBows likeliest mostSayingsSo bsize bcells ssize scells dsize dcells people rule believed) H → va_D A (wB ca ev b0 b1 b2 n0 n1 n2 n3 n4 n5 n6 n7 c0 c1 c2 c3 c4 c5 c6 doers isTelling_10 order stepsAt doubts weights rows metEver bowedTo isStale bowCount doubtCount seenBows likeliest mostSayingsSo bsize bcells ssize scells dsize dcells people rule believed) → va_S A s.heap H locs → lv_has ls 4 [] → W p l e rm_X1_settles s m args below meth c H locs 0 0 Q (F0 m 38 ls [])) → W p l e rm_X1_settles s m args below meth c H locs 0 0 Q (F0 m 10 ls []) := by
    intro x1_10 x2_10 isTelling_10 K_10 n_10
    induction n_10 with
    | zero => intro x3_10 H locs ls h; exact absurd h (by rw [f_X1_settles_10]; exact fun z => nomatch z)
    | succ n_10 ih =>
      intro x3_10 H locs ls h hRet hP hD hS hl JK_10
      rw [f_X1_settles_10] at h
      refine lv_iload_n hx hb dX1_settles_10 rfl (lv_at hl 3 rfl) ?_
      refine lv_iload_n hx hb dX1_settles_11 rfl (lv_at hl 2 rfl) ?_
      refine lv_icmp_ge (tgt := 38) hx hb dX1_settles_12 (by decide) (fun c_2 => ?_) (fun c_2 => ?_)
      · have h := ifp c_2 h
        exact JK_10 h hP hD hS (lv_sub hl [] rfl)
      · have h := ifn c_2 h
        refine lv_aload_n hx hb dX1_settles_15 rfl (lv_at hl 0 rfl) ?_
        refine va_get (D := G) (ci := 1) (v := .ref b2) (C := RX1) (T := TX1) (N := 4) hx hb hts hin_X1 hown hK hP 0 rfl rfl 3 (by decide) fk_15 (fun _ h9 => h9) rfl dX1_settles_16 ?_
        refine lv_iload_n hx hb dX1_settles_19 rfl (lv_at hl 3 rfl) ?_
        obtain ⟨i_3, h⟩ := gd_some h
        refine va_zald hx hb hK hP 2 2 rfl rfl (ix_in i_3) dX1_settles_20 ?_
        refine lv_if_eq (tgt := 32) hx hb dX1_settles_21 (by decide) (fun c_4 => ?_) (fun c_4 => ?_)
        · have h := ifp c_4 h
          refine lv_iinc (v := (x3_10 + (1 : Int32))) (lv' := [(3, .int (x3_10 + (1 : Int32))), (0, .ref b0), (1, .int x1_10), (2, .int x2_10)]) hx hb dX1_settles_32 hl (k := 3) rfl rfl (by decide) rfl (fun ls hl => ?_)
          refine lv_goto (tgt := 10) hx hb dX1_settles_35 (by decide) ?_
          exact ih h hRet hP hD hS (lv_sub hl [1, 2, 3, 0] rfl) JK_10
        · have h := ifn c_4 h
          refine lv_iload_n hx hb dX1_settles_24 rfl (lv_at hl 3 rfl) ?_
          refine lv_iload_n hx hb dX1_settles_25 rfl (lv_at hl 1 rfl) ?_
          refine lv_iand hx hb dX1_settles_26 ?_
          refine lv_if_ne (tgt := 32) hx hb dX1_settles_27 (by decide) (fun c_5 => ?_) (fun c_5 => ?_)
          · have h := ifn c_5 h
            refine lv_iinc (v := (x3_10 + (1 : Int32))) (lv' := [(3, .int (x3_10 + (1 : Int32))), (0, .ref b0), (1, .int x1_10), (2, .int x2_10)]) hx hb dX1_settles_32 hl (k := 3) rfl rfl (by decide) rfl (fun ls hl => ?_)
            refine lv_goto (tgt := 10) hx hb dX1_settles_35 (by decide) ?_
            exact ih h hRet hP hD hS (lv_sub hl [1, 2, 3, 0] rfl) JK_10
          · have h := ifp c_5 h
            refine lv_iconst (v := (0 : Int32)) hx hb dX1_settles_30 (by decide) ?_
            obtain rfl := Option.some.inj h
            exact hRet hP hD hS zb_0 dX1_settles_31
  refine L_10 _ h hRet hP hD hS (lv_sub hl [2, 3, 1, 0] rfl) ?_
  clear h
  intro u_6 H locs ls h hP hD hS hl
  refine lv_iconst (v := (1 : Int32)) hx hb dX1_settles_38 (by decide) ?_
  obtain rfl := Option.some.inj h
  exact hRet hP hD hS zb_1 dX1_settles_39
abbrev rm_X1_fewestThatSettle : Room := { frames := 4, cells := 0, slots := 0, locals := 90 }
theorem hd_X1_fewestThatSettle : yX1_fewestThatSettle.cls = RX1 ∧ yX1_fewestThatSettle.cls ≠ "java/lang/invoke/MethodHandle" ∧ yX1_fewestThatSettle.cls ≠ "java/lang/invoke/VarHandle" ∧ (parseMethodDescriptor yX1_fewestThatSettle.desc).map (fun d => d.parameters.length) = some 0 := by decide +kernel
set_option maxHeartbeats 4000000 in
set_option maxRecDepth 100000 in
theorem c_X1_fewestThatSettle {l : Launch} {G : va_G} {ca : Nat → ClassId} {ev : Nat → Nat} {b0 b1 b2 n0 n1 n2 n3 n4 n5 n6 n7 c0 c1 c2 c3 c4 c5 c6 : Nat} {doers : (Nat → Int64)} {isTelling : (Nat → Int32)} {order : (Nat → Int32)} {stepsAt : (Nat → Int32)} {doubts : (Nat → Int32)} {weights : (Nat → Int32)} {rows : (Nat → Int32)} {metEver : (Nat → Int32)} {bowedTo : (Nat → Int32)} {isStale : Int32} {bowCount : Int32} {doubtCount : Int32} {seenBows : Int32} {likeliest : Int32} {mostSayingsSo : Int32} {bsize : Int32} {bcells : (Nat → Int32)} {ssize : Int32} {scells : (Nat → Int32)} {dsize : Int32} {dcells : (Nat → Int32)} {people : Int32} {rule : Int32} {believed : Int32}  {N : Nat} {res : Int32 × (Nat → Int64) × (Nat → Int32)} (h : f_X1_fewestThatSettle N doers isTelling stepsAt weights rows doubtCount dsize dcells = some res) : CtI l yX1_fewestThatSettle wsX1_fewestThatSettle rm_X1_fewestThatSettle G ca ev [.ref b0] (wB ca ev b0 b1 b2 n0 n1 n2 n3 n4 n5 n6 n7 c0 c1 c2 c3 c4 c5 c6 doers isTelling order stepsAt doubts weights rows metEver bowedTo isStale bowCount doubtCount seenBows likeliest mostSayingsSo bsize bcells ssize scells dsize dcells people rule believed) (wB ca ev b0 b1 b2 n0 n1 n2 n3 n4 n5 n6 n7 c0 c1 c2 c3 c4 c5 c6 res.2.1 res.2.2 order stepsAt doubts weights rows metEver bowedTo isStale bowCount doubtCount seenBows likeliest mostSayingsSo bsize bcells ssize scells dsize dcells people rule believed) res.1 := by
  unfold f_X1_fewestThatSettle at h
  refine en_i (by decide) rfl (Nat.le_of_ble_eq_true rfl) ?_
  intro p e s m args below meth c A Q H locs ls hx hb hml hown hts hA hP hK hD hE hS hl hRet
  have hown : s.vm.findClass RX1 = some m.cls := hown
  have hl : lv_has ls 3 [(0, .ref b0)] := hl
  have hin_X1 : ∀ w ∈ u_ws RX1 TX1 4, w ∈ wsX1_fewestThatSettle := fun w h9 => List.mem_cons_of_mem _ (List.mem_append_left _ (List.mem_append_left _ (List.mem_append_left _ (List.mem_append_right _ h9))))
  have fk_23 := hts (.fieldLink RX1 23 "MaskBows$DeedBook" "table" "LMaskBows$Nights;") (by decide +kernel)
  refine lv_aload_n hx hb dX1_fewestThatSettle_0 rfl (lv_at hl 0 rfl) ?_
  obtain ⟨u_1, e_1, h⟩ := bd_some h
  refine cm_Vv (As := []) (rest := []) ⟨hx, hb, hml, hown, hts⟩ (c_X1_noteDoers (ca := ca) (ev := ev) (b0 := b0) (b1 := b1) (b2 := b2) (n0 := n0) (n1 := n1) (n2 := n2) (n3 := n3) (n4 := n4) (n5 := n5) (n6 := n6) (n7 := n7) (c0 := c0) (c1 := c1) (c2 := c2) (c3 := c3) (c4 := c4) (c5 := c5) (c6 := c6) (doers := doers) (isTelling := isTelling) (order := order) (stepsAt := stepsAt) (doubts := doubts) (weights := weights) (rows := rows) (metEver := metEver) (bowedTo := bowedTo) (isStale := isStale) (bowCount := bowCount) (doubtCount := doubtCount) (seenBows := seenBows) (likeliest := likeliest) (mostSayingsSo := mostSayingsSo) (bsize := bsize) (bcells := bcells) (ssize := ssize) (scells := scells) (dsize := dsize) (dcells := dcells) (people := people) (rule := rule) (believed := believed) e_1) (cwV 0 hts gX1_fewestThatSettle_X1_noteDoers rfl rfl rfl hd_X1_noteDoers ⟨Nat.le_of_ble_eq_true rfl, Nat.le_of_ble_eq_true rfl⟩) hK hP hD hS hA hE (q0 := 0) (ci := 1) rfl rfl rfl rfl hl.1 rfl (Nat.le_of_ble_eq_true rfl) dX1_fewestThatSettle_1 ⟨Nat.zero_le _, Nat.zero_le _⟩ (fun H locs hP hD hS => ?_)
  refine lv_aload_n hx hb dX1_fewestThatSettle_4 rfl (lv_at hl 0 rfl) ?_
  obtain ⟨u_2, e_2, h⟩ := bd_some h
  refine cm_Vv (As := []) (rest := []) ⟨hx, hb, hml, hown, hts⟩ (c_X1_noteTellingSets (ca := ca) (ev := ev) (b0 := b0) (b1 := b1) (b2 := b2) (n0 := n0) (n1 := n1) (n2 := n2) (n3 := n3) (n4 := n4) (n5 := n5) (n6 := n6) (n7 := n7) (c0 := c0) (c1 := c1) (c2 := c2) (c3 := c3) (c4 := c4) (c5 := c5) (c6 := c6) (doers := u_1) (isTelling := isTelling) (order := order) (stepsAt := stepsAt) (doubts := doubts) (weights := weights) (rows := rows) (metEver := metEver) (bowedTo := bowedTo) (isStale := isStale) (bowCount := bowCount) (doubtCount := doubtCount) (seenBows := seenBows) (likeliest := likeliest) (mostSayingsSo := mostSayingsSo) (bsize := bsize) (bcells := bcells) (ssize := ssize) (scells := scells) (dsize := dsize) (dcells := dcells) (people := people) (rule := rule) (believed := believed) e_2) (cwV 0 hts gX1_fewestThatSettle_X1_noteTellingSets rfl rfl rfl hd_X1_noteTellingSets ⟨Nat.le_of_ble_eq_true rfl, Nat.le_of_ble_eq_true rfl⟩) hK hP hD hS hA hE (q0 := 0) (ci := 1) rfl rfl rfl rfl hl.1 rfl (Nat.le_of_ble_eq_true rfl) dX1_fewestThatSettle_5 ⟨Nat.zero_le _, Nat.zero_le _⟩ (fun H locs hP hD hS => ?_)
  refine lv_aload_n hx hb dX1_fewestThatSettle_8 rfl (lv_at hl 0 rfl) ?_
  refine va_get (D := G) (ci := 1) (v := .ref n0) (C := RX1) (T := TX1) (N := 4) hx hb hts hin_X1 hown hK hP 0 rfl rfl 1 (by decide) fk_23 (fun _ h9 => h9) rfl dX1_fewestThatSettle_9 ?_
  obtain ⟨u_3, e_3, h⟩ := bd_some h
  refine cl_Vi (As := []) (rest := []) (Wn := (wB ca ev b0 b1 b2 n0 n1 n2 n3 n4 n5 n6 n7 c0 c1 c2 c3 c4 c5 c6 u_1 u_2 order stepsAt doubts weights rows metEver bowedTo isStale bowCount doubtCount seenBows likeliest mostSayingsSo bsize bcells ssize scells dsize dcells people rule believed)) ⟨hx, hb, hml, hown, hts⟩ (c_X2_size (ca := ca) (ev := ev) (n0 := n0) (n1 := n1) (n2 := n2) (n3 := n3) (n4 := n4) (n5 := n5) (n6 := n6) (n7 := n7) (c0 := c0) (c1 := c1) (c2 := c2) (c3 := c3) (c4 := c4) (c5 := c5) (c6 := c6) (order := order) (stepsAt := stepsAt) (doubts := doubts) (weights := weights) (rows := rows) (metEver := metEver) (bowedTo := bowedTo) (isStale := isStale) (bowCount := bowCount) (doubtCount := doubtCount) (seenBows := seenBows) (likeliest := likeliest) (mostSayingsSo := mostSayingsSo) (bsize := bsize) (bcells := bcells) (ssize := ssize) (scells := scells) (dsize := dsize) (dcells := dcells) (people := people) (rule := rule) (believed := believed) e_3) (cwV 0 hts gX1_fewestThatSettle_X2_size rfl rfl rfl hd_X2_size ⟨Nat.le_of_ble_eq_true rfl, Nat.le_of_ble_eq_true rfl⟩) hK hP hD hS hA hE wp_9 (q0 := 0) (ci := 2) rfl rfl rfl rfl hl.1 rfl (Nat.le_of_ble_eq_true rfl) dX1_fewestThatSettle_12 ⟨Nat.zero_le _, Nat.zero_le _⟩ (fun H locs hP hD hS => ?_)
  refine lv_iconst (v := (1 : Int32)) hx hb dX1_fewestThatSettle_15 (by decide) ?_
  refine lv_isub hx hb dX1_fewestThatSettle_16 ?_
  refine lv_istore_n (lv' := [(1, .int (u_3 - (1 : Int32))), (0, .ref b0)]) hx hb dX1_fewestThatSettle_17 rfl hl (by decide) rfl (fun ls hl => ?_)
  refine lv_iconst (v := (0 : Int32)) hx hb dX1_fewestThatSettle_18 (by decide) ?_
  refine lv_istore_n (lv' := [(2, .int (0 : Int32)), (1, .int (u_3 - (1 : Int32))), (0, .ref b0)]) hx hb dX1_fewestThatSettle_19 rfl hl (by decide) rfl (fun ls hl => ?_)
  have L_20 : ∀  {isTelling_20 : (Nat → Int32)} {doubtCount_20 : Int32} (n_20 : Nat) {x1_20 : Int32} {x2_20 : Int32} {uL_20 : Int32} {H : Heap} {locs : List Loc} {ls : Array Slot}, f_X1_fewestThatSettle_20 N isTelling_20 doubtCount_20  n_20 x1_20 x2_20 = some uL_20 → va_P G vwCl (wB ca ev b0 b1 b2 n0 n1 n2 n3 n4 n5 n6 n7 c0 c1 c2 c3 c4 c5 c6 u_1 isTelling_20 order stepsAt doubts weights rows metEver bowedTo isStale bowCount doubtCount_20 seenBows likeliest mostSayingsSo bsize bcells ssize scells dsize dcells people rule believed) H → va_D A (wB ca ev b0 b1 b2 n0 n1 n2 n3 n4 n5 n6 n7 c0 c1 c2 c3 c4 c5 c6 u_1 isTelling_20 order stepsAt doubts weights rows metEver bowedTo isStale bowCount doubtCount_20 seenBows likeliest mostSayingsSo bsize bcells ssize scells dsize dcells people rule believed) → va_S A s.heap H locs → lv_has ls 3 [(0, .ref b0), (1, .int x1_20), (2, .int x2_20)] → (∀ {H : Heap} {locs : List Loc} {ls : Array Slot}, va_P G vwCl (wB ca ev b0 b1 b2 n0 n1 n2 n3 n4 n5 n6 n7 c0 c1 c2 c3 c4 c5 c6 u_1 isTelling_20 order stepsAt doubts weights rows metEver bowedTo isStale bowCount doubtCount_20 seenBows likeliest mostSayingsSo bsize bcells ssize scells dsize dcells people rule believed) H → va_D A (wB ca ev b0 b1 b2 n0 n1 n2 n3 n4 n5 n6 n7 c0 c1 c2 c3 c4 c5 c6 u_1 isTelling_20 order stepsAt doubts weights rows metEver bowedTo isStale bowCount doubtCount_20 seenBows likeliest mostSayingsSo bsize bcells ssize scells dsize dcells people rule believed) → va_S A s.heap H locs → lv_has ls 3 [(1, .int uL_20)] → W p l e rm_X1_fewestThatSettle s m args below meth c H locs 0 0 Q (F0 m 58 ls [])) → W p l e rm_X1_fewestThatSettle s m args below meth c H locs 0 0 Q (F0 m 20 ls []) := by
    intro isTelling_20 doubtCount_20 n_20
    induction n_20 with
    | zero => intro x1_20 x2_20 uL_20 H locs ls h; exact absurd h (by rw [f_X1_fewestThatSettle_20]; exact fun z => nomatch z)
    | succ n_20 ih =>
      intro x1_20 x2_20 uL_20 H locs ls h hP hD hS hl JK_20
      rw [f_X1_fewestThatSettle_20] at h
      refine lv_iload_n hx hb dX1_fewestThatSettle_20 rfl (lv_at hl 2 rfl) ?_
      refine lv_aload_n hx hb dX1_fewestThatSettle_21 rfl (lv_at hl 0 rfl) ?_
      refine va_get (D := G) (ci := 1) (v := .ref n0) (C := RX1) (T := TX1) (N := 4) hx hb hts hin_X1 hown hK hP 0 rfl rfl 1 (by decide) fk_23 (fun _ h9 => h9) rfl dX1_fewestThatSettle_22 ?_
      obtain ⟨u_4, e_4, h⟩ := bd_some h
      refine cl_Vi (As := []) (rest := [.int x2_20]) (Wn := (wB ca ev b0 b1 b2 n0 n1 n2 n3 n4 n5 n6 n7 c0 c1 c2 c3 c4 c5 c6 u_1 isTelling_20 order stepsAt doubts weights rows metEver bowedTo isStale bowCount doubtCount_20 seenBows likeliest mostSayingsSo bsize bcells ssize scells dsize dcells people rule believed)) ⟨hx, hb, hml, hown, hts⟩ (c_X2_size (ca := ca) (ev := ev) (n0 := n0) (n1 := n1) (n2 := n2) (n3 := n3) (n4 := n4) (n5 := n5) (n6 := n6) (n7 := n7) (c0 := c0) (c1 := c1) (c2 := c2) (c3 := c3) (c4 := c4) (c5 := c5) (c6 := c6) (order := order) (stepsAt := stepsAt) (doubts := doubts) (weights := weights) (rows := rows) (metEver := metEver) (bowedTo := bowedTo) (isStale := isStale) (bowCount := bowCount) (doubtCount := doubtCount_20) (seenBows := seenBows) (likeliest := likeliest) (mostSayingsSo := mostSayingsSo) (bsize := bsize) (bcells := bcells) (ssize := ssize) (scells := scells) (dsize := dsize) (dcells := dcells) (people := people) (rule := rule) (believed := believed) e_4) (cwV 0 hts gX1_fewestThatSettle_X2_size rfl rfl rfl hd_X2_size ⟨Nat.le_of_ble_eq_true rfl, Nat.le_of_ble_eq_true rfl⟩) hK hP hD hS hA hE wp_9 (q0 := 0) (ci := 2) rfl rfl rfl rfl hl.1 rfl (Nat.le_of_ble_eq_true rfl) dX1_fewestThatSettle_25 ⟨Nat.zero_le _, Nat.zero_le _⟩ (fun H locs hP hD hS => ?_)
      refine lv_icmp_ge (tgt := 58) hx hb dX1_fewestThatSettle_28 (by decide) (fun c_5 => ?_) (fun c_5 => ?_)
      · have h := ifp c_5 h
        obtain rfl := Option.some.inj h
        exact JK_20 hP hD hS (lv_sub hl [1] rfl)
      · have h := ifn c_5 h
        refine lv_iload_n hx hb dX1_fewestThatSettle_31 rfl (lv_at hl 2 rfl) ?_
        obtain ⟨u_6, e_6, h⟩ := bd_some h
        refine cn_Si (As := [.int x2_20]) (rest := []) ⟨hx, hb, hml, hown, hts⟩ (c_J6_bitCount_0f7a4 e_6) (va_cwS 1 hts gX1_fewestThatSettle_J6_bitCount_0f7a4 rfl rfl rfl hd_J6_bitCount_0f7a4 ⟨Nat.le_of_ble_eq_true rfl, Nat.le_of_ble_eq_true rfl⟩) hK hP hD hS hA hE rfl hl.1 rfl (Nat.le_of_ble_eq_true rfl) dX1_fewestThatSettle_32 ⟨Nat.zero_le _, Nat.zero_le _⟩ (fun H locs hP hD hS => ?_)
        refine lv_iload_n hx hb dX1_fewestThatSettle_35 rfl (lv_at hl 1 rfl) ?_
        obtain ⟨u_7, e_7, h⟩ := bd_some h
        refine cn_Si (As := [.int x1_20]) (rest := [.int u_6]) ⟨hx, hb, hml, hown, hts⟩ (c_J6_bitCount_0f7a4 e_7) (va_cwS 1 hts gX1_fewestThatSettle_J6_bitCount_0f7a4 rfl rfl rfl hd_J6_bitCount_0f7a4 ⟨Nat.le_of_ble_eq_true rfl, Nat.le_of_ble_eq_true rfl⟩) hK hP hD hS hA hE rfl hl.1 rfl (Nat.le_of_ble_eq_true rfl) dX1_fewestThatSettle_36 ⟨Nat.zero_le _, Nat.zero_le _⟩ (fun H locs hP hD hS => ?_)
        obtain ⟨u_8, e_8, h⟩ := bd_some h
        have J_8 : ∀ {H : Heap} {locs : List Loc} {ls : Array Slot}, va_P G vwCl (wB ca ev b0 b1 b2 n0 n1 n2 n3 n4 n5 n6 n7 c0 c1 c2 c3 c4 c5 c6 u_1 isTelling_20 order stepsAt doubts weights rows metEver bowedTo isStale bowCount doubtCount_20 seenBows likeliest mostSayingsSo bsize bcells ssize scells dsize dcells people rule believed) H → va_D A (wB ca ev b0 b1 b2 n0 n1 n2 n3 n4 n5 n6 n7 c0 c1 c2 c3 c4 c5 c6 u_1 isTelling_20 order stepsAt doubts weights rows metEver bowedTo isStale bowCount doubtCount_20 seenBows likeliest mostSayingsSo bsize bcells ssize scells dsize dcells people rule believed) → va_S A s.heap H locs → lv_has ls 3 [(0, .ref b0), (1, .int u_8), (2, .int x2_20)] → W p l e rm_X1_fewestThatSettle s m args below meth c H locs 0 0 Q (F0 m 52 ls []) := by
          intro H locs ls hP hD hS hl 
          refine lv_iinc (v := (x2_20 + (1 : Int32))) (lv' := [(2, .int (x2_20 + (1 : Int32))), (0, .ref b0), (1, .int u_8)]) hx hb dX1_fewestThatSettle_52 hl (k := 2) rfl rfl (by decide) rfl (fun ls hl => ?_)
          refine lv_goto (tgt := 20) hx hb dX1_fewestThatSettle_55 (by decide) ?_
          exact ih h hP hD hS (lv_sub hl [1, 2, 0] rfl) JK_20
        have h := e_8
        clear e_8
        refine lv_icmp_ge (tgt := 52) hx hb dX1_fewestThatSettle_39 (by decide) (fun c_8 => ?_) (fun c_8 => ?_)
        · have h := ifp c_8 h
          obtain rfl := Option.some.inj h
          exact J_8 hP hD hS (lv_sub hl [0, 1, 2] rfl)
        · have h := ifn c_8 h
          refine lv_aload_n hx hb dX1_fewestThatSettle_42 rfl (lv_at hl 0 rfl) ?_
          refine lv_iload_n hx hb dX1_fewestThatSettle_43 rfl (lv_at hl 2 rfl) ?_
          obtain ⟨u_9, e_9, h⟩ := bd_some h
          refine cm_Vi (As := [.int x2_20]) (rest := []) ⟨hx, hb, hml, hown, hts⟩ (c_X1_settles (ca := ca) (ev := ev) (b0 := b0) (b1 := b1) (b2 := b2) (n0 := n0) (n1 := n1) (n2 := n2) (n3 := n3) (n4 := n4) (n5 := n5) (n6 := n6) (n7 := n7) (c0 := c0) (c1 := c1) (c2 := c2) (c3 := c3) (c4 := c4) (c5 := c5) (c6 := c6) (doers := u_1) (isTelling := isTelling_20) (order := order) (stepsAt := stepsAt) (doubts := doubts) (weights := weights) (rows := rows) (metEver := metEver) (bowedTo := bowedTo) (isStale := isStale) (bowCount := bowCount) (doubtCount := doubtCount_20) (seenBows := seenBows) (likeliest := likeliest) (mostSayingsSo := mostSayingsSo) (bsize := bsize) (bcells := bcells) (ssize := ssize) (scells := scells) (dsize := dsize) (dcells := dcells) (people := people) (rule := rule) (believed := believed) e_9) (cwV 1 hts gX1_fewestThatSettle_X1_settles rfl rfl rfl hd_X1_settles ⟨Nat.le_of_ble_eq_true rfl, Nat.le_of_ble_eq_true rfl⟩) hK hP hD hS hA hE (q0 := 0) (ci := 1) rfl rfl rfl rfl hl.1 rfl (Nat.le_of_ble_eq_true rfl) dX1_fewestThatSettle_44 ⟨Nat.zero_le _, Nat.zero_le _⟩ (fun H locs hP hD hS => ?_)
          refine lv_if_eq (tgt := 52) hx hb dX1_fewestThatSettle_47 (by decide) (fun c_10 => ?_) (fun c_10 => ?_)
          · have h := ifp c_10 h
            obtain rfl := Option.some.inj h
            exact J_8 hP hD hS (lv_sub hl [0, 1, 2] rfl)
          · have h := ifn c_10 h
            refine lv_iload_n hx hb dX1_fewestThatSettle_50 rfl (lv_at hl 2 rfl) ?_
            refine lv_istore_n (lv' := [(1, .int x2_20), (0, .ref b0), (2, .int x2_20)]) hx hb dX1_fewestThatSettle_51 rfl hl (by decide) rfl (fun ls hl => ?_)
            obtain rfl := Option.some.inj h
            exact J_8 hP hD hS (lv_sub hl [1, 0, 2] rfl)
  obtain ⟨u_11, e_11, h⟩ := bd_some h
  refine L_20 _ e_11 hP hD hS (lv_sub hl [2, 1, 0] rfl) ?_
  intro H locs ls hP hD hS hl
  refine lv_iload_n hx hb dX1_fewestThatSettle_58 rfl (lv_at hl 0 rfl) ?_
  obtain rfl := Option.some.inj h
  exact hRet hP hD hS dX1_fewestThatSettle_59
abbrev rm_X2_forget : Room := { frames := 0, cells := 0, slots := 0, locals := 0 }
theorem hd_X2_forget : yX2_forget.cls = RX2 ∧ yX2_forget.cls ≠ "java/lang/invoke/MethodHandle" ∧ yX2_forget.cls ≠ "java/lang/invoke/VarHandle" ∧ (parseMethodDescriptor yX2_forget.desc).map (fun d => d.parameters.length) = some 0 := by decide +kernel
set_option maxHeartbeats 4000000 in
set_option maxRecDepth 100000 in
theorem c_X2_forget {l : Launch} {G : va_G} {ca : Nat → ClassId} {ev : Nat → Nat} {n0 n1 n2 n3 n4 n5 n6 n7 c0 c1 c2 c3 c4 c5 c6 : Nat} {order : (Nat → Int32)} {stepsAt : (Nat → Int32)} {doubts : (Nat → Int32)} {weights : (Nat → Int32)} {rows : (Nat → Int32)} {metEver : (Nat → Int32)} {bowedTo : (Nat → Int32)} {isStale : Int32} {bowCount : Int32} {doubtCount : Int32} {seenBows : Int32} {likeliest : Int32} {mostSayingsSo : Int32} {bsize : Int32} {bcells : (Nat → Int32)} {ssize : Int32} {scells : (Nat → Int32)} {dsize : Int32} {dcells : (Nat → Int32)} {people : Int32} {rule : Int32} {believed : Int32}  {res : Int32} (h : f_X2_forget isStale = some res) : CtV l yX2_forget wsX2_forget rm_X2_forget G ca ev [.ref n0] (wN ca ev n0 n1 n2 n3 n4 n5 n6 n7 c0 c1 c2 c3 c4 c5 c6 order stepsAt doubts weights rows metEver bowedTo isStale bowCount doubtCount seenBows likeliest mostSayingsSo bsize bcells ssize scells dsize dcells people rule believed) (wN ca ev n0 n1 n2 n3 n4 n5 n6 n7 c0 c1 c2 c3 c4 c5 c6 order stepsAt doubts weights rows metEver bowedTo res bowCount doubtCount seenBows likeliest mostSayingsSo bsize bcells ssize scells dsize dcells people rule believed) := by
  unfold f_X2_forget at h
  refine en_v (by decide) rfl (Nat.le_of_ble_eq_true rfl) ?_
  intro p e s m args below meth c A Q H locs ls hx hb hml hown hts hA hP hK hD hE hS hl hRet
  have hown : s.vm.findClass RX2 = some m.cls := hown
  have hl : lv_has ls 1 [(0, .ref n0)] := hl
  have hin_X2 : ∀ w ∈ u_ws RX2 TX2 14, w ∈ wsX2_forget := fun w h9 => List.mem_cons_of_mem _ (List.mem_append_right _ h9)
  have fk_33 := hts (.fieldLink RX2 33 "MaskBows$Nights" "isStale" "Z") (by decide +kernel)
  refine lv_aload_n hx hb dX2_forget_0 rfl (lv_at hl 0 rfl) ?_
  refine lv_iconst (v := (1 : Int32)) hx hb dX2_forget_1 (by decide) ?_
  refine va_put (D := G) (ci := 2) (v := .int (1 : Int32)) (ty := .boolean) (C := RX2) (T := TX2) (N := 14) hx hb hts hin_X2 tyX2 tyX2_ok nmX2 hown hK hP hD hS 0 rfl rfl 8 (by decide) fk_33 (fun _ h9 => h9) rfl (tyX2_ok 8 (by decide)) (zb_nar zb_1) (zb_fit zb_1) (Nat.le_of_ble_eq_true rfl) dX2_forget_2 (fun H locs hP hD hS => ?_)
  have hP : va_P G vwCl (wN ca ev n0 n1 n2 n3 n4 n5 n6 n7 c0 c1 c2 c3 c4 c5 c6 order stepsAt doubts weights rows metEver bowedTo (1 : Int32) bowCount doubtCount seenBows likeliest mostSayingsSo bsize bcells ssize scells dsize dcells people rule believed) H := hP
  have hD : va_D A (wN ca ev n0 n1 n2 n3 n4 n5 n6 n7 c0 c1 c2 c3 c4 c5 c6 order stepsAt doubts weights rows metEver bowedTo (1 : Int32) bowCount doubtCount seenBows likeliest mostSayingsSo bsize bcells ssize scells dsize dcells people rule believed) := hD
  obtain rfl := Option.some.inj h
  exact hRet hP hD hS dX2_forget_5
abbrev rm_X2_hourOf : Room := { frames := 1, cells := 0, slots := 0, locals := 22 }
theorem hd_X2_hourOf : yX2_hourOf.cls = RX2 ∧ yX2_hourOf.cls ≠ "java/lang/invoke/MethodHandle" ∧ yX2_hourOf.cls ≠ "java/lang/invoke/VarHandle" ∧ (parseMethodDescriptor yX2_hourOf.desc).map (fun d => d.parameters.length) = some 1 := by decide +kernel
set_option maxHeartbeats 4000000 in
set_option maxRecDepth 100000 in
theorem c_X2_hourOf {l : Launch} {G : va_G} {ca : Nat → ClassId} {ev : Nat → Nat} {n0 n1 n2 n3 n4 n5 n6 n7 c0 c1 c2 c3 c4 c5 c6 : Nat} {order : (Nat → Int32)} {stepsAt : (Nat → Int32)} {doubts : (Nat → Int32)} {weights : (Nat → Int32)} {rows : (Nat → Int32)} {metEver : (Nat → Int32)} {bowedTo : (Nat → Int32)} {isStale : Int32} {bowCount : Int32} {doubtCount : Int32} {seenBows : Int32} {likeliest : Int32} {mostSayingsSo : Int32} {bsize : Int32} {bcells : (Nat → Int32)} {ssize : Int32} {scells : (Nat → Int32)} {dsize : Int32} {dcells : (Nat → Int32)} {people : Int32} {rule : Int32} {believed : Int32} {a1 : Int32} {res : Int32} (h : f_X2_hourOf bsize bcells a1 = some res) : CtI l yX2_hourOf wsX2_hourOf rm_X2_hourOf G ca ev [.ref n0, .int a1] (wN ca ev n0 n1 n2 n3 n4 n5 n6 n7 c0 c1 c2 c3 c4 c5 c6 order stepsAt doubts weights rows metEver bowedTo isStale bowCount doubtCount seenBows likeliest mostSayingsSo bsize bcells ssize scells dsize dcells people rule believed) (wN ca ev n0 n1 n2 n3 n4 n5 n6 n7 c0 c1 c2 c3 c4 c5 c6 order stepsAt doubts weights rows metEver bowedTo isStale bowCount doubtCount seenBows likeliest mostSayingsSo bsize bcells ssize scells dsize dcells people rule believed) res := by
  unfold f_X2_hourOf at h
  refine en_i (by decide) rfl (Nat.le_of_ble_eq_true rfl) ?_
  intro p e s m args below meth c A Q H locs ls hx hb hml hown hts hA hP hK hD hE hS hl hRet
  have hown : s.vm.findClass RX2 = some m.cls := hown
  have hl : lv_has ls 2 [(0, .ref n0), (1, .int a1)] := hl
  have hin_X0 : ∀ w ∈ u_ws RX0 TX0 6, w ∈ wsX2_hourOf := fun w h9 => List.mem_cons_of_mem _ (List.mem_append_left _ (List.mem_append_right _ h9))
  have hin_X2 : ∀ w ∈ u_ws RX2 TX2 14, w ∈ wsX2_hourOf := fun w h9 => List.mem_cons_of_mem _ (List.mem_append_left _ (List.mem_append_left _ (List.mem_append_right _ h9)))
  have fk_53 := hts (.fieldLink RX2 53 "MaskBows$Nights" "carnival" "LMaskBows$Carnival;") (by decide +kernel)
  have fk_57 := va_Nw.use (A := args) rfl (hE.1 ("MaskBows$Nights", 57, "MaskBows$Carnival", "bows", "LMaskBows$Rows;", "MaskBows") (by decide +kernel))
  refine lv_aload_n hx hb dX2_hourOf_0 rfl (lv_at hl 0 rfl) ?_
  refine va_get (D := G) (ci := 2) (v := .ref c0) (C := RX2) (T := TX2) (N := 14) hx hb hts hin_X2 hown hK hP 0 rfl rfl 0 (by decide) fk_53 (fun _ h9 => h9) rfl dX2_hourOf_1 ?_
  refine va_getN (D := G) (ci := 0) (v := .ref c1) (C := RX0) (T := TX0) (N := 6) hx hb hts hin_X0 hown hK hP 8 rfl rfl 0 (by decide) fk_57 (fun _ h9 => h9) rfl dX2_hourOf_4 ?_
  refine lv_iload_n hx hb dX2_hourOf_7 rfl (lv_at hl 1 rfl) ?_
  refine lv_iconst (v := (0 : Int32)) hx hb dX2_hourOf_8 (by decide) ?_
  obtain ⟨u_1, e_1, h⟩ := bd_some h
  refine cl_Vi (As := [.int a1, .int (0 : Int32)]) (rest := []) (Wn := (wN ca ev n0 n1 n2 n3 n4 n5 n6 n7 c0 c1 c2 c3 c4 c5 c6 order stepsAt doubts weights rows metEver bowedTo isStale bowCount doubtCount seenBows likeliest mostSayingsSo bsize bcells ssize scells dsize dcells people rule believed)) ⟨hx, hb, hml, hown, hts⟩ (c_X4_cell (ca := ca) (ev := ev) (r0 := c1) (r1 := c2) (limit := (20 : Int32)) (width := (4 : Int32)) (size := bsize) (cells := bcells) (nc := 80) e_1) (cwV 2 hts gX2_hourOf_X4_cell rfl rfl rfl hd_X4_cell ⟨Nat.le_of_ble_eq_true rfl, Nat.le_of_ble_eq_true rfl⟩) hK hP hD hS hA hE wp_10 (q0 := 0) (ci := 4) rfl rfl rfl rfl hl.1 rfl (Nat.le_of_ble_eq_true rfl) dX2_hourOf_9 ⟨Nat.zero_le _, Nat.zero_le _⟩ (fun H locs hP hD hS => ?_)
  obtain rfl := Option.some.inj h
  exact hRet hP hD hS dX2_hourOf_12
abbrev rm_X2_countSteps : Room := { frames := 2, cells := 0, slots := 0, locals := 43 }
theorem hd_X2_countSteps : yX2_countSteps.cls = RX2 ∧ yX2_countSteps.cls ≠ "java/lang/invoke/MethodHandle" ∧ yX2_countSteps.cls ≠ "java/lang/invoke/VarHandle" ∧ (parseMethodDescriptor yX2_countSteps.desc).map (fun d => d.parameters.length) = some 0 := by decide +kernel
set_option maxHeartbeats 4000000 in
set_option maxRecDepth 100000 in
theorem c_X2_countSteps {l : Launch} {G : va_G} {ca : Nat → ClassId} {ev : Nat → Nat} {n0 n1 n2 n3 n4 n5 n6 n7 c0 c1 c2 c3 c4 c5 c6 : Nat} {order : (Nat → Int32)} {stepsAt : (Nat → Int32)} {doubts : (Nat → Int32)} {weights : (Nat → Int32)} {rows : (Nat → Int32)} {metEver : (Nat → Int32)} {bowedTo : (Nat → Int32)} {isStale : Int32} {bowCount : Int32} {doubtCount : Int32} {seenBows : Int32} {likeliest : Int32} {mostSayingsSo : Int32} {bsize : Int32} {bcells : (Nat → Int32)} {ssize : Int32} {scells : (Nat → Int32)} {dsize : Int32} {dcells : (Nat → Int32)} {people : Int32} {rule : Int32} {believed : Int32}  {N : Nat} {res : (Nat → Int32)} (h : f_X2_countSteps N order stepsAt bowCount bsize bcells = some res) : CtV l yX2_countSteps wsX2_countSteps rm_X2_countSteps G ca ev [.ref n0] (wN ca ev n0 n1 n2 n3 n4 n5 n6 n7 c0 c1 c2 c3 c4 c5 c6 order stepsAt doubts weights rows metEver bowedTo isStale bowCount doubtCount seenBows likeliest mostSayingsSo bsize bcells ssize scells dsize dcells people rule believed) (wN ca ev n0 n1 n2 n3 n4 n5 n6 n7 c0 c1 c2 c3 c4 c5 c6 order res doubts weights rows metEver bowedTo isStale bowCount doubtCount seenBows likeliest mostSayingsSo bsize bcells ssize scells dsize dcells people rule believed) := by
  unfold f_X2_countSteps at h
  refine en_v (by decide) rfl (Nat.le_of_ble_eq_true rfl) ?_
  intro p e s m args below meth c A Q H locs ls hx hb hml hown hts hA hP hK hD hE hS hl hRet
  have hown : s.vm.findClass RX2 = some m.cls := hown
  have hl : lv_has ls 3 [(0, .ref n0)] := hl
  have hin_X2 : ∀ w ∈ u_ws RX2 TX2 14, w ∈ wsX2_countSteps := fun w h9 => List.mem_cons_of_mem _ (List.mem_append_left _ (List.mem_append_left _ (List.mem_append_right _ h9)))
  have fk_15 := hts (.fieldLink RX2 15 "MaskBows$Nights" "stepsAt" "[I") (by decide +kernel)
  have fk_37 := hts (.fieldLink RX2 37 "MaskBows$Nights" "bowCount" "I") (by decide +kernel)
  have fk_9 := hts (.fieldLink RX2 9 "MaskBows$Nights" "order" "[I") (by decide +kernel)
  refine lv_iconst (v := (0 : Int32)) hx hb dX2_countSteps_0 (by decide) ?_
  refine lv_istore_n (lv' := [(1, .int (0 : Int32)), (0, .ref n0)]) hx hb dX2_countSteps_1 rfl hl (by decide) rfl (fun ls hl => ?_)
  refine lv_iconst (v := (0 : Int32)) hx hb dX2_countSteps_2 (by decide) ?_
  refine lv_istore_n (lv' := [(2, .int (0 : Int32)), (1, .int (0 : Int32)), (0, .ref n0)]) hx hb dX2_countSteps_3 rfl hl (by decide) rfl (fun ls hl => ?_)
  have L_4 : ∀  {order_4 : (Nat → Int32)} {bowCount_4 : Int32} {bsize_4 : Int32} {bcells_4 : (Nat → Int32)} (n_4 : Nat) {x1_4 : Int32} {x2_4 : Int32} {stepsAt_4 : (Nat → Int32)} {uL_4 : (Nat → Int32)} {H : Heap} {locs : List Loc} {ls : Array Slot}, f_X2_countSteps_4 N order_4 bowCount_4 bsize_4 bcells_4  n_4 x1_4 x2_4 stepsAt_4 = some uL_4 → va_P G vwCl (wN ca ev n0 n1 n2 n3 n4 n5 n6 n7 c0 c1 c2 c3 c4 c5 c6 order_4 stepsAt_4 doubts weights rows metEver bowedTo isStale bowCount_4 doubtCount seenBows likeliest mostSayingsSo bsize_4 bcells_4 ssize scells dsize dcells people rule believed) H → va_D A (wN ca ev n0 n1 n2 n3 n4 n5 n6 n7 c0 c1 c2 c3 c4 c5 c6 order_4 stepsAt_4 doubts weights rows metEver bowedTo isStale bowCount_4 doubtCount seenBows likeliest mostSayingsSo bsize_4 bcells_4 ssize scells dsize dcells people rule believed) → va_S A s.heap H locs → lv_has ls 3 [(0, .ref n0), (1, .int x1_4), (2, .int x2_4)] → (∀ {H : Heap} {locs : List Loc} {ls : Array Slot}, va_P G vwCl (wN ca ev n0 n1 n2 n3 n4 n5 n6 n7 c0 c1 c2 c3 c4 c5 c6 order_4 uL_4 doubts weights rows metEver bowedTo isStale bowCount_4 doubtCount seenBows likeliest mostSayingsSo bsize_4 bcells_4 ssize scells dsize dcells people rule believed) H → va_D A (wN ca ev n0 n1 n2 n3 n4 n5 n6 n7 c0 c1 c2 c3 c4 c5 c6 order_4 uL_4 doubts weights rows metEver bowedTo isStale bowCount_4 doubtCount seenBows likeliest mostSayingsSo bsize_4 bcells_4 ssize scells dsize dcells people rule believed) → va_S A s.heap H locs → lv_has ls 3 [] → W p l e rm_X2_countSteps s m args below meth c H locs 0 0 Q (F0 m 51 ls [])) → W p l e rm_X2_countSteps s m args below meth c H locs 0 0 Q (F0 m 4 ls []) := by
    intro order_4 bowCount_4 bsize_4 bcells_4 n_4
    induction n_4 with
    | zero => intro x1_4 x2_4 stepsAt_4 uL_4 H locs ls h; exact absurd h (by rw [f_X2_countSteps_4]; exact fun z => nomatch z)
    | succ n_4 ih =>
      intro x1_4 x2_4 stepsAt_4 uL_4 H locs ls h hP hD hS hl JK_4
      rw [f_X2_countSteps_4] at h
      refine lv_iload_n hx hb dX2_countSteps_4 rfl (lv_at hl 2 rfl) ?_
      refine lv_bipush (v := (100 : Int32)) hx hb dX2_countSteps_5 (by decide) ?_
      refine lv_icmp_ge (tgt := 51) hx hb dX2_countSteps_7 (by decide) (fun c_1 => ?_) (fun c_1 => ?_)
      · have h := ifp c_1 h
        obtain rfl := Option.some.inj h
        exact JK_4 hP hD hS (lv_sub hl [] rfl)
      · have h := ifn c_1 h
        have L_10 : ∀ {x2_10 : Int32} {order_10 : (Nat → Int32)} {bowCount_10 : Int32} {bsize_10 : Int32} {bcells_10 : (Nat → Int32)} (n_10 : Nat) {x1_10 : Int32} {uL_10 : Int32} {H : Heap} {locs : List Loc} {ls : Array Slot}, f_X2_countSteps_10 x2_10 order_10 bowCount_10 bsize_10 bcells_10  n_10 x1_10 = some uL_10 → va_P G vwCl (wN ca ev n0 n1 n2 n3 n4 n5 n6 n7 c0 c1 c2 c3 c4 c5 c6 order_10 stepsAt_4 doubts weights rows metEver bowedTo isStale bowCount_10 doubtCount seenBows likeliest mostSayingsSo bsize_10 bcells_10 ssize scells dsize dcells people rule believed) H → va_D A (wN ca ev n0 n1 n2 n3 n4 n5 n6 n7 c0 c1 c2 c3 c4 c5 c6 order_10 stepsAt_4 doubts weights rows metEver bowedTo isStale bowCount_10 doubtCount seenBows likeliest mostSayingsSo bsize_10 bcells_10 ssize scells dsize dcells people rule believed) → va_S A s.heap H locs → lv_has ls 3 [(0, .ref n0), (1, .int x1_10), (2, .int x2_10)] → (∀ {H : Heap} {locs : List Loc} {ls : Array Slot}, va_P G vwCl (wN ca ev n0 n1 n2 n3 n4 n5 n6 n7 c0 c1 c2 c3 c4 c5 c6 order_10 stepsAt_4 doubts weights rows metEver bowedTo isStale bowCount_10 doubtCount seenBows likeliest mostSayingsSo bsize_10 bcells_10 ssize scells dsize dcells people rule believed) H → va_D A (wN ca ev n0 n1 n2 n3 n4 n5 n6 n7 c0 c1 c2 c3 c4 c5 c6 order_10 stepsAt_4 doubts weights rows metEver bowedTo isStale bowCount_10 doubtCount seenBows likeliest mostSayingsSo bsize_10 bcells_10 ssize scells dsize dcells people rule believed) → va_S A s.heap H locs → lv_has ls 3 [(0, .ref n0), (1, .int uL_10), (2, .int x2_10)] → W p l e rm_X2_countSteps s m args below meth c H locs 0 0 Q (F0 m 38 ls [])) → W p l e rm_X2_countSteps s m args below meth c H locs 0 0 Q (F0 m 10 ls []) := by
          intro x2_10 order_10 bowCount_10 bsize_10 bcells_10 n_10
          induction n_10 with
          | zero => intro x1_10 uL_10 H locs ls h; exact absurd h (by rw [f_X2_countSteps_10]; exact fun z => nomatch z)
          | succ n_10 ih =>
            intro x1_10 uL_10 H locs ls h hP hD hS hl JK_10
            rw [f_X2_countSteps_10] at h
            refine lv_iload_n hx hb dX2_countSteps_10 rfl (lv_at hl 1 rfl) ?_
            refine lv_aload_n hx hb dX2_countSteps_11 rfl (lv_at hl 0 rfl) ?_
            refine va_get (D := G) (ci := 2) (v := .int bowCount_10) (C := RX2) (T := TX2) (N := 14) hx hb hts hin_X2 hown hK hP 0 rfl rfl 9 (by decide) fk_37 (fun _ h9 => h9) rfl dX2_countSteps_12 ?_
            refine lv_icmp_ge (tgt := 38) hx hb dX2_countSteps_15 (by decide) (fun c_2 => ?_) (fun c_2 => ?_)
            · have h := ifp c_2 h
              obtain rfl := Option.some.inj h
              exact JK_10 hP hD hS (lv_sub hl [0, 1, 2] rfl)
            · have h := ifn c_2 h
              refine lv_aload_n hx hb dX2_countSteps_18 rfl (lv_at hl 0 rfl) ?_
              refine lv_aload_n hx hb dX2_countSteps_19 rfl (lv_at hl 0 rfl) ?_
              refine va_get (D := G) (ci := 2) (v := .ref n1) (C := RX2) (T := TX2) (N := 14) hx hb hts hin_X2 hown hK hP 0 rfl rfl 1 (by decide) fk_9 (fun _ h9 => h9) rfl dX2_countSteps_20 ?_
              refine lv_iload_n hx hb dX2_countSteps_23 rfl (lv_at hl 1 rfl) ?_
              obtain ⟨i_3, h⟩ := gd_some h
              refine va_iald hx hb hK hP 1 0 rfl rfl (ix_in i_3) dX2_countSteps_24 ?_
              obtain ⟨u_4, e_4, h⟩ := bd_some h
              refine cm_Vi (As := [.int (order_10 x1_10.toNatClampNeg)]) (rest := []) ⟨hx, hb, hml, hown, hts⟩ (c_X2_hourOf (ca := ca) (ev := ev) (n0 := n0) (n1 := n1) (n2 := n2) (n3 := n3) (n4 := n4) (n5 := n5) (n6 := n6) (n7 := n7) (c0 := c0) (c1 := c1) (c2 := c2) (c3 := c3) (c4 := c4) (c5 := c5) (c6 := c6) (order := order_10) (stepsAt := stepsAt_4) (doubts := doubts) (weights := weights) (rows := rows) (metEver := metEver) (bowedTo := bowedTo) (isStale := isStale) (bowCount := bowCount_10) (doubtCount := doubtCount) (seenBows := seenBows) (likeliest := likeliest) (mostSayingsSo := mostSayingsSo) (bsize := bsize_10) (bcells := bcells_10) (ssize := ssize) (scells := scells) (dsize := dsize) (dcells := dcells) (people := people) (rule := rule) (believed := believed) e_4) (cwV 1 hts gX2_countSteps_X2_hourOf rfl rfl rfl hd_X2_hourOf ⟨Nat.le_of_ble_eq_true rfl, Nat.le_of_ble_eq_true rfl⟩) hK hP hD hS hA hE (q0 := 0) (ci := 2) rfl rfl rfl rfl hl.1 rfl (Nat.le_of_ble_eq_true rfl) dX2_countSteps_25 ⟨Nat.zero_le _, Nat.zero_le _⟩ (fun H locs hP hD hS => ?_)
              refine lv_iload_n hx hb dX2_countSteps_28 rfl (lv_at hl 2 rfl) ?_
              refine lv_icmp_gt (tgt := 38) hx hb dX2_countSteps_29 (by decide) (fun c_5 => ?_) (fun c_5 => ?_)
              · have h := ifp c_5 h
                obtain rfl := Option.some.inj h
                exact JK_10 hP hD hS (lv_sub hl [0, 1, 2] rfl)
              · have h := ifn c_5 h
                refine lv_iinc (v := (x1_10 + (1 : Int32))) (lv' := [(1, .int (x1_10 + (1 : Int32))), (0, .ref n0), (2, .int x2_10)]) hx hb dX2_countSteps_32 hl (k := 1) rfl rfl (by decide) rfl (fun ls hl => ?_)
                refine lv_goto (tgt := 10) hx hb dX2_countSteps_35 (by decide) ?_
                exact ih h hP hD hS (lv_sub hl [1, 0, 2] rfl) JK_10
        obtain ⟨u_6, e_6, h⟩ := bd_some h
        refine L_10 _ e_6 hP hD hS (lv_sub hl [0, 1, 2] rfl) ?_
        intro H locs ls hP hD hS hl
        refine lv_aload_n hx hb dX2_countSteps_38 rfl (lv_at hl 0 rfl) ?_
        refine va_get (D := G) (ci := 2) (v := .ref n2) (C := RX2) (T := TX2) (N := 14) hx hb hts hin_X2 hown hK hP 0 rfl rfl 2 (by decide) fk_15 (fun _ h9 => h9) rfl dX2_countSteps_39 ?_
        refine lv_iload_n hx hb dX2_countSteps_42 rfl (lv_at hl 2 rfl) ?_
        refine lv_iload_n hx hb dX2_countSteps_43 rfl (lv_at hl 1 rfl) ?_
        obtain ⟨i_7, h⟩ := gd_some h
        refine va_iast hx hb hK hP hD hS 2 0 rfl rfl (ix_in i_7) dX2_countSteps_44 (fun H locs hP hD hS => ?_)
        have hP : va_P G vwCl (wN ca ev n0 n1 n2 n3 n4 n5 n6 n7 c0 c1 c2 c3 c4 c5 c6 order_4 (upd stepsAt_4 x2_4.toNatClampNeg u_6) doubts weights rows metEver bowedTo isStale bowCount_4 doubtCount seenBows likeliest mostSayingsSo bsize_4 bcells_4 ssize scells dsize dcells people rule believed) H := hP
        have hD : va_D A (wN ca ev n0 n1 n2 n3 n4 n5 n6 n7 c0 c1 c2 c3 c4 c5 c6 order_4 (upd stepsAt_4 x2_4.toNatClampNeg u_6) doubts weights rows metEver bowedTo isStale bowCount_4 doubtCount seenBows likeliest mostSayingsSo bsize_4 bcells_4 ssize scells dsize dcells people rule believed) := hD
        refine lv_iinc (v := (x2_4 + (1 : Int32))) (lv' := [(2, .int (x2_4 + (1 : Int32))), (0, .ref n0), (1, .int u_6)]) hx hb dX2_countSteps_45 hl (k := 2) rfl rfl (by decide) rfl (fun ls hl => ?_)
        refine lv_goto (tgt := 4) hx hb dX2_countSteps_48 (by decide) ?_
        exact ih h hP hD hS (lv_sub hl [1, 2, 0] rfl) JK_4
  obtain ⟨u_8, e_8, h⟩ := bd_some h
  refine L_4 _ e_8 hP hD hS (lv_sub hl [2, 1, 0] rfl) ?_
  intro H locs ls hP hD hS hl
  obtain rfl := Option.some.inj h
  exact hRet hP hD hS dX2_countSteps_51
abbrev rm_X2_findDoubts : Room := { frames := 2, cells := 0, slots := 0, locals := 43 }
theorem hd_X2_findDoubts : yX2_findDoubts.cls = RX2 ∧ yX2_findDoubts.cls ≠ "java/lang/invoke/MethodHandle" ∧ yX2_findDoubts.cls ≠ "java/lang/invoke/VarHandle" ∧ (parseMethodDescriptor yX2_findDoubts.desc).map (fun d => d.parameters.length) = some 0 := by decide +kernel
set_option maxHeartbeats 4000000 in
set_option maxRecDepth 100000 in
theorem c_X2_findDoubts {l : Launch} {G : va_G} {ca : Nat → ClassId} {ev : Nat → Nat} {n0 n1 n2 n3 n4 n5 n6 n7 c0 c1 c2 c3 c4 c5 c6 : Nat} {order : (Nat → Int32)} {stepsAt : (Nat → Int32)} {doubts : (Nat → Int32)} {weights : (Nat → Int32)} {rows : (Nat → Int32)} {metEver : (Nat → Int32)} {bowedTo : (Nat → Int32)} {isStale : Int32} {bowCount : Int32} {doubtCount : Int32} {seenBows : Int32} {likeliest : Int32} {mostSayingsSo : Int32} {bsize : Int32} {bcells : (Nat → Int32)} {ssize : Int32} {scells : (Nat → Int32)} {dsize : Int32} {dcells : (Nat → Int32)} {people : Int32} {rule : Int32} {believed : Int32}  {N : Nat} {res : (Nat → Int32) × Int32 × Int32} (h : f_X2_findDoubts N doubts bowCount doubtCount seenBows bsize bcells = some res) : CtV l yX2_findDoubts wsX2_findDoubts rm_X2_findDoubts G ca ev [.ref n0] (wN ca ev n0 n1 n2 n3 n4 n5 n6 n7 c0 c1 c2 c3 c4 c5 c6 order stepsAt doubts weights rows metEver bowedTo isStale bowCount doubtCount seenBows likeliest mostSayingsSo bsize bcells ssize scells dsize dcells people rule believed) (wN ca ev n0 n1 n2 n3 n4 n5 n6 n7 c0 c1 c2 c3 c4 c5 c6 order stepsAt res.1 weights rows metEver bowedTo isStale bowCount res.2.1 res.2.2 likeliest mostSayingsSo bsize bcells ssize scells dsize dcells people rule believed) := by
  unfold f_X2_findDoubts at h
  refine en_v (by decide) rfl (Nat.le_of_ble_eq_true rfl) ?_
  intro p e s m args below meth c A Q H locs ls hx hb hml hown hts hA hP hK hD hE hS hl hRet
  have hown : s.vm.findClass RX2 = some m.cls := hown
  have hl : lv_has ls 2 [(0, .ref n0)] := hl
  have hin_X2 : ∀ w ∈ u_ws RX2 TX2 14, w ∈ wsX2_findDoubts := fun w h9 => List.mem_cons_of_mem _ (List.mem_append_left _ (List.mem_append_left _ (List.mem_append_right _ h9)))
  have fk_18 := hts (.fieldLink RX2 18 "MaskBows$Nights" "doubts" "[I") (by decide +kernel)
  have fk_37 := hts (.fieldLink RX2 37 "MaskBows$Nights" "bowCount" "I") (by decide +kernel)
  have fk_41 := hts (.fieldLink RX2 41 "MaskBows$Nights" "doubtCount" "I") (by decide +kernel)
  have fk_44 := hts (.fieldLink RX2 44 "MaskBows$Nights" "seenBows" "I") (by decide +kernel)
  have fk_53 := hts (.fieldLink RX2 53 "MaskBows$Nights" "carnival" "LMaskBows$Carnival;") (by decide +kernel)
  refine lv_aload_n hx hb dX2_findDoubts_0 rfl (lv_at hl 0 rfl) ?_
  refine lv_iconst (v := (0 : Int32)) hx hb dX2_findDoubts_1 (by decide) ?_
  refine va_put (D := G) (ci := 2) (v := .int (0 : Int32)) (ty := .int) (C := RX2) (T := TX2) (N := 14) hx hb hts hin_X2 tyX2 tyX2_ok nmX2 hown hK hP hD hS 0 rfl rfl 10 (by decide) fk_41 (fun _ h9 => h9) rfl (tyX2_ok 10 (by decide)) rfl rfl (Nat.le_of_ble_eq_true rfl) dX2_findDoubts_2 (fun H locs hP hD hS => ?_)
  have hP : va_P G vwCl (wN ca ev n0 n1 n2 n3 n4 n5 n6 n7 c0 c1 c2 c3 c4 c5 c6 order stepsAt doubts weights rows metEver bowedTo isStale bowCount (0 : Int32) seenBows likeliest mostSayingsSo bsize bcells ssize scells dsize dcells people rule believed) H := hP
  have hD : va_D A (wN ca ev n0 n1 n2 n3 n4 n5 n6 n7 c0 c1 c2 c3 c4 c5 c6 order stepsAt doubts weights rows metEver bowedTo isStale bowCount (0 : Int32) seenBows likeliest mostSayingsSo bsize bcells ssize scells dsize dcells people rule believed) := hD
  refine lv_aload_n hx hb dX2_findDoubts_5 rfl (lv_at hl 0 rfl) ?_
  refine lv_iconst (v := (0 : Int32)) hx hb dX2_findDoubts_6 (by decide) ?_
  refine va_put (D := G) (ci := 2) (v := .int (0 : Int32)) (ty := .int) (C := RX2) (T := TX2) (N := 14) hx hb hts hin_X2 tyX2 tyX2_ok nmX2 hown hK hP hD hS 0 rfl rfl 11 (by decide) fk_44 (fun _ h9 => h9) rfl (tyX2_ok 11 (by decide)) rfl rfl (Nat.le_of_ble_eq_true rfl) dX2_findDoubts_7 (fun H locs hP hD hS => ?_)
  have hP : va_P G vwCl (wN ca ev n0 n1 n2 n3 n4 n5 n6 n7 c0 c1 c2 c3 c4 c5 c6 order stepsAt doubts weights rows metEver bowedTo isStale bowCount (0 : Int32) (0 : Int32) likeliest mostSayingsSo bsize bcells ssize scells dsize dcells people rule believed) H := hP
  have hD : va_D A (wN ca ev n0 n1 n2 n3 n4 n5 n6 n7 c0 c1 c2 c3 c4 c5 c6 order stepsAt doubts weights rows metEver bowedTo isStale bowCount (0 : Int32) (0 : Int32) likeliest mostSayingsSo bsize bcells ssize scells dsize dcells people rule believed) := hD
  refine lv_iconst (v := (0 : Int32)) hx hb dX2_findDoubts_10 (by decide) ?_
  refine lv_istore_n (lv' := [(1, .int (0 : Int32)), (0, .ref n0)]) hx hb dX2_findDoubts_11 rfl hl (by decide) rfl (fun ls hl => ?_)
  have L_12 : ∀  {bowCount_12 : Int32} {bsize_12 : Int32} {bcells_12 : (Nat → Int32)} (n_12 : Nat) {x1_12 : Int32} {doubts_12 : (Nat → Int32)} {doubtCount_12 : Int32} {seenBows_12 : Int32} {uL_12 : (Nat → Int32) × Int32 × Int32} {H : Heap} {locs : List Loc} {ls : Array Slot}, f_X2_findDoubts_12 bowCount_12 bsize_12 bcells_12  n_12 x1_12 doubts_12 doubtCount_12 seenBows_12 = some uL_12 → va_P G vwCl (wN ca ev n0 n1 n2 n3 n4 n5 n6 n7 c0 c1 c2 c3 c4 c5 c6 order stepsAt doubts_12 weights rows metEver bowedTo isStale bowCount_12 doubtCount_12 seenBows_12 likeliest mostSayingsSo bsize_12 bcells_12 ssize scells dsize dcells people rule believed) H → va_D A (wN ca ev n0 n1 n2 n3 n4 n5 n6 n7 c0 c1 c2 c3 c4 c5 c6 order stepsAt doubts_12 weights rows metEver bowedTo isStale bowCount_12 doubtCount_12 seenBows_12 likeliest mostSayingsSo bsize_12 bcells_12 ssize scells dsize dcells people rule believed) → va_S A s.heap H locs → lv_has ls 2 [(0, .ref n0), (1, .int x1_12)] → (∀ {H : Heap} {locs : List Loc} {ls : Array Slot}, va_P G vwCl (wN ca ev n0 n1 n2 n3 n4 n5 n6 n7 c0 c1 c2 c3 c4 c5 c6 order stepsAt uL_12.1 weights rows metEver bowedTo isStale bowCount_12 uL_12.2.1 uL_12.2.2 likeliest mostSayingsSo bsize_12 bcells_12 ssize scells dsize dcells people rule believed) H → va_D A (wN ca ev n0 n1 n2 n3 n4 n5 n6 n7 c0 c1 c2 c3 c4 c5 c6 order stepsAt uL_12.1 weights rows metEver bowedTo isStale bowCount_12 uL_12.2.1 uL_12.2.2 likeliest mostSayingsSo bsize_12 bcells_12 ssize scells dsize dcells people rule believed) → va_S A s.heap H locs → lv_has ls 2 [] → W p l e rm_X2_findDoubts s m args below meth c H locs 0 0 Q (F0 m 81 ls [])) → W p l e rm_X2_findDoubts s m args below meth c H locs 0 0 Q (F0 m 12 ls []) := by
    intro bowCount_12 bsize_12 bcells_12 n_12
    induction n_12 with
    | zero => intro x1_12 doubts_12 doubtCount_12 seenBows_12 uL_12 H locs ls h; exact absurd h (by rw [f_X2_findDoubts_12]; exact fun z => nomatch z)
    | succ n_12 ih =>
      intro x1_12 doubts_12 doubtCount_12 seenBows_12 uL_12 H locs ls h hP hD hS hl JK_12
      rw [f_X2_findDoubts_12] at h
      refine lv_iload_n hx hb dX2_findDoubts_12 rfl (lv_at hl 1 rfl) ?_
      refine lv_aload_n hx hb dX2_findDoubts_13 rfl (lv_at hl 0 rfl) ?_
      refine va_get (D := G) (ci := 2) (v := .int bowCount_12) (C := RX2) (T := TX2) (N := 14) hx hb hts hin_X2 hown hK hP 0 rfl rfl 9 (by decide) fk_37 (fun _ h9 => h9) rfl dX2_findDoubts_14 ?_
      refine lv_icmp_ge (tgt := 81) hx hb dX2_findDoubts_17 (by decide) (fun c_1 => ?_) (fun c_1 => ?_)
      · have h := ifp c_1 h
        obtain rfl := Option.some.inj h
        exact JK_12 hP hD hS (lv_sub hl [] rfl)
      · have h := ifn c_1 h
        refine lv_aload_n hx hb dX2_findDoubts_20 rfl (lv_at hl 0 rfl) ?_
        refine va_get (D := G) (ci := 2) (v := .ref c0) (C := RX2) (T := TX2) (N := 14) hx hb hts hin_X2 hown hK hP 0 rfl rfl 0 (by decide) fk_53 (fun _ h9 => h9) rfl dX2_findDoubts_21 ?_
        refine lv_iload_n hx hb dX2_findDoubts_24 rfl (lv_at hl 1 rfl) ?_
        obtain ⟨u_2, e_2, h⟩ := bd_some h
        refine cl_Vi (As := [.int x1_12]) (rest := []) (Wn := (wN ca ev n0 n1 n2 n3 n4 n5 n6 n7 c0 c1 c2 c3 c4 c5 c6 order stepsAt doubts_12 weights rows metEver bowedTo isStale bowCount_12 doubtCount_12 seenBows_12 likeliest mostSayingsSo bsize_12 bcells_12 ssize scells dsize dcells people rule believed)) ⟨hx, hb, hml, hown, hts⟩ (c_X0_isDoubted (ca := ca) (ev := ev) (c0 := c0) (c1 := c1) (c2 := c2) (c3 := c3) (c4 := c4) (c5 := c5) (c6 := c6) (bsize := bsize_12) (bcells := bcells_12) (ssize := ssize) (scells := scells) (dsize := dsize) (dcells := dcells) (people := people) (rule := rule) (believed := believed) e_2) (cwV 1 hts gX2_findDoubts_X0_isDoubted rfl rfl rfl hd_X0_isDoubted ⟨Nat.le_of_ble_eq_true rfl, Nat.le_of_ble_eq_true rfl⟩) hK hP hD hS hA hE wp_11 (q0 := 0) (ci := 0) rfl rfl rfl rfl hl.1 rfl (Nat.le_of_ble_eq_true rfl) dX2_findDoubts_25 ⟨Nat.zero_le _, Nat.zero_le _⟩ (fun H locs hP hD hS => ?_)
        obtain ⟨u_3, e_3, h⟩ := bd_some h
        have J_3 : ∀ {H : Heap} {locs : List Loc} {ls : Array Slot}, va_P G vwCl (wN ca ev n0 n1 n2 n3 n4 n5 n6 n7 c0 c1 c2 c3 c4 c5 c6 order stepsAt u_3.1 weights rows metEver bowedTo isStale bowCount_12 u_3.2.1 u_3.2.2 likeliest mostSayingsSo bsize_12 bcells_12 ssize scells dsize dcells people rule believed) H → va_D A (wN ca ev n0 n1 n2 n3 n4 n5 n6 n7 c0 c1 c2 c3 c4 c5 c6 order stepsAt u_3.1 weights rows metEver bowedTo isStale bowCount_12 u_3.2.1 u_3.2.2 likeliest mostSayingsSo bsize_12 bcells_12 ssize scells dsize dcells people rule believed) → va_S A s.heap H locs → lv_has ls 2 [(0, .ref n0), (1, .int x1_12)] → W p l e rm_X2_findDoubts s m args below meth c H locs 0 0 Q (F0 m 75 ls []) := by
          intro H locs ls hP hD hS hl 
          refine lv_iinc (v := (x1_12 + (1 : Int32))) (lv' := [(1, .int (x1_12 + (1 : Int32))), (0, .ref n0)]) hx hb dX2_findDoubts_75 hl (k := 1) rfl rfl (by decide) rfl (fun ls hl => ?_)
          refine lv_goto (tgt := 12) hx hb dX2_findDoubts_78 (by decide) ?_
          exact ih h hP hD hS (lv_sub hl [1, 0] rfl) JK_12
        have h := e_3
        clear e_3
        refine lv_if_ne (tgt := 46) hx hb dX2_findDoubts_28 (by decide) (fun c_3 => ?_) (fun c_3 => ?_)
        · have h := ifn c_3 h
          refine lv_aload_n hx hb dX2_findDoubts_46 rfl (lv_at hl 0 rfl) ?_
          refine va_get (D := G) (ci := 2) (v := .int doubtCount_12) (C := RX2) (T := TX2) (N := 14) hx hb hts hin_X2 hown hK hP 0 rfl rfl 10 (by decide) fk_41 (fun _ h9 => h9) rfl dX2_findDoubts_47 ?_
          refine lv_bipush (v := (6 : Int32)) hx hb dX2_findDoubts_50 (by decide) ?_
          refine lv_icmp_ge (tgt := 75) hx hb dX2_findDoubts_52 (by decide) (fun c_4 => ?_) (fun c_4 => ?_)
          · have h := ifp c_4 h
            obtain rfl := Option.some.inj h
            exact J_3 hP hD hS (lv_sub hl [0, 1] rfl)
          · have h := ifn c_4 h
            refine lv_aload_n hx hb dX2_findDoubts_55 rfl (lv_at hl 0 rfl) ?_
            refine va_get (D := G) (ci := 2) (v := .ref n3) (C := RX2) (T := TX2) (N := 14) hx hb hts hin_X2 hown hK hP 0 rfl rfl 3 (by decide) fk_18 (fun _ h9 => h9) rfl dX2_findDoubts_56 ?_
            refine lv_aload_n hx hb dX2_findDoubts_59 rfl (lv_at hl 0 rfl) ?_
            refine va_get (D := G) (ci := 2) (v := .int doubtCount_12) (C := RX2) (T := TX2) (N := 14) hx hb hts hin_X2 hown hK hP 0 rfl rfl 10 (by decide) fk_41 (fun _ h9 => h9) rfl dX2_findDoubts_60 ?_
            refine lv_iload_n hx hb dX2_findDoubts_63 rfl (lv_at hl 1 rfl) ?_
            obtain ⟨i_5, h⟩ := gd_some h
            refine va_iast hx hb hK hP hD hS 3 0 rfl rfl (ix_in i_5) dX2_findDoubts_64 (fun H locs hP hD hS => ?_)
            have hP : va_P G vwCl (wN ca ev n0 n1 n2 n3 n4 n5 n6 n7 c0 c1 c2 c3 c4 c5 c6 order stepsAt (upd doubts_12 doubtCount_12.toNatClampNeg x1_12) weights rows metEver bowedTo isStale bowCount_12 doubtCount_12 seenBows_12 likeliest mostSayingsSo bsize_12 bcells_12 ssize scells dsize dcells people rule believed) H := hP
            have hD : va_D A (wN ca ev n0 n1 n2 n3 n4 n5 n6 n7 c0 c1 c2 c3 c4 c5 c6 order stepsAt (upd doubts_12 doubtCount_12.toNatClampNeg x1_12) weights rows metEver bowedTo isStale bowCount_12 doubtCount_12 seenBows_12 likeliest mostSayingsSo bsize_12 bcells_12 ssize scells dsize dcells people rule believed) := hD
            refine lv_aload_n hx hb dX2_findDoubts_65 rfl (lv_at hl 0 rfl) ?_
            refine lv_dup hx hb dX2_findDoubts_66 rfl ?_
            refine va_get (D := G) (ci := 2) (v := .int doubtCount_12) (C := RX2) (T := TX2) (N := 14) hx hb hts hin_X2 hown hK hP 0 rfl rfl 10 (by decide) fk_41 (fun _ h9 => h9) rfl dX2_findDoubts_67 ?_
            refine lv_iconst (v := (1 : Int32)) hx hb dX2_findDoubts_70 (by decide) ?_
            refine lv_iadd hx hb dX2_findDoubts_71 ?_
            refine va_put (D := G) (ci := 2) (v := .int (doubtCount_12 + (1 : Int32))) (ty := .int) (C := RX2) (T := TX2) (N := 14) hx hb hts hin_X2 tyX2 tyX2_ok nmX2 hown hK hP hD hS 0 rfl rfl 10 (by decide) fk_41 (fun _ h9 => h9) rfl (tyX2_ok 10 (by decide)) rfl rfl (Nat.le_of_ble_eq_true rfl) dX2_findDoubts_72 (fun H locs hP hD hS => ?_)
            have hP : va_P G vwCl (wN ca ev n0 n1 n2 n3 n4 n5 n6 n7 c0 c1 c2 c3 c4 c5 c6 order stepsAt (upd doubts_12 doubtCount_12.toNatClampNeg x1_12) weights rows metEver bowedTo isStale bowCount_12 (doubtCount_12 + (1 : Int32)) seenBows_12 likeliest mostSayingsSo bsize_12 bcells_12 ssize scells dsize dcells people rule believed) H := hP
            have hD : va_D A (wN ca ev n0 n1 n2 n3 n4 n5 n6 n7 c0 c1 c2 c3 c4 c5 c6 order stepsAt (upd doubts_12 doubtCount_12.toNatClampNeg x1_12) weights rows metEver bowedTo isStale bowCount_12 (doubtCount_12 + (1 : Int32)) seenBows_12 likeliest mostSayingsSo bsize_12 bcells_12 ssize scells dsize dcells people rule believed) := hD
            obtain rfl := Option.some.inj h
            exact J_3 hP hD hS (lv_sub hl [0, 1] rfl)
        · have h := ifp c_3 h
          refine lv_aload_n hx hb dX2_findDoubts_31 rfl (lv_at hl 0 rfl) ?_
          refine lv_dup hx hb dX2_findDoubts_32 rfl ?_
          refine va_get (D := G) (ci := 2) (v := .int seenBows_12) (C := RX2) (T := TX2) (N := 14) hx hb hts hin_X2 hown hK hP 0 rfl rfl 11 (by decide) fk_44 (fun _ h9 => h9) rfl dX2_findDoubts_33 ?_
          refine lv_iconst (v := (1 : Int32)) hx hb dX2_findDoubts_36 (by decide) ?_
          refine lv_iload_n hx hb dX2_findDoubts_37 rfl (lv_at hl 1 rfl) ?_
          refine lv_ishl hx hb dX2_findDoubts_38 ?_
          refine lv_ior hx hb dX2_findDoubts_39 ?_
          refine va_put (D := G) (ci := 2) (v := .int (seenBows_12 ||| ((1 : Int32) <<< (x1_12 &&& 31)))) (ty := .int) (C := RX2) (T := TX2) (N := 14) hx hb hts hin_X2 tyX2 tyX2_ok nmX2 hown hK hP hD hS 0 rfl rfl 11 (by decide) fk_44 (fun _ h9 => h9) rfl (tyX2_ok 11 (by decide)) rfl rfl (Nat.le_of_ble_eq_true rfl) dX2_findDoubts_40 (fun H locs hP hD hS => ?_)
          have hP : va_P G vwCl (wN ca ev n0 n1 n2 n3 n4 n5 n6 n7 c0 c1 c2 c3 c4 c5 c6 order stepsAt doubts_12 weights rows metEver bowedTo isStale bowCount_12 doubtCount_12 (seenBows_12 ||| ((1 : Int32) <<< (x1_12 &&& 31))) likeliest mostSayingsSo bsize_12 bcells_12 ssize scells dsize dcells people rule believed) H := hP
          have hD : va_D A (wN ca ev n0 n1 n2 n3 n4 n5 n6 n7 c0 c1 c2 c3 c4 c5 c6 order stepsAt doubts_12 weights rows metEver bowedTo isStale bowCount_12 doubtCount_12 (seenBows_12 ||| ((1 : Int32) <<< (x1_12 &&& 31))) likeliest mostSayingsSo bsize_12 bcells_12 ssize scells dsize dcells people rule believed) := hD
          refine lv_goto (tgt := 75) hx hb dX2_findDoubts_43 (by decide) ?_
          obtain rfl := Option.some.inj h
          exact J_3 hP hD hS (lv_sub hl [0, 1] rfl)
  obtain ⟨u_6, e_6, h⟩ := bd_some h
  refine L_12 _ e_6 hP hD hS (lv_sub hl [1, 0] rfl) ?_
  intro H locs ls hP hD hS hl
  obtain rfl := Option.some.inj h
  exact hRet hP hD hS dX2_findDoubts_81
abbrev rm_X2_bowsOfDoubts : Room := { frames := 0, cells := 0, slots := 0, locals := 0 }
theorem hd_X2_bowsOfDoubts : yX2_bowsOfDoubts.cls = RX2 ∧ yX2_bowsOfDoubts.cls ≠ "java/lang/invoke/MethodHandle" ∧ yX2_bowsOfDoubts.cls ≠ "java/lang/invoke/VarHandle" ∧ (parseMethodDescriptor yX2_bowsOfDoubts.desc).map (fun d => d.parameters.length) = some 1 := by decide +kernel
set_option maxHeartbeats 4000000 in
set_option maxRecDepth 100000 in
theorem c_X2_bowsOfDoubts {l : Launch} {G : va_G} {ca : Nat → ClassId} {ev : Nat → Nat} {n0 n1 n2 n3 n4 n5 n6 n7 c0 c1 c2 c3 c4 c5 c6 : Nat} {order : (Nat → Int32)} {stepsAt : (Nat → Int32)} {doubts : (Nat → Int32)} {weights : (Nat → Int32)} {rows : (Nat → Int32)} {metEver : (Nat → Int32)} {bowedTo : (Nat → Int32)} {isStale : Int32} {bowCount : Int32} {doubtCount : Int32} {seenBows : Int32} {likeliest : Int32} {mostSayingsSo : Int32} {bsize : Int32} {bcells : (Nat → Int32)} {ssize : Int32} {scells : (Nat → Int32)} {dsize : Int32} {dcells : (Nat → Int32)} {people : Int32} {rule : Int32} {believed : Int32} {a1 : Int32} {N : Nat} {res : Int32} (h : f_X2_bowsOfDoubts N doubts doubtCount a1 = some res) : CtI l yX2_bowsOfDoubts wsX2_bowsOfDoubts rm_X2_bowsOfDoubts G ca ev [.ref n0, .int a1] (wN ca ev n0 n1 n2 n3 n4 n5 n6 n7 c0 c1 c2 c3 c4 c5 c6 order stepsAt doubts weights rows metEver bowedTo isStale bowCount doubtCount seenBows likeliest mostSayingsSo bsize bcells ssize scells dsize dcells people rule believed) (wN ca ev n0 n1 n2 n3 n4 n5 n6 n7 c0 c1 c2 c3 c4 c5 c6 order stepsAt doubts weights rows metEver bowedTo isStale bowCount doubtCount seenBows likeliest mostSayingsSo bsize bcells ssize scells dsize dcells people rule believed) res := by
  unfold f_X2_bowsOfDoubts at h
  refine en_i (by decide) rfl (Nat.le_of_ble_eq_true rfl) ?_
  intro p e s m args below meth c A Q H locs ls hx hb hml hown hts hA hP hK hD hE hS hl hRet
  have hown : s.vm.findClass RX2 = some m.cls := hown
  have hl : lv_has ls 4 [(0, .ref n0), (1, .int a1)] := hl
  have hin_X2 : ∀ w ∈ u_ws RX2 TX2 14, w ∈ wsX2_bowsOfDoubts := fun w h9 => List.mem_cons_of_mem _ (List.mem_append_right _ h9)
  have fk_18 := hts (.fieldLink RX2 18 "MaskBows$Nights" "doubts" "[I") (by decide +kernel)
  have fk_41 := hts (.fieldLink RX2 41 "MaskBows$Nights" "doubtCount" "I") (by decide +kernel)
  refine lv_iconst (v := (0 : Int32)) hx hb dX2_bowsOfDoubts_0 (by decide) ?_
  refine lv_istore_n (lv' := [(2, .int (0 : Int32)), (0, .ref n0), (1, .int a1)]) hx hb dX2_bowsOfDoubts_1 rfl hl (by decide) rfl (fun ls hl => ?_)
  refine lv_iconst (v := (0 : Int32)) hx hb dX2_bowsOfDoubts_2 (by decide) ?_
  refine lv_istore_n (lv' := [(3, .int (0 : Int32)), (2, .int (0 : Int32)), (0, .ref n0), (1, .int a1)]) hx hb dX2_bowsOfDoubts_3 rfl hl (by decide) rfl (fun ls hl => ?_)
  have L_4 : ∀ {x1_4 : Int32} {doubts_4 : (Nat → Int32)} {doubtCount_4 : Int32} (n_4 : Nat) {x2_4 : Int32} {x3_4 : Int32} {uL_4 : Int32} {H : Heap} {locs : List Loc} {ls : Array Slot}, f_X2_bowsOfDoubts_4 x1_4 doubts_4 doubtCount_4  n_4 x2_4 x3_4 = some uL_4 → va_P G vwCl (wN ca ev n0 n1 n2 n3 n4 n5 n6 n7 c0 c1 c2 c3 c4 c5 c6 order stepsAt doubts_4 weights rows metEver bowedTo isStale bowCount doubtCount_4 seenBows likeliest mostSayingsSo bsize bcells ssize scells dsize dcells people rule believed) H → va_D A (wN ca ev n0 n1 n2 n3 n4 n5 n6 n7 c0 c1 c2 c3 c4 c5 c6 order stepsAt doubts_4 weights rows metEver bowedTo isStale bowCount doubtCount_4 seenBows likeliest mostSayingsSo bsize bcells ssize scells dsize dcells people rule believed) → va_S A s.heap H locs → lv_has ls 4 [(0, .ref n0), (1, .int x1_4), (2, .int x2_4), (3, .int x3_4)] → (∀ {H : Heap} {locs : List Loc} {ls : Array Slot}, va_P G vwCl (wN ca ev n0 n1 n2 n3 n4 n5 n6 n7 c0 c1 c2 c3 c4 c5 c6 order stepsAt doubts_4 weights rows metEver bowedTo isStale bowCount doubtCount_4 seenBows likeliest mostSayingsSo bsize bcells ssize scells dsize dcells people rule believed) H → va_D A (wN ca ev n0 n1 n2 n3 n4 n5 n6 n7 c0 c1 c2 c3 c4 c5 c6 order stepsAt doubts_4 weights rows metEver bowedTo isStale bowCount doubtCount_4 seenBows likeliest mostSayingsSo bsize bcells ssize scells dsize dcells people rule believed) → va_S A s.heap H locs → lv_has ls 4 [(2, .int uL_4)] → W p l e rm_X2_bowsOfDoubts s m args below meth c H locs 0 0 Q (F0 m 38 ls [])) → W p l e rm_X2_bowsOfDoubts s m args below meth c H locs 0 0 Q (F0 m 4 ls []) := by
    intro x1_4 doubts_4 doubtCount_4 n_4
    induction n_4 with
    | zero => intro x2_4 x3_4 uL_4 H locs ls h; exact absurd h (by rw [f_X2_bowsOfDoubts_4]; exact fun z => nomatch z)
    | succ n_4 ih =>
      intro x2_4 x3_4 uL_4 H locs ls h hP hD hS hl JK_4
      rw [f_X2_bowsOfDoubts_4] at h
      refine lv_iload_n hx hb dX2_bowsOfDoubts_4 rfl (lv_at hl 3 rfl) ?_
      refine lv_aload_n hx hb dX2_bowsOfDoubts_5 rfl (lv_at hl 0 rfl) ?_
      refine va_get (D := G) (ci := 2) (v := .int doubtCount_4) (C := RX2) (T := TX2) (N := 14) hx hb hts hin_X2 hown hK hP 0 rfl rfl 10 (by decide) fk_41 (fun _ h9 => h9) rfl dX2_bowsOfDoubts_6 ?_
      refine lv_icmp_ge (tgt := 38) hx hb dX2_bowsOfDoubts_9 (by decide) (fun c_1 => ?_) (fun c_1 => ?_)
      · have h := ifp c_1 h
        obtain rfl := Option.some.inj h
        exact JK_4 hP hD hS (lv_sub hl [2] rfl)
      · have h := ifn c_1 h
        refine lv_iload_n hx hb dX2_bowsOfDoubts_12 rfl (lv_at hl 1 rfl) ?_
        refine lv_iload_n hx hb dX2_bowsOfDoubts_13 rfl (lv_at hl 3 rfl) ?_
        refine lv_ishr hx hb dX2_bowsOfDoubts_14 ?_
        refine lv_iconst (v := (1 : Int32)) hx hb dX2_bowsOfDoubts_15 (by decide) ?_
        refine lv_iand hx hb dX2_bowsOfDoubts_16 ?_
        refine lv_iconst (v := (1 : Int32)) hx hb dX2_bowsOfDoubts_17 (by decide) ?_
        obtain ⟨u_2, e_2, h⟩ := bd_some h
        have J_2 : ∀ {H : Heap} {locs : List Loc} {ls : Array Slot}, va_P G vwCl (wN ca ev n0 n1 n2 n3 n4 n5 n6 n7 c0 c1 c2 c3 c4 c5 c6 order stepsAt doubts_4 weights rows metEver bowedTo isStale bowCount doubtCount_4 seenBows likeliest mostSayingsSo bsize bcells ssize scells dsize dcells people rule believed) H → va_D A (wN ca ev n0 n1 n2 n3 n4 n5 n6 n7 c0 c1 c2 c3 c4 c5 c6 order stepsAt doubts_4 weights rows metEver bowedTo isStale bowCount doubtCount_4 seenBows likeliest mostSayingsSo bsize bcells ssize scells dsize dcells people rule believed) → va_S A s.heap H locs → lv_has ls 4 [(0, .ref n0), (1, .int x1_4), (2, .int u_2), (3, .int x3_4)] → W p l e rm_X2_bowsOfDoubts s m args below meth c H locs 0 0 Q (F0 m 32 ls []) := by
          intro H locs ls hP hD hS hl 
          refine lv_iinc (v := (x3_4 + (1 : Int32))) (lv' := [(3, .int (x3_4 + (1 : Int32))), (0, .ref n0), (1, .int x1_4), (2, .int u_2)]) hx hb dX2_bowsOfDoubts_32 hl (k := 3) rfl rfl (by decide) rfl (fun ls hl => ?_)
          refine lv_goto (tgt := 4) hx hb dX2_bowsOfDoubts_35 (by decide) ?_
          exact ih h hP hD hS (lv_sub hl [1, 2, 3, 0] rfl) JK_4
        have h := e_2
        clear e_2
        refine lv_icmp_ne (tgt := 32) hx hb dX2_bowsOfDoubts_18 (by decide) (fun c_2 => ?_) (fun c_2 => ?_)
        · have h := ifn c_2 h
          obtain rfl := Option.some.inj h
          exact J_2 hP hD hS (lv_sub hl [0, 1, 2, 3] rfl)
        · have h := ifp c_2 h
          refine lv_iload_n hx hb dX2_bowsOfDoubts_21 rfl (lv_at hl 2 rfl) ?_
          refine lv_iconst (v := (1 : Int32)) hx hb dX2_bowsOfDoubts_22 (by decide) ?_
          refine lv_aload_n hx hb dX2_bowsOfDoubts_23 rfl (lv_at hl 0 rfl) ?_
          refine va_get (D := G) (ci := 2) (v := .ref n3) (C := RX2) (T := TX2) (N := 14) hx hb hts hin_X2 hown hK hP 0 rfl rfl 3 (by decide) fk_18 (fun _ h9 => h9) rfl dX2_bowsOfDoubts_24 ?_
          refine lv_iload_n hx hb dX2_bowsOfDoubts_27 rfl (lv_at hl 3 rfl) ?_
          obtain ⟨i_3, h⟩ := gd_some h
          refine va_iald hx hb hK hP 3 0 rfl rfl (ix_in i_3) dX2_bowsOfDoubts_28 ?_
          refine lv_ishl hx hb dX2_bowsOfDoubts_29 ?_
          refine lv_ior hx hb dX2_bowsOfDoubts_30 ?_
          refine lv_istore_n (lv' := [(2, .int (x2_4 ||| ((1 : Int32) <<< ((doubts_4 x3_4.toNatClampNeg) &&& 31)))), (0, .ref n0), (1, .int x1_4), (3, .int x3_4)]) hx hb dX2_bowsOfDoubts_31 rfl hl (by decide) rfl (fun ls hl => ?_)
          obtain rfl := Option.some.inj h
          exact J_2 hP hD hS (lv_sub hl [1, 2, 0, 3] rfl)
  obtain ⟨u_4, e_4, h⟩ := bd_some h
  refine L_4 _ e_4 hP hD hS (lv_sub hl [2, 3, 1, 0] rfl) ?_
  intro H locs ls hP hD hS hl
  refine lv_iload_n hx hb dX2_bowsOfDoubts_38 rfl (lv_at hl 0 rfl) ?_
  obtain rfl := Option.some.inj h
  exact hRet hP hD hS dX2_bowsOfDoubts_39
abbrev rm_X2_bowsMadeIn : Room := { frames := 1, cells := 0, slots := 0, locals := 23 }
theorem hd_X2_bowsMadeIn : yX2_bowsMadeIn.cls = RX2 ∧ yX2_bowsMadeIn.cls ≠ "java/lang/invoke/MethodHandle" ∧ yX2_bowsMadeIn.cls ≠ "java/lang/invoke/VarHandle" ∧ (parseMethodDescriptor yX2_bowsMadeIn.desc).map (fun d => d.parameters.length) = some 1 := by decide +kernel
set_option maxHeartbeats 4000000 in
set_option maxRecDepth 100000 in
theorem c_X2_bowsMadeIn {l : Launch} {G : va_G} {ca : Nat → ClassId} {ev : Nat → Nat} {n0 n1 n2 n3 n4 n5 n6 n7 c0 c1 c2 c3 c4 c5 c6 : Nat} {order : (Nat → Int32)} {stepsAt : (Nat → Int32)} {doubts : (Nat → Int32)} {weights : (Nat → Int32)} {rows : (Nat → Int32)} {metEver : (Nat → Int32)} {bowedTo : (Nat → Int32)} {isStale : Int32} {bowCount : Int32} {doubtCount : Int32} {seenBows : Int32} {likeliest : Int32} {mostSayingsSo : Int32} {bsize : Int32} {bcells : (Nat → Int32)} {ssize : Int32} {scells : (Nat → Int32)} {dsize : Int32} {dcells : (Nat → Int32)} {people : Int32} {rule : Int32} {believed : Int32} {a1 : Int32} {N : Nat} {res : Int32} (h : f_X2_bowsMadeIn N doubts doubtCount seenBows a1 = some res) : CtI l yX2_bowsMadeIn wsX2_bowsMadeIn rm_X2_bowsMadeIn G ca ev [.ref n0, .int a1] (wN ca ev n0 n1 n2 n3 n4 n5 n6 n7 c0 c1 c2 c3 c4 c5 c6 order stepsAt doubts weights rows metEver bowedTo isStale bowCount doubtCount seenBows likeliest mostSayingsSo bsize bcells ssize scells dsize dcells people rule believed) (wN ca ev n0 n1 n2 n3 n4 n5 n6 n7 c0 c1 c2 c3 c4 c5 c6 order stepsAt doubts weights rows metEver bowedTo isStale bowCount doubtCount seenBows likeliest mostSayingsSo bsize bcells ssize scells dsize dcells people rule believed) res := by
  unfold f_X2_bowsMadeIn at h
  refine en_i (by decide) rfl (Nat.le_of_ble_eq_true rfl) ?_
  intro p e s m args below meth c A Q H locs ls hx hb hml hown hts hA hP hK hD hE hS hl hRet
  have hown : s.vm.findClass RX2 = some m.cls := hown
  have hl : lv_has ls 2 [(0, .ref n0), (1, .int a1)] := hl
  have hin_X2 : ∀ w ∈ u_ws RX2 TX2 14, w ∈ wsX2_bowsMadeIn := fun w h9 => List.mem_cons_of_mem _ (List.mem_append_right _ h9)
  have fk_44 := hts (.fieldLink RX2 44 "MaskBows$Nights" "seenBows" "I") (by decide +kernel)
  refine lv_aload_n hx hb dX2_bowsMadeIn_0 rfl (lv_at hl 0 rfl) ?_
  refine va_get (D := G) (ci := 2) (v := .int seenBows) (C := RX2) (T := TX2) (N := 14) hx hb hts hin_X2 hown hK hP 0 rfl rfl 11 (by decide) fk_44 (fun _ h9 => h9) rfl dX2_bowsMadeIn_1 ?_
  refine lv_aload_n hx hb dX2_bowsMadeIn_4 rfl (lv_at hl 0 rfl) ?_
  refine lv_iload_n hx hb dX2_bowsMadeIn_5 rfl (lv_at hl 1 rfl) ?_
  obtain ⟨u_1, e_1, h⟩ := bd_some h
  refine cm_Vi (As := [.int a1]) (rest := [.int seenBows]) ⟨hx, hb, hml, hown, hts⟩ (c_X2_bowsOfDoubts (ca := ca) (ev := ev) (n0 := n0) (n1 := n1) (n2 := n2) (n3 := n3) (n4 := n4) (n5 := n5) (n6 := n6) (n7 := n7) (c0 := c0) (c1 := c1) (c2 := c2) (c3 := c3) (c4 := c4) (c5 := c5) (c6 := c6) (order := order) (stepsAt := stepsAt) (doubts := doubts) (weights := weights) (rows := rows) (metEver := metEver) (bowedTo := bowedTo) (isStale := isStale) (bowCount := bowCount) (doubtCount := doubtCount) (seenBows := seenBows) (likeliest := likeliest) (mostSayingsSo := mostSayingsSo) (bsize := bsize) (bcells := bcells) (ssize := ssize) (scells := scells) (dsize := dsize) (dcells := dcells) (people := people) (rule := rule) (believed := believed) e_1) (cwV 1 hts gX2_bowsMadeIn_X2_bowsOfDoubts rfl rfl rfl hd_X2_bowsOfDoubts ⟨Nat.le_of_ble_eq_true rfl, Nat.le_of_ble_eq_true rfl⟩) hK hP hD hS hA hE (q0 := 0) (ci := 2) rfl rfl rfl rfl hl.1 rfl (Nat.le_of_ble_eq_true rfl) dX2_bowsMadeIn_6 ⟨Nat.zero_le _, Nat.zero_le _⟩ (fun H locs hP hD hS => ?_)
  refine lv_ior hx hb dX2_bowsMadeIn_9 ?_
  obtain rfl := Option.some.inj h
  exact hRet hP hD hS dX2_bowsMadeIn_10
abbrev rm_X2_noteBow : Room := { frames := 0, cells := 0, slots := 0, locals := 0 }
theorem hd_X2_noteBow : yX2_noteBow.cls = RX2 ∧ yX2_noteBow.cls ≠ "java/lang/invoke/MethodHandle" ∧ yX2_noteBow.cls ≠ "java/lang/invoke/VarHandle" ∧ (parseMethodDescriptor yX2_noteBow.desc).map (fun d => d.parameters.length) = some 2 := by decide +kernel
set_option maxHeartbeats 4000000 in
set_option maxRecDepth 100000 in
theorem c_X2_noteBow {l : Launch} {G : va_G} {ca : Nat → ClassId} {ev : Nat → Nat} {n0 n1 n2 n3 n4 n5 n6 n7 c0 c1 c2 c3 c4 c5 c6 : Nat} {order : (Nat → Int32)} {stepsAt : (Nat → Int32)} {doubts : (Nat → Int32)} {weights : (Nat → Int32)} {rows : (Nat → Int32)} {metEver : (Nat → Int32)} {bowedTo : (Nat → Int32)} {isStale : Int32} {bowCount : Int32} {doubtCount : Int32} {seenBows : Int32} {likeliest : Int32} {mostSayingsSo : Int32} {bsize : Int32} {bcells : (Nat → Int32)} {ssize : Int32} {scells : (Nat → Int32)} {dsize : Int32} {dcells : (Nat → Int32)} {people : Int32} {rule : Int32} {believed : Int32} {a1 : Int32} {a2 : Int32} {res : Int32 × (Nat → Int32)} (h : f_X2_noteBow bowedTo a1 a2 = some res) : CtI l yX2_noteBow wsX2_noteBow rm_X2_noteBow G ca ev [.ref n0, .int a1, .int a2] (wN ca ev n0 n1 n2 n3 n4 n5 n6 n7 c0 c1 c2 c3 c4 c5 c6 order stepsAt doubts weights rows metEver bowedTo isStale bowCount doubtCount seenBows likeliest mostSayingsSo bsize bcells ssize scells dsize dcells people rule believed) (wN ca ev n0 n1 n2 n3 n4 n5 n6 n7 c0 c1 c2 c3 c4 c5 c6 order stepsAt doubts weights rows metEver res.2 isStale bowCount doubtCount seenBows likeliest mostSayingsSo bsize bcells ssize scells dsize dcells people rule believed) res.1 := by
  unfold f_X2_noteBow at h
  refine en_z (by decide) rfl (Nat.le_of_ble_eq_true rfl) ?_
  intro p e s m args below meth c A Q H locs ls hx hb hml hown hts hA hP hK hD hE hS hl hRet
  have hown : s.vm.findClass RX2 = some m.cls := hown
  have hl : lv_has ls 4 [(0, .ref n0), (1, .int a1), (2, .int a2)] := hl
  have hin_X2 : ∀ w ∈ u_ws RX2 TX2 14, w ∈ wsX2_noteBow := fun w h9 => List.mem_cons_of_mem _ (List.mem_append_right _ h9)
  have fk_30 := hts (.fieldLink RX2 30 "MaskBows$Nights" "bowedTo" "[I") (by decide +kernel)
  refine lv_aload_n hx hb dX2_noteBow_0 rfl (lv_at hl 0 rfl) ?_
  refine va_get (D := G) (ci := 2) (v := .ref n7) (C := RX2) (T := TX2) (N := 14) hx hb hts hin_X2 hown hK hP 0 rfl rfl 7 (by decide) fk_30 (fun _ h9 => h9) rfl dX2_noteBow_1 ?_
  refine lv_iload_n hx hb dX2_noteBow_4 rfl (lv_at hl 1 rfl) ?_
  obtain ⟨i_1, h⟩ := gd_some h
  refine va_iald hx hb hK hP 7 0 rfl rfl (ix_in i_1) dX2_noteBow_5 ?_
  refine lv_iload_n hx hb dX2_noteBow_6 rfl (lv_at hl 2 rfl) ?_
  refine lv_ishr hx hb dX2_noteBow_7 ?_
  refine lv_iconst (v := (1 : Int32)) hx hb dX2_noteBow_8 (by decide) ?_
  refine lv_iand hx hb dX2_noteBow_9 ?_
  refine lv_iconst (v := (1 : Int32)) hx hb dX2_noteBow_10 (by decide) ?_
  obtain ⟨u_2, e_2, h⟩ := bd_some h
  have J_2 : ∀ {H : Heap} {locs : List Loc} {ls : Array Slot}, va_P G vwCl (wN ca ev n0 n1 n2 n3 n4 n5 n6 n7 c0 c1 c2 c3 c4 c5 c6 order stepsAt doubts weights rows metEver bowedTo isStale bowCount doubtCount seenBows likeliest mostSayingsSo bsize bcells ssize scells dsize dcells people rule believed) H → va_D A (wN ca ev n0 n1 n2 n3 n4 n5 n6 n7 c0 c1 c2 c3 c4 c5 c6 order stepsAt doubts weights rows metEver bowedTo isStale bowCount doubtCount seenBows likeliest mostSayingsSo bsize bcells ssize scells dsize dcells people rule believed) → va_S A s.heap H locs → lv_has ls 4 [(0, .ref n0), (1, .int a1), (2, .int a2)] → (u_2 = 0 ∨ u_2 = 1) → W p l e rm_X2_noteBow s m args below meth c H locs 0 0 Q (F0 m 19 ls [.int u_2]) := by
    intro H locs ls hP hD hS hl zj_2_0
    refine lv_istore_n (lv' := [(3, .int u_2), (0, .ref n0), (1, .int a1), (2, .int a2)]) hx hb dX2_noteBow_19 rfl hl (by decide) rfl (fun ls hl => ?_)
    refine lv_aload_n hx hb dX2_noteBow_20 rfl (lv_at hl 1 rfl) ?_
    refine va_get (D := G) (ci := 2) (v := .ref n7) (C := RX2) (T := TX2) (N := 14) hx hb hts hin_X2 hown hK hP 0 rfl rfl 7 (by decide) fk_30 (fun _ h9 => h9) rfl dX2_noteBow_21 ?_
    refine lv_iload_n hx hb dX2_noteBow_24 rfl (lv_at hl 2 rfl) ?_
    refine lv_dup2_11 hx hb dX2_noteBow_25 rfl rfl ?_
    refine va_iald hx hb hK hP 7 0 rfl rfl (ix_in i_1) dX2_noteBow_26 ?_
    refine lv_iconst (v := (1 : Int32)) hx hb dX2_noteBow_27 (by decide) ?_
    refine lv_iload_n hx hb dX2_noteBow_28 rfl (lv_at hl 3 rfl) ?_
    refine lv_ishl hx hb dX2_noteBow_29 ?_
    refine lv_ior hx hb dX2_noteBow_30 ?_
    refine va_iast hx hb hK hP hD hS 7 0 rfl rfl (ix_in i_1) dX2_noteBow_31 (fun H locs hP hD hS => ?_)
    have hP : va_P G vwCl (wN ca ev n0 n1 n2 n3 n4 n5 n6 n7 c0 c1 c2 c3 c4 c5 c6 order stepsAt doubts weights rows metEver (upd bowedTo a1.toNatClampNeg ((bowedTo a1.toNatClampNeg) ||| ((1 : Int32) <<< (a2 &&& 31)))) isStale bowCount doubtCount seenBows likeliest mostSayingsSo bsize bcells ssize scells dsize dcells people rule believed) H := hP
    have hD : va_D A (wN ca ev n0 n1 n2 n3 n4 n5 n6 n7 c0 c1 c2 c3 c4 c5 c6 order stepsAt doubts weights rows metEver (upd bowedTo a1.toNatClampNeg ((bowedTo a1.toNatClampNeg) ||| ((1 : Int32) <<< (a2 &&& 31)))) isStale bowCount doubtCount seenBows likeliest mostSayingsSo bsize bcells ssize scells dsize dcells people rule believed) := hD
    refine lv_aload_n hx hb dX2_noteBow_32 rfl (lv_at hl 1 rfl) ?_
    refine va_get (D := G) (ci := 2) (v := .ref n7) (C := RX2) (T := TX2) (N := 14) hx hb hts hin_X2 hown hK hP 0 rfl rfl 7 (by decide) fk_30 (fun _ h9 => h9) rfl dX2_noteBow_33 ?_
    refine lv_iload_n hx hb dX2_noteBow_36 rfl (lv_at hl 3 rfl) ?_
    refine lv_dup2_11 hx hb dX2_noteBow_37 rfl rfl ?_
    obtain ⟨i_3, h⟩ := gd_some h
    refine va_iald hx hb hK hP 7 0 rfl rfl (ix_in i_3) dX2_noteBow_38 ?_
    refine lv_iconst (v := (1 : Int32)) hx hb dX2_noteBow_39 (by decide) ?_
    refine lv_iload_n hx hb dX2_noteBow_40 rfl (lv_at hl 2 rfl) ?_
    refine lv_ishl hx hb dX2_noteBow_41 ?_
    refine lv_ior hx hb dX2_noteBow_42 ?_
    refine va_iast hx hb hK hP hD hS 7 0 rfl rfl (ix_in i_3) dX2_noteBow_43 (fun H locs hP hD hS => ?_)
    have hP : va_P G vwCl (wN ca ev n0 n1 n2 n3 n4 n5 n6 n7 c0 c1 c2 c3 c4 c5 c6 order stepsAt doubts weights rows metEver (upd (upd bowedTo a1.toNatClampNeg ((bowedTo a1.toNatClampNeg) ||| ((1 : Int32) <<< (a2 &&& 31)))) a2.toNatClampNeg (((upd bowedTo a1.toNatClampNeg ((bowedTo a1.toNatClampNeg) ||| ((1 : Int32) <<< (a2 &&& 31)))) a2.toNatClampNeg) ||| ((1 : Int32) <<< (a1 &&& 31)))) isStale bowCount doubtCount seenBows likeliest mostSayingsSo bsize bcells ssize scells dsize dcells people rule believed) H := hP
    have hD : va_D A (wN ca ev n0 n1 n2 n3 n4 n5 n6 n7 c0 c1 c2 c3 c4 c5 c6 order stepsAt doubts weights rows metEver (upd (upd bowedTo a1.toNatClampNeg ((bowedTo a1.toNatClampNeg) ||| ((1 : Int32) <<< (a2 &&& 31)))) a2.toNatClampNeg (((upd bowedTo a1.toNatClampNeg ((bowedTo a1.toNatClampNeg) ||| ((1 : Int32) <<< (a2 &&& 31)))) a2.toNatClampNeg) ||| ((1 : Int32) <<< (a1 &&& 31)))) isStale bowCount doubtCount seenBows likeliest mostSayingsSo bsize bcells ssize scells dsize dcells people rule believed) := hD
    refine lv_iload_n hx hb dX2_noteBow_44 rfl (lv_at hl 0 rfl) ?_
    obtain rfl := Option.some.inj h
    exact hRet hP hD hS zj_2_0 dX2_noteBow_45
  have h := e_2
  clear e_2
  refine lv_icmp_ne (tgt := 18) hx hb dX2_noteBow_11 (by decide) (fun c_2 => ?_) (fun c_2 => ?_)
  · have h := ifn c_2 h
    refine lv_iconst (v := (0 : Int32)) hx hb dX2_noteBow_18 (by decide) ?_
    obtain rfl := Option.some.inj h
    exact J_2 hP hD hS (lv_sub hl [0, 1, 2] rfl) zb_0
  · have h := ifp c_2 h
    refine lv_iconst (v := (1 : Int32)) hx hb dX2_noteBow_14 (by decide) ?_
    refine lv_goto (tgt := 19) hx hb dX2_noteBow_15 (by decide) ?_
    obtain rfl := Option.some.inj h
    exact J_2 hP hD hS (lv_sub hl [0, 1, 2] rfl) zb_1
