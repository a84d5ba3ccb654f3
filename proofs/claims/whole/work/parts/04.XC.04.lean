abbrev rm_X2_metBy : Room := { frames := 0, cells := 0, slots := 0, locals := 0 }
theorem hd_X2_metBy : yX2_metBy.cls = RX2 ∧ yX2_metBy.cls ≠ "java/lang/invoke/MethodHandle" ∧ yX2_metBy.cls ≠ "java/lang/invoke/VarHandle" ∧ (parseMethodDescriptor yX2_metBy.desc).map (fun d => d.parameters.length) = some 1 := by decide +kernel
set_option maxHeartbeats 4000000 in
set_option maxRecDepth 100000 in
theorem c_X2_metBy {l : Launch} {G : va_G} {ca : Nat → ClassId} {ev : Nat → Nat} {n0 n1 n2 n3 n4 n5 n6 n7 c0 c1 c2 c3 c4 c5 c6 : Nat} {order : (Nat → Int32)} {stepsAt : (Nat → Int32)} {doubts : (Nat → Int32)} {weights : (Nat → Int32)} {rows : (Nat → Int32)} {metEver : (Nat → Int32)} {bowedTo : (Nat → Int32)} {isStale : Int32} {bowCount : Int32} {doubtCount : Int32} {seenBows : Int32} {likeliest : Int32} {mostSayingsSo : Int32} {bsize : Int32} {bcells : (Nat → Int32)} {ssize : Int32} {scells : (Nat → Int32)} {dsize : Int32} {dcells : (Nat → Int32)} {people : Int32} {rule : Int32} {believed : Int32} {a1 : Int32} {res : Int32} (h : f_X2_metBy metEver a1 = some res) : CtI l yX2_metBy wsX2_metBy rm_X2_metBy G ca ev [.ref n0, .int a1] (wN ca ev n0 n1 n2 n3 n4 n5 n6 n7 c0 c1 c2 c3 c4 c5 c6 order stepsAt doubts weights rows metEver bowedTo isStale bowCount doubtCount seenBows likeliest mostSayingsSo bsize bcells ssize scells dsize dcells people rule believed) (wN ca ev n0 n1 n2 n3 n4 n5 n6 n7 c0 c1 c2 c3 c4 c5 c6 order stepsAt doubts weights rows metEver bowedTo isStale bowCount doubtCount seenBows likeliest mostSayingsSo bsize bcells ssize scells dsize dcells people rule believed) res := by
  unfold f_X2_metBy at h
  refine en_i (by decide) rfl (Nat.le_of_ble_eq_true rfl) ?_
  intro p e s m args below meth c A Q H locs ls hx hb hml hown hts hA hP hK hD hE hS hl hRet
  have hown : s.vm.findClass RX2 = some m.cls := hown
  have hl : lv_has ls 2 [(0, .ref n0), (1, .int a1)] := hl
  have hin_X2 : ∀ w ∈ u_ws RX2 TX2 14, w ∈ wsX2_metBy := fun w h9 => List.mem_cons_of_mem _ (List.mem_append_right _ h9)
  have fk_27 := hts (.fieldLink RX2 27 "MaskBows$Nights" "metEver" "[I") (by decide +kernel)
  refine lv_iload_n hx hb dX2_metBy_0 rfl (lv_at hl 1 rfl) ?_
  refine lv_if_lt (tgt := 19) hx hb dX2_metBy_1 (by decide) (fun c_1 => ?_) (fun c_1 => ?_)
  · have h := ifp c_1 h
    refine lv_iconst (v := (0 : Int32)) hx hb dX2_metBy_19 (by decide) ?_
    obtain rfl := Option.some.inj h
    exact hRet hP hD hS dX2_metBy_20
  · have h := ifn c_1 h
    refine lv_iload_n hx hb dX2_metBy_4 rfl (lv_at hl 1 rfl) ?_
    refine lv_bipush (v := (8 : Int32)) hx hb dX2_metBy_5 (by decide) ?_
    refine lv_icmp_ge (tgt := 19) hx hb dX2_metBy_7 (by decide) (fun c_2 => ?_) (fun c_2 => ?_)
    · have h := ifp c_2 h
      refine lv_iconst (v := (0 : Int32)) hx hb dX2_metBy_19 (by decide) ?_
      obtain rfl := Option.some.inj h
      exact hRet hP hD hS dX2_metBy_20
    · have h := ifn c_2 h
      refine lv_aload_n hx hb dX2_metBy_10 rfl (lv_at hl 0 rfl) ?_
      refine va_get (D := G) (ci := 2) (v := .ref n6) (C := RX2) (T := TX2) (N := 14) hx hb hts hin_X2 hown hK hP 0 rfl rfl 6 (by decide) fk_27 (fun _ h9 => h9) rfl dX2_metBy_11 ?_
      refine lv_iload_n hx hb dX2_metBy_14 rfl (lv_at hl 1 rfl) ?_
      obtain ⟨i_3, h⟩ := gd_some h
      refine va_iald hx hb hK hP 6 0 rfl rfl (ix_in i_3) dX2_metBy_15 ?_
      refine lv_goto (tgt := 20) hx hb dX2_metBy_16 (by decide) ?_
      obtain rfl := Option.some.inj h
      exact hRet hP hD hS dX2_metBy_20
abbrev rm_X2_firstLie : Room := { frames := 1, cells := 0, slots := 0, locals := 20 }
theorem hd_X2_firstLie : yX2_firstLie.cls = RX2 ∧ yX2_firstLie.cls ≠ "java/lang/invoke/MethodHandle" ∧ yX2_firstLie.cls ≠ "java/lang/invoke/VarHandle" ∧ (parseMethodDescriptor yX2_firstLie.desc).map (fun d => d.parameters.length) = some 0 := by decide +kernel
set_option maxHeartbeats 4000000 in
set_option maxRecDepth 100000 in
theorem c_X2_firstLie {l : Launch} {G : va_G} {ca : Nat → ClassId} {ev : Nat → Nat} {n0 n1 n2 n3 n4 n5 n6 n7 c0 c1 c2 c3 c4 c5 c6 : Nat} {order : (Nat → Int32)} {stepsAt : (Nat → Int32)} {doubts : (Nat → Int32)} {weights : (Nat → Int32)} {rows : (Nat → Int32)} {metEver : (Nat → Int32)} {bowedTo : (Nat → Int32)} {isStale : Int32} {bowCount : Int32} {doubtCount : Int32} {seenBows : Int32} {likeliest : Int32} {mostSayingsSo : Int32} {bsize : Int32} {bcells : (Nat → Int32)} {ssize : Int32} {scells : (Nat → Int32)} {dsize : Int32} {dcells : (Nat → Int32)} {people : Int32} {rule : Int32} {believed : Int32}  {res : Int32} (h : f_X2_firstLie mostSayingsSo ssize = some res) : CtI l yX2_firstLie wsX2_firstLie rm_X2_firstLie G ca ev [.ref n0] (wN ca ev n0 n1 n2 n3 n4 n5 n6 n7 c0 c1 c2 c3 c4 c5 c6 order stepsAt doubts weights rows metEver bowedTo isStale bowCount doubtCount seenBows likeliest mostSayingsSo bsize bcells ssize scells dsize dcells people rule believed) (wN ca ev n0 n1 n2 n3 n4 n5 n6 n7 c0 c1 c2 c3 c4 c5 c6 order stepsAt doubts weights rows metEver bowedTo isStale bowCount doubtCount seenBows likeliest mostSayingsSo bsize bcells ssize scells dsize dcells people rule believed) res := by
  unfold f_X2_firstLie at h
  refine en_i (by decide) rfl (Nat.le_of_ble_eq_true rfl) ?_
  intro p e s m args below meth c A Q H locs ls hx hb hml hown hts hA hP hK hD hE hS hl hRet
  have hown : s.vm.findClass RX2 = some m.cls := hown
  have hl : lv_has ls 1 [(0, .ref n0)] := hl
  have hin_X0 : ∀ w ∈ u_ws RX0 TX0 6, w ∈ wsX2_firstLie := fun w h9 => List.mem_cons_of_mem _ (List.mem_append_left _ (List.mem_append_right _ h9))
  have hin_X2 : ∀ w ∈ u_ws RX2 TX2 14, w ∈ wsX2_firstLie := fun w h9 => List.mem_cons_of_mem _ (List.mem_append_left _ (List.mem_append_left _ (List.mem_append_right _ h9)))
  have fk_122 := va_Nw.use (A := args) rfl (hE.1 ("MaskBows$Nights", 122, "MaskBows$Carnival", "sayings", "LMaskBows$Rows;", "MaskBows") (by decide +kernel))
  have fk_50 := hts (.fieldLink RX2 50 "MaskBows$Nights" "mostSayingsSo" "I") (by decide +kernel)
  have fk_53 := hts (.fieldLink RX2 53 "MaskBows$Nights" "carnival" "LMaskBows$Carnival;") (by decide +kernel)
  refine lv_aload_n hx hb dX2_firstLie_0 rfl (lv_at hl 0 rfl) ?_
  refine va_get (D := G) (ci := 2) (v := .int mostSayingsSo) (C := RX2) (T := TX2) (N := 14) hx hb hts hin_X2 hown hK hP 0 rfl rfl 13 (by decide) fk_50 (fun _ h9 => h9) rfl dX2_firstLie_1 ?_
  refine lv_aload_n hx hb dX2_firstLie_4 rfl (lv_at hl 0 rfl) ?_
  refine va_get (D := G) (ci := 2) (v := .ref c0) (C := RX2) (T := TX2) (N := 14) hx hb hts hin_X2 hown hK hP 0 rfl rfl 0 (by decide) fk_53 (fun _ h9 => h9) rfl dX2_firstLie_5 ?_
  refine va_getN (D := G) (ci := 0) (v := .ref c3) (C := RX0) (T := TX0) (N := 6) hx hb hts hin_X0 hown hK hP 8 rfl rfl 1 (by decide) fk_122 (fun _ h9 => h9) rfl dX2_firstLie_8 ?_
  obtain ⟨u_1, e_1, h⟩ := bd_some h
  refine cl_Vi (As := []) (rest := [.int mostSayingsSo]) (Wn := (wN ca ev n0 n1 n2 n3 n4 n5 n6 n7 c0 c1 c2 c3 c4 c5 c6 order stepsAt doubts weights rows metEver bowedTo isStale bowCount doubtCount seenBows likeliest mostSayingsSo bsize bcells ssize scells dsize dcells people rule believed)) ⟨hx, hb, hml, hown, hts⟩ (c_X4_size (ca := ca) (ev := ev) (r0 := c3) (r1 := c4) (limit := (10 : Int32)) (width := (4 : Int32)) (size := ssize) (cells := scells) (nc := 40) e_1) (cwV 0 hts gX2_firstLie_X4_size rfl rfl rfl hd_X4_size ⟨Nat.le_of_ble_eq_true rfl, Nat.le_of_ble_eq_true rfl⟩) hK hP hD hS hA hE wp_12 (q0 := 0) (ci := 4) rfl rfl rfl rfl hl.1 rfl (Nat.le_of_ble_eq_true rfl) dX2_firstLie_11 ⟨Nat.zero_le _, Nat.zero_le _⟩ (fun H locs hP hD hS => ?_)
  refine lv_icmp_ge (tgt := 24) hx hb dX2_firstLie_14 (by decide) (fun c_2 => ?_) (fun c_2 => ?_)
  · have h := ifp c_2 h
    refine lv_iconst (v := (-1 : Int32)) hx hb dX2_firstLie_24 (by decide) ?_
    obtain rfl := Option.some.inj h
    exact hRet hP hD hS dX2_firstLie_25
  · have h := ifn c_2 h
    refine lv_aload_n hx hb dX2_firstLie_17 rfl (lv_at hl 0 rfl) ?_
    refine va_get (D := G) (ci := 2) (v := .int mostSayingsSo) (C := RX2) (T := TX2) (N := 14) hx hb hts hin_X2 hown hK hP 0 rfl rfl 13 (by decide) fk_50 (fun _ h9 => h9) rfl dX2_firstLie_18 ?_
    refine lv_goto (tgt := 25) hx hb dX2_firstLie_21 (by decide) ?_
    obtain rfl := Option.some.inj h
    exact hRet hP hD hS dX2_firstLie_25
abbrev rm_X2_oddsOfMade : Room := { frames := 2, cells := 0, slots := 0, locals := 41 }
theorem hd_X2_oddsOfMade : yX2_oddsOfMade.cls = RX2 ∧ yX2_oddsOfMade.cls ≠ "java/lang/invoke/MethodHandle" ∧ yX2_oddsOfMade.cls ≠ "java/lang/invoke/VarHandle" ∧ (parseMethodDescriptor yX2_oddsOfMade.desc).map (fun d => d.parameters.length) = some 1 := by decide +kernel
set_option maxHeartbeats 4000000 in
set_option maxRecDepth 100000 in
theorem c_X2_oddsOfMade {l : Launch} {G : va_G} {ca : Nat → ClassId} {ev : Nat → Nat} {n0 n1 n2 n3 n4 n5 n6 n7 c0 c1 c2 c3 c4 c5 c6 : Nat} {order : (Nat → Int32)} {stepsAt : (Nat → Int32)} {doubts : (Nat → Int32)} {weights : (Nat → Int32)} {rows : (Nat → Int32)} {metEver : (Nat → Int32)} {bowedTo : (Nat → Int32)} {isStale : Int32} {bowCount : Int32} {doubtCount : Int32} {seenBows : Int32} {likeliest : Int32} {mostSayingsSo : Int32} {bsize : Int32} {bcells : (Nat → Int32)} {ssize : Int32} {scells : (Nat → Int32)} {dsize : Int32} {dcells : (Nat → Int32)} {people : Int32} {rule : Int32} {believed : Int32} {a1 : Int32} {N : Nat} {res : Int64} (h : f_X2_oddsOfMade N weights doubtCount a1 = some res) : CtL l yX2_oddsOfMade wsX2_oddsOfMade rm_X2_oddsOfMade G ca ev [.ref n0, .int a1] (wN ca ev n0 n1 n2 n3 n4 n5 n6 n7 c0 c1 c2 c3 c4 c5 c6 order stepsAt doubts weights rows metEver bowedTo isStale bowCount doubtCount seenBows likeliest mostSayingsSo bsize bcells ssize scells dsize dcells people rule believed) (wN ca ev n0 n1 n2 n3 n4 n5 n6 n7 c0 c1 c2 c3 c4 c5 c6 order stepsAt doubts weights rows metEver bowedTo isStale bowCount doubtCount seenBows likeliest mostSayingsSo bsize bcells ssize scells dsize dcells people rule believed) res := by
  unfold f_X2_oddsOfMade at h
  refine en_l (by decide) rfl (Nat.le_of_ble_eq_true rfl) ?_
  intro p e s m args below meth c A Q H locs ls hx hb hml hown hts hA hP hK hD hE hS hl hRet
  have hown : s.vm.findClass RX2 = some m.cls := hown
  have hl : lv_has ls 5 [(0, .ref n0), (1, .int a1)] := hl
  refine lv_lconst (v := (0 : Int64)) hx hb dX2_oddsOfMade_0 (by decide) ?_
  refine lv_lstore_n (lv' := [(2, .long (0 : Int64)), (0, .ref n0), (1, .int a1)]) hx hb dX2_oddsOfMade_1 rfl hl (by decide) rfl (fun ls hl => ?_)
  refine lv_iconst (v := (0 : Int32)) hx hb dX2_oddsOfMade_2 (by decide) ?_
  refine lv_istore (lv' := [(4, .int (0 : Int32)), (2, .long (0 : Int64)), (0, .ref n0), (1, .int a1)]) hx hb dX2_oddsOfMade_3 hl (by decide) rfl (fun ls hl => ?_)
  have L_5 : ∀ {x1_5 : Int32} {weights_5 : (Nat → Int32)} {doubtCount_5 : Int32} (n_5 : Nat) {x2_5 : Int64} {x4_5 : Int32} {uL_5 : Int64} {H : Heap} {locs : List Loc} {ls : Array Slot}, f_X2_oddsOfMade_5 x1_5 weights_5 doubtCount_5  n_5 x2_5 x4_5 = some uL_5 → va_P G vwCl (wN ca ev n0 n1 n2 n3 n4 n5 n6 n7 c0 c1 c2 c3 c4 c5 c6 order stepsAt doubts weights_5 rows metEver bowedTo isStale bowCount doubtCount_5 seenBows likeliest mostSayingsSo bsize bcells ssize scells dsize dcells people rule believed) H → va_D A (wN ca ev n0 n1 n2 n3 n4 n5 n6 n7 c0 c1 c2 c3 c4 c5 c6 order stepsAt doubts weights_5 rows metEver bowedTo isStale bowCount doubtCount_5 seenBows likeliest mostSayingsSo bsize bcells ssize scells dsize dcells people rule believed) → va_S A s.heap H locs → lv_has ls 5 [(0, .ref n0), (1, .int x1_5), (2, .long x2_5), (4, .int x4_5)] → (∀ {H : Heap} {locs : List Loc} {ls : Array Slot}, va_P G vwCl (wN ca ev n0 n1 n2 n3 n4 n5 n6 n7 c0 c1 c2 c3 c4 c5 c6 order stepsAt doubts weights_5 rows metEver bowedTo isStale bowCount doubtCount_5 seenBows likeliest mostSayingsSo bsize bcells ssize scells dsize dcells people rule believed) H → va_D A (wN ca ev n0 n1 n2 n3 n4 n5 n6 n7 c0 c1 c2 c3 c4 c5 c6 order stepsAt doubts weights_5 rows metEver bowedTo isStale bowCount doubtCount_5 seenBows likeliest mostSayingsSo bsize bcells ssize scells dsize dcells people rule believed) → va_S A s.heap H locs → lv_has ls 5 [(2, .long uL_5)] → W p l e rm_X2_oddsOfMade s m args below meth c H locs 0 0 Q (F0 m 40 ls [])) → W p l e rm_X2_oddsOfMade s m args below meth c H locs 0 0 Q (F0 m 5 ls []) := by
    intro x1_5 weights_5 doubtCount_5 n_5
    induction n_5 with
    | zero => intro x2_5 x4_5 uL_5 H locs ls h; exact absurd h (by rw [f_X2_oddsOfMade_5]; exact fun z => nomatch z)
    | succ n_5 ih =>
      intro x2_5 x4_5 uL_5 H locs ls h hP hD hS hl JK_5
      rw [f_X2_oddsOfMade_5] at h
      refine lv_iload hx hb dX2_oddsOfMade_5 (lv_at hl 3 rfl) ?_
      refine lv_aload_n hx hb dX2_oddsOfMade_7 rfl (lv_at hl 0 rfl) ?_
      obtain ⟨u_1, e_1, h⟩ := bd_some h
      refine cm_Vi (As := []) (rest := [.int x4_5]) ⟨hx, hb, hml, hown, hts⟩ (c_X2_size (ca := ca) (ev := ev) (n0 := n0) (n1 := n1) (n2 := n2) (n3 := n3) (n4 := n4) (n5 := n5) (n6 := n6) (n7 := n7) (c0 := c0) (c1 := c1) (c2 := c2) (c3 := c3) (c4 := c4) (c5 := c5) (c6 := c6) (order := order) (stepsAt := stepsAt) (doubts := doubts) (weights := weights_5) (rows := rows) (metEver := metEver) (bowedTo := bowedTo) (isStale := isStale) (bowCount := bowCount) (doubtCount := doubtCount_5) (seenBows := seenBows) (likeliest := likeliest) (mostSayingsSo := mostSayingsSo) (bsize := bsize) (bcells := bcells) (ssize := ssize) (scells := scells) (dsize := dsize) (dcells := dcells) (people := people) (rule := rule) (believed := believed) e_1) (cwV 0 hts gX2_oddsOfMade_X2_size rfl rfl rfl hd_X2_size ⟨Nat.le_of_ble_eq_true rfl, Nat.le_of_ble_eq_true rfl⟩) hK hP hD hS hA hE (q0 := 0) (ci := 2) rfl rfl rfl rfl hl.1 rfl (Nat.le_of_ble_eq_true rfl) dX2_oddsOfMade_8 ⟨Nat.zero_le _, Nat.zero_le _⟩ (fun H locs hP hD hS => ?_)
      refine lv_icmp_ge (tgt := 40) hx hb dX2_oddsOfMade_11 (by decide) (fun c_2 => ?_) (fun c_2 => ?_)
      · have h := ifp c_2 h
        obtain rfl := Option.some.inj h
        exact JK_5 hP hD hS (lv_sub hl [2] rfl)
      · have h := ifn c_2 h
        refine lv_iload hx hb dX2_oddsOfMade_14 (lv_at hl 3 rfl) ?_
        refine lv_iload_n hx hb dX2_oddsOfMade_16 rfl (lv_at hl 1 rfl) ?_
        refine lv_ishr hx hb dX2_oddsOfMade_17 ?_
        refine lv_iconst (v := (1 : Int32)) hx hb dX2_oddsOfMade_18 (by decide) ?_
        refine lv_iand hx hb dX2_oddsOfMade_19 ?_
        refine lv_iconst (v := (1 : Int32)) hx hb dX2_oddsOfMade_20 (by decide) ?_
        obtain ⟨u_3, e_3, h⟩ := bd_some h
        have J_3 : ∀ {H : Heap} {locs : List Loc} {ls : Array Slot}, va_P G vwCl (wN ca ev n0 n1 n2 n3 n4 n5 n6 n7 c0 c1 c2 c3 c4 c5 c6 order stepsAt doubts weights_5 rows metEver bowedTo isStale bowCount doubtCount_5 seenBows likeliest mostSayingsSo bsize bcells ssize scells dsize dcells people rule believed) H → va_D A (wN ca ev n0 n1 n2 n3 n4 n5 n6 n7 c0 c1 c2 c3 c4 c5 c6 order stepsAt doubts weights_5 rows metEver bowedTo isStale bowCount doubtCount_5 seenBows likeliest mostSayingsSo bsize bcells ssize scells dsize dcells people rule believed) → va_S A s.heap H locs → lv_has ls 5 [(0, .ref n0), (1, .int x1_5), (2, .long u_3), (4, .int x4_5)] → W p l e rm_X2_oddsOfMade s m args below meth c H locs 0 0 Q (F0 m 34 ls []) := by
          intro H locs ls hP hD hS hl 
          refine lv_iinc (v := (x4_5 + (1 : Int32))) (lv' := [(4, .int (x4_5 + (1 : Int32))), (0, .ref n0), (1, .int x1_5), (2, .long u_3)]) hx hb dX2_oddsOfMade_34 hl (k := 3) rfl rfl (by decide) rfl (fun ls hl => ?_)
          refine lv_goto (tgt := 5) hx hb dX2_oddsOfMade_37 (by decide) ?_
          exact ih h hP hD hS (lv_sub hl [1, 2, 3, 0] rfl) JK_5
        have h := e_3
        clear e_3
        refine lv_icmp_ne (tgt := 34) hx hb dX2_oddsOfMade_21 (by decide) (fun c_3 => ?_) (fun c_3 => ?_)
        · have h := ifn c_3 h
          obtain rfl := Option.some.inj h
          exact J_3 hP hD hS (lv_sub hl [0, 1, 2, 3] rfl)
        · have h := ifp c_3 h
          refine lv_lload_n hx hb dX2_oddsOfMade_24 rfl (lv_at hl 2 rfl) ?_
          refine lv_aload_n hx hb dX2_oddsOfMade_25 rfl (lv_at hl 0 rfl) ?_
          refine lv_iload hx hb dX2_oddsOfMade_26 (lv_at hl 3 rfl) ?_
          obtain ⟨u_4, e_4, h⟩ := bd_some h
          refine cm_Vi (As := [.int x4_5]) (rest := [.long x2_5]) ⟨hx, hb, hml, hown, hts⟩ (c_X2_weight (ca := ca) (ev := ev) (n0 := n0) (n1 := n1) (n2 := n2) (n3 := n3) (n4 := n4) (n5 := n5) (n6 := n6) (n7 := n7) (c0 := c0) (c1 := c1) (c2 := c2) (c3 := c3) (c4 := c4) (c5 := c5) (c6 := c6) (order := order) (stepsAt := stepsAt) (doubts := doubts) (weights := weights_5) (rows := rows) (metEver := metEver) (bowedTo := bowedTo) (isStale := isStale) (bowCount := bowCount) (doubtCount := doubtCount_5) (seenBows := seenBows) (likeliest := likeliest) (mostSayingsSo := mostSayingsSo) (bsize := bsize) (bcells := bcells) (ssize := ssize) (scells := scells) (dsize := dsize) (dcells := dcells) (people := people) (rule := rule) (believed := believed) e_4) (cwV 1 hts gX2_oddsOfMade_X2_weight rfl rfl rfl hd_X2_weight ⟨Nat.le_of_ble_eq_true rfl, Nat.le_of_ble_eq_true rfl⟩) hK hP hD hS hA hE (q0 := 0) (ci := 2) rfl rfl rfl rfl hl.1 rfl (Nat.le_of_ble_eq_true rfl) dX2_oddsOfMade_28 ⟨Nat.zero_le _, Nat.zero_le _⟩ (fun H locs hP hD hS => ?_)
          refine lv_i2l (v := u_4.toInt64) hx hb dX2_oddsOfMade_31 rfl ?_
          refine lv_ladd hx hb dX2_oddsOfMade_32 ?_
          refine lv_lstore_n (lv' := [(2, .long (x2_5 + u_4.toInt64)), (0, .ref n0), (1, .int x1_5), (4, .int x4_5)]) hx hb dX2_oddsOfMade_33 rfl hl (by decide) rfl (fun ls hl => ?_)
          obtain rfl := Option.some.inj h
          exact J_3 hP hD hS (lv_sub hl [1, 2, 0, 3] rfl)
  obtain ⟨u_5, e_5, h⟩ := bd_some h
  refine L_5 _ e_5 hP hD hS (lv_sub hl [2, 3, 1, 0] rfl) ?_
  intro H locs ls hP hD hS hl
  refine lv_lload_n hx hb dX2_oddsOfMade_40 rfl (lv_at hl 0 rfl) ?_
  obtain rfl := Option.some.inj h
  exact hRet hP hD hS dX2_oddsOfMade_41
abbrev rm_X2_mostOpenDoubt : Room := { frames := 3, cells := 0, slots := 0, locals := 65 }
theorem hd_X2_mostOpenDoubt : yX2_mostOpenDoubt.cls = RX2 ∧ yX2_mostOpenDoubt.cls ≠ "java/lang/invoke/MethodHandle" ∧ yX2_mostOpenDoubt.cls ≠ "java/lang/invoke/VarHandle" ∧ (parseMethodDescriptor yX2_mostOpenDoubt.desc).map (fun d => d.parameters.length) = some 0 := by decide +kernel
set_option maxHeartbeats 4000000 in
set_option maxRecDepth 100000 in
theorem c_X2_mostOpenDoubt {l : Launch} {G : va_G} {ca : Nat → ClassId} {ev : Nat → Nat} {n0 n1 n2 n3 n4 n5 n6 n7 c0 c1 c2 c3 c4 c5 c6 : Nat} {order : (Nat → Int32)} {stepsAt : (Nat → Int32)} {doubts : (Nat → Int32)} {weights : (Nat → Int32)} {rows : (Nat → Int32)} {metEver : (Nat → Int32)} {bowedTo : (Nat → Int32)} {isStale : Int32} {bowCount : Int32} {doubtCount : Int32} {seenBows : Int32} {likeliest : Int32} {mostSayingsSo : Int32} {bsize : Int32} {bcells : (Nat → Int32)} {ssize : Int32} {scells : (Nat → Int32)} {dsize : Int32} {dcells : (Nat → Int32)} {people : Int32} {rule : Int32} {believed : Int32}  {N : Nat} {res : Int32} (h : f_X2_mostOpenDoubt N doubts weights doubtCount likeliest = some res) : CtI l yX2_mostOpenDoubt wsX2_mostOpenDoubt rm_X2_mostOpenDoubt G ca ev [.ref n0] (wN ca ev n0 n1 n2 n3 n4 n5 n6 n7 c0 c1 c2 c3 c4 c5 c6 order stepsAt doubts weights rows metEver bowedTo isStale bowCount doubtCount seenBows likeliest mostSayingsSo bsize bcells ssize scells dsize dcells people rule believed) (wN ca ev n0 n1 n2 n3 n4 n5 n6 n7 c0 c1 c2 c3 c4 c5 c6 order stepsAt doubts weights rows metEver bowedTo isStale bowCount doubtCount seenBows likeliest mostSayingsSo bsize bcells ssize scells dsize dcells people rule believed) res := by
  unfold f_X2_mostOpenDoubt at h
  refine en_i (by decide) rfl (Nat.le_of_ble_eq_true rfl) ?_
  intro p e s m args below meth c A Q H locs ls hx hb hml hown hts hA hP hK hD hE hS hl hRet
  have hown : s.vm.findClass RX2 = some m.cls := hown
  have hl : lv_has ls 11 [(0, .ref n0)] := hl
  have hin_X2 : ∀ w ∈ u_ws RX2 TX2 14, w ∈ wsX2_mostOpenDoubt := fun w h9 => List.mem_cons_of_mem _ (List.mem_append_right _ h9)
  have fk_18 := hts (.fieldLink RX2 18 "MaskBows$Nights" "doubts" "[I") (by decide +kernel)
  have fk_41 := hts (.fieldLink RX2 41 "MaskBows$Nights" "doubtCount" "I") (by decide +kernel)
  refine lv_iconst (v := (-1 : Int32)) hx hb dX2_mostOpenDoubt_0 (by decide) ?_
  refine lv_istore_n (lv' := [(1, .int (-1 : Int32)), (0, .ref n0)]) hx hb dX2_mostOpenDoubt_1 rfl hl (by decide) rfl (fun ls hl => ?_)
  refine lv_lconst (v := (0 : Int64)) hx hb dX2_mostOpenDoubt_2 (by decide) ?_
  refine lv_lstore_n (lv' := [(2, .long (0 : Int64)), (1, .int (-1 : Int32)), (0, .ref n0)]) hx hb dX2_mostOpenDoubt_3 rfl hl (by decide) rfl (fun ls hl => ?_)
  refine lv_aload_n hx hb dX2_mostOpenDoubt_4 rfl (lv_at hl 2 rfl) ?_
  obtain ⟨u_1, e_1, h⟩ := bd_some h
  refine cm_Vl (As := []) (rest := []) ⟨hx, hb, hml, hown, hts⟩ (c_X2_allWeights (ca := ca) (ev := ev) (n0 := n0) (n1 := n1) (n2 := n2) (n3 := n3) (n4 := n4) (n5 := n5) (n6 := n6) (n7 := n7) (c0 := c0) (c1 := c1) (c2 := c2) (c3 := c3) (c4 := c4) (c5 := c5) (c6 := c6) (order := order) (stepsAt := stepsAt) (doubts := doubts) (weights := weights) (rows := rows) (metEver := metEver) (bowedTo := bowedTo) (isStale := isStale) (bowCount := bowCount) (doubtCount := doubtCount) (seenBows := seenBows) (likeliest := likeliest) (mostSayingsSo := mostSayingsSo) (bsize := bsize) (bcells := bcells) (ssize := ssize) (scells := scells) (dsize := dsize) (dcells := dcells) (people := people) (rule := rule) (believed := believed) e_1) (cwV 0 hts gX2_mostOpenDoubt_X2_allWeights rfl rfl rfl hd_X2_allWeights ⟨Nat.le_of_ble_eq_true rfl, Nat.le_of_ble_eq_true rfl⟩) hK hP hD hS hA hE (q0 := 0) (ci := 2) rfl rfl rfl rfl hl.1 rfl (Nat.le_of_ble_eq_true rfl) dX2_mostOpenDoubt_5 ⟨Nat.zero_le _, Nat.zero_le _⟩ (fun H locs hP hD hS => ?_)
  refine lv_lstore (lv' := [(4, .long u_1), (2, .long (0 : Int64)), (1, .int (-1 : Int32)), (0, .ref n0)]) hx hb dX2_mostOpenDoubt_8 hl (by decide) rfl (fun ls hl => ?_)
  refine lv_iconst (v := (0 : Int32)) hx hb dX2_mostOpenDoubt_10 (by decide) ?_
  refine lv_istore (lv' := [(6, .int (0 : Int32)), (4, .long u_1), (2, .long (0 : Int64)), (1, .int (-1 : Int32)), (0, .ref n0)]) hx hb dX2_mostOpenDoubt_11 hl (by decide) rfl (fun ls hl => ?_)
  have L_13 : ∀ {x4_13 : Int64} {doubts_13 : (Nat → Int32)} {weights_13 : (Nat → Int32)} {doubtCount_13 : Int32} {likeliest_13 : Int32} (n_13 : Nat) {x1_13 : Int32} {x2_13 : Int64} {x6_13 : Int32} {uL_13 : Int32} {H : Heap} {locs : List Loc} {ls : Array Slot}, f_X2_mostOpenDoubt_13 N x4_13 doubts_13 weights_13 doubtCount_13 likeliest_13  n_13 x1_13 x2_13 x6_13 = some uL_13 → va_P G vwCl (wN ca ev n0 n1 n2 n3 n4 n5 n6 n7 c0 c1 c2 c3 c4 c5 c6 order stepsAt doubts_13 weights_13 rows metEver bowedTo isStale bowCount doubtCount_13 seenBows likeliest_13 mostSayingsSo bsize bcells ssize scells dsize dcells people rule believed) H → va_D A (wN ca ev n0 n1 n2 n3 n4 n5 n6 n7 c0 c1 c2 c3 c4 c5 c6 order stepsAt doubts_13 weights_13 rows metEver bowedTo isStale bowCount doubtCount_13 seenBows likeliest_13 mostSayingsSo bsize bcells ssize scells dsize dcells people rule believed) → va_S A s.heap H locs → lv_has ls 11 [(0, .ref n0), (1, .int x1_13), (2, .long x2_13), (4, .long x4_13), (6, .int x6_13)] → (∀ {H : Heap} {locs : List Loc} {ls : Array Slot}, va_P G vwCl (wN ca ev n0 n1 n2 n3 n4 n5 n6 n7 c0 c1 c2 c3 c4 c5 c6 order stepsAt doubts_13 weights_13 rows metEver bowedTo isStale bowCount doubtCount_13 seenBows likeliest_13 mostSayingsSo bsize bcells ssize scells dsize dcells people rule believed) H → va_D A (wN ca ev n0 n1 n2 n3 n4 n5 n6 n7 c0 c1 c2 c3 c4 c5 c6 order stepsAt doubts_13 weights_13 rows metEver bowedTo isStale bowCount doubtCount_13 seenBows likeliest_13 mostSayingsSo bsize bcells ssize scells dsize dcells people rule believed) → va_S A s.heap H locs → lv_has ls 11 [(1, .int uL_13)] → W p l e rm_X2_mostOpenDoubt s m args below meth c H locs 0 0 Q (F0 m 78 ls [])) → W p l e rm_X2_mostOpenDoubt s m args below meth c H locs 0 0 Q (F0 m 13 ls []) := by
    intro x4_13 doubts_13 weights_13 doubtCount_13 likeliest_13 n_13
    induction n_13 with
    | zero => intro x1_13 x2_13 x6_13 uL_13 H locs ls h; exact absurd h (by rw [f_X2_mostOpenDoubt_13]; exact fun z => nomatch z)
    | succ n_13 ih =>
      intro x1_13 x2_13 x6_13 uL_13 H locs ls h hP hD hS hl JK_13
      rw [f_X2_mostOpenDoubt_13] at h
      refine lv_iload hx hb dX2_mostOpenDoubt_13 (lv_at hl 4 rfl) ?_
      refine lv_aload_n hx hb dX2_mostOpenDoubt_15 rfl (lv_at hl 0 rfl) ?_
      refine va_get (D := G) (ci := 2) (v := .int doubtCount_13) (C := RX2) (T := TX2) (N := 14) hx hb hts hin_X2 hown hK hP 0 rfl rfl 10 (by decide) fk_41 (fun _ h9 => h9) rfl dX2_mostOpenDoubt_16 ?_
      refine lv_icmp_ge (tgt := 78) hx hb dX2_mostOpenDoubt_19 (by decide) (fun c_2 => ?_) (fun c_2 => ?_)
      · have h := ifp c_2 h
        obtain rfl := Option.some.inj h
        exact JK_13 hP hD hS (lv_sub hl [1] rfl)
      · have h := ifn c_2 h
        refine lv_aload_n hx hb dX2_mostOpenDoubt_22 rfl (lv_at hl 0 rfl) ?_
        obtain ⟨u_3, e_3, h⟩ := bd_some h
        refine cm_Vi (As := []) (rest := []) ⟨hx, hb, hml, hown, hts⟩ (c_X2_someHolds (ca := ca) (ev := ev) (n0 := n0) (n1 := n1) (n2 := n2) (n3 := n3) (n4 := n4) (n5 := n5) (n6 := n6) (n7 := n7) (c0 := c0) (c1 := c1) (c2 := c2) (c3 := c3) (c4 := c4) (c5 := c5) (c6 := c6) (order := order) (stepsAt := stepsAt) (doubts := doubts_13) (weights := weights_13) (rows := rows) (metEver := metEver) (bowedTo := bowedTo) (isStale := isStale) (bowCount := bowCount) (doubtCount := doubtCount_13) (seenBows := seenBows) (likeliest := likeliest_13) (mostSayingsSo := mostSayingsSo) (bsize := bsize) (bcells := bcells) (ssize := ssize) (scells := scells) (dsize := dsize) (dcells := dcells) (people := people) (rule := rule) (believed := believed) e_3) (cwV 0 hts gX2_mostOpenDoubt_X2_someHolds rfl rfl rfl hd_X2_someHolds ⟨Nat.le_of_ble_eq_true rfl, Nat.le_of_ble_eq_true rfl⟩) hK hP hD hS hA hE (q0 := 0) (ci := 2) rfl rfl rfl rfl hl.1 rfl (Nat.le_of_ble_eq_true rfl) dX2_mostOpenDoubt_23 ⟨Nat.zero_le _, Nat.zero_le _⟩ (fun H locs hP hD hS => ?_)
        refine lv_if_eq (tgt := 78) hx hb dX2_mostOpenDoubt_26 (by decide) (fun c_4 => ?_) (fun c_4 => ?_)
        · have h := ifp c_4 h
          obtain rfl := Option.some.inj h
          exact JK_13 hP hD hS (lv_sub hl [1] rfl)
        · have h := ifn c_4 h
          refine lv_aload_n hx hb dX2_mostOpenDoubt_29 rfl (lv_at hl 0 rfl) ?_
          refine lv_iload hx hb dX2_mostOpenDoubt_30 (lv_at hl 4 rfl) ?_
          obtain ⟨u_5, e_5, h⟩ := bd_some h
          refine cm_Vl (As := [.int x6_13]) (rest := []) ⟨hx, hb, hml, hown, hts⟩ (c_X2_oddsOfMade (ca := ca) (ev := ev) (n0 := n0) (n1 := n1) (n2 := n2) (n3 := n3) (n4 := n4) (n5 := n5) (n6 := n6) (n7 := n7) (c0 := c0) (c1 := c1) (c2 := c2) (c3 := c3) (c4 := c4) (c5 := c5) (c6 := c6) (order := order) (stepsAt := stepsAt) (doubts := doubts_13) (weights := weights_13) (rows := rows) (metEver := metEver) (bowedTo := bowedTo) (isStale := isStale) (bowCount := bowCount) (doubtCount := doubtCount_13) (seenBows := seenBows) (likeliest := likeliest_13) (mostSayingsSo := mostSayingsSo) (bsize := bsize) (bcells := bcells) (ssize := ssize) (scells := scells) (dsize := dsize) (dcells := dcells) (people := people) (rule := rule) (believed := believed) e_5) (cwV 1 hts gX2_mostOpenDoubt_X2_oddsOfMade rfl rfl rfl hd_X2_oddsOfMade ⟨Nat.le_of_ble_eq_true rfl, Nat.le_of_ble_eq_true rfl⟩) hK hP hD hS hA hE (q0 := 0) (ci := 2) rfl rfl rfl rfl hl.1 rfl (Nat.le_of_ble_eq_true rfl) dX2_mostOpenDoubt_32 ⟨Nat.zero_le _, Nat.zero_le _⟩ (fun H locs hP hD hS => ?_)
          refine lv_lstore (lv' := [(7, .long u_5), (0, .ref n0), (1, .int x1_13), (2, .long x2_13), (4, .long x4_13), (6, .int x6_13)]) hx hb dX2_mostOpenDoubt_35 hl (by decide) rfl (fun ls hl => ?_)
          refine lv_lload hx hb dX2_mostOpenDoubt_37 (lv_at hl 0 rfl) ?_
          refine lv_lload hx hb dX2_mostOpenDoubt_39 (lv_at hl 4 rfl) ?_
          refine lv_lload hx hb dX2_mostOpenDoubt_41 (lv_at hl 0 rfl) ?_
          refine lv_lsub hx hb dX2_mostOpenDoubt_43 ?_
          refine va_mmax_long hx hb (hml.trans hl.1.symm) hown (hts (.methodLink RX2 137 Lib.MathLoose.max_long.x) (by decide +kernel)) (hts (.static Lib.MathLoose.max_long.x) (by decide +kernel)) (hts (.initialized "java/lang/Math") (by decide +kernel)) (hts (.code Lib.MathLoose.max_long.x Lib.MathLoose.max_long.code 4 (some .long)) (by decide +kernel)) (Nat.le_of_ble_eq_true rfl) (Nat.le_of_ble_eq_true rfl) (Nat.zero_le _) (Nat.zero_le _) dX2_mostOpenDoubt_44 ?_
          refine lv_lstore (lv' := [(9, .long (if (x4_13 - u_5) < u_5 then u_5 else (x4_13 - u_5))), (7, .long u_5), (0, .ref n0), (1, .int x1_13), (2, .long x2_13), (4, .long x4_13), (6, .int x6_13)]) hx hb dX2_mostOpenDoubt_47 hl (by decide) rfl (fun ls hl => ?_)
          refine lv_iload_n hx hb dX2_mostOpenDoubt_49 rfl (lv_at hl 3 rfl) ?_
          refine lv_iconst (v := (-1 : Int32)) hx hb dX2_mostOpenDoubt_50 (by decide) ?_
          obtain ⟨u_6, e_6, h⟩ := bd_some h
          have J_6 : ∀ {H : Heap} {locs : List Loc} {ls : Array Slot}, va_P G vwCl (wN ca ev n0 n1 n2 n3 n4 n5 n6 n7 c0 c1 c2 c3 c4 c5 c6 order stepsAt doubts_13 weights_13 rows metEver bowedTo isStale bowCount doubtCount_13 seenBows likeliest_13 mostSayingsSo bsize bcells ssize scells dsize dcells people rule believed) H → va_D A (wN ca ev n0 n1 n2 n3 n4 n5 n6 n7 c0 c1 c2 c3 c4 c5 c6 order stepsAt doubts_13 weights_13 rows metEver bowedTo isStale bowCount doubtCount_13 seenBows likeliest_13 mostSayingsSo bsize bcells ssize scells dsize dcells people rule believed) → va_S A s.heap H locs → lv_has ls 11 [(0, .ref n0), (1, .int u_6.1), (2, .long u_6.2), (4, .long x4_13), (6, .int x6_13)] → W p l e rm_X2_mostOpenDoubt s m args below meth c H locs 0 0 Q (F0 m 72 ls []) := by
            intro H locs ls hP hD hS hl 
            refine lv_iinc (v := (x6_13 + (1 : Int32))) (lv' := [(6, .int (x6_13 + (1 : Int32))), (0, .ref n0), (1, .int u_6.1), (2, .long u_6.2), (4, .long x4_13)]) hx hb dX2_mostOpenDoubt_72 hl (k := 4) rfl rfl (by decide) rfl (fun ls hl => ?_)
            refine lv_goto (tgt := 13) hx hb dX2_mostOpenDoubt_75 (by decide) ?_
            exact ih h hP hD hS (lv_sub hl [1, 2, 3, 4, 0] rfl) JK_13
          have h := e_6
          clear e_6
          refine lv_icmp_eq (tgt := 61) hx hb dX2_mostOpenDoubt_51 (by decide) (fun c_6 => ?_) (fun c_6 => ?_)
          · have h := ifp c_6 h
            refine lv_aload_n hx hb dX2_mostOpenDoubt_61 rfl (lv_at hl 2 rfl) ?_
            refine va_get (D := G) (ci := 2) (v := .ref n3) (C := RX2) (T := TX2) (N := 14) hx hb hts hin_X2 hown hK hP 0 rfl rfl 3 (by decide) fk_18 (fun _ h9 => h9) rfl dX2_mostOpenDoubt_62 ?_
            refine lv_iload hx hb dX2_mostOpenDoubt_65 (lv_at hl 6 rfl) ?_
            obtain ⟨i_7, h⟩ := gd_some h
            refine va_iald hx hb hK hP 3 0 rfl rfl (ix_in i_7) dX2_mostOpenDoubt_67 ?_
            refine lv_istore_n (lv' := [(1, .int (doubts_13 x6_13.toNatClampNeg)), (9, .long (if (x4_13 - u_5) < u_5 then u_5 else (x4_13 - u_5))), (7, .long u_5), (0, .ref n0), (2, .long x2_13), (4, .long x4_13), (6, .int x6_13)]) hx hb dX2_mostOpenDoubt_68 rfl hl (by decide) rfl (fun ls hl => ?_)
            refine lv_lload hx hb dX2_mostOpenDoubt_69 (lv_at hl 1 rfl) ?_
            refine lv_lstore_n (lv' := [(2, .long (if (x4_13 - u_5) < u_5 then u_5 else (x4_13 - u_5))), (1, .int (doubts_13 x6_13.toNatClampNeg)), (9, .long (if (x4_13 - u_5) < u_5 then u_5 else (x4_13 - u_5))), (7, .long u_5), (0, .ref n0), (4, .long x4_13), (6, .int x6_13)]) hx hb dX2_mostOpenDoubt_71 rfl hl (by decide) rfl (fun ls hl => ?_)
            obtain rfl := Option.some.inj h
            exact J_6 hP hD hS (lv_sub hl [4, 1, 0, 5, 6] rfl)
          · have h := ifn c_6 h
            refine lv_lload hx hb dX2_mostOpenDoubt_54 (lv_at hl 0 rfl) ?_
            refine lv_lload_n hx hb dX2_mostOpenDoubt_56 rfl (lv_at hl 4 rfl) ?_
            refine W.lcmp hx hb dX2_mostOpenDoubt_57 ?_
            refine lv_if_ge (tgt := 72) hx hb dX2_mostOpenDoubt_58 (by decide) (fun c_8 => ?_) (fun c_8 => ?_)
            · have h := ifp c_8 h
              obtain rfl := Option.some.inj h
              exact J_6 hP hD hS (lv_sub hl [2, 3, 4, 5, 6] rfl)
            · have h := ifn c_8 h
              refine lv_aload_n hx hb dX2_mostOpenDoubt_61 rfl (lv_at hl 2 rfl) ?_
              refine va_get (D := G) (ci := 2) (v := .ref n3) (C := RX2) (T := TX2) (N := 14) hx hb hts hin_X2 hown hK hP 0 rfl rfl 3 (by decide) fk_18 (fun _ h9 => h9) rfl dX2_mostOpenDoubt_62 ?_
              refine lv_iload hx hb dX2_mostOpenDoubt_65 (lv_at hl 6 rfl) ?_
              obtain ⟨i_9, h⟩ := gd_some h
              refine va_iald hx hb hK hP 3 0 rfl rfl (ix_in i_9) dX2_mostOpenDoubt_67 ?_
              refine lv_istore_n (lv' := [(1, .int (doubts_13 x6_13.toNatClampNeg)), (9, .long (if (x4_13 - u_5) < u_5 then u_5 else (x4_13 - u_5))), (7, .long u_5), (0, .ref n0), (2, .long x2_13), (4, .long x4_13), (6, .int x6_13)]) hx hb dX2_mostOpenDoubt_68 rfl hl (by decide) rfl (fun ls hl => ?_)
              refine lv_lload hx hb dX2_mostOpenDoubt_69 (lv_at hl 1 rfl) ?_
              refine lv_lstore_n (lv' := [(2, .long (if (x4_13 - u_5) < u_5 then u_5 else (x4_13 - u_5))), (1, .int (doubts_13 x6_13.toNatClampNeg)), (9, .long (if (x4_13 - u_5) < u_5 then u_5 else (x4_13 - u_5))), (7, .long u_5), (0, .ref n0), (4, .long x4_13), (6, .int x6_13)]) hx hb dX2_mostOpenDoubt_71 rfl hl (by decide) rfl (fun ls hl => ?_)
              obtain rfl := Option.some.inj h
              exact J_6 hP hD hS (lv_sub hl [4, 1, 0, 5, 6] rfl)
  obtain ⟨u_10, e_10, h⟩ := bd_some h
  refine L_13 _ e_10 hP hD hS (lv_sub hl [4, 3, 2, 1, 0] rfl) ?_
  intro H locs ls hP hD hS hl
  refine lv_iload_n hx hb dX2_mostOpenDoubt_78 rfl (lv_at hl 0 rfl) ?_
  obtain rfl := Option.some.inj h
  exact hRet hP hD hS dX2_mostOpenDoubt_79
abbrev rm_X6_at : Room := { frames := 0, cells := 0, slots := 0, locals := 0 }
theorem hd_X6_at : yX6_at.cls = RX6 ∧ yX6_at.cls ≠ "java/lang/invoke/MethodHandle" ∧ yX6_at.cls ≠ "java/lang/invoke/VarHandle" ∧ (parseMethodDescriptor yX6_at.desc).map (fun d => d.parameters.length) = some 1 := by decide +kernel
set_option maxHeartbeats 4000000 in
set_option maxRecDepth 100000 in
theorem c_X6_at {l : Launch} {G : va_G} {ca : Nat → ClassId} {ev : Nat → Nat} {t0 t1 : Nat} {tbytes : (Nat → Int32)} {tlen : Int32} {a1 : Int32} {res : Int32} (h : f_X6_at tbytes tlen a1 = some res) : CtI l yX6_at wsX6_at rm_X6_at G ca ev [.ref t0, .int a1] (wT ca ev t0 t1 tbytes tlen) (wT ca ev t0 t1 tbytes tlen) res := by
  unfold f_X6_at at h
  refine en_i (by decide) rfl (Nat.le_of_ble_eq_true rfl) ?_
  intro p e s m args below meth c A Q H locs ls hx hb hml hown hts hA hP hK hD hE hS hl hRet
  have hown : s.vm.findClass RX6 = some m.cls := hown
  have hl : lv_has ls 2 [(0, .ref t0), (1, .int a1)] := hl
  have hin_X6 : ∀ w ∈ u_ws RX6 TX6 2, w ∈ wsX6_at := fun w h9 => List.mem_cons_of_mem _ (List.mem_append_right _ h9)
  have fk_15 := hts (.fieldLink RX6 15 "MaskBows$Tape" "length" "I") (by decide +kernel)
  have fk_9 := hts (.fieldLink RX6 9 "MaskBows$Tape" "bytes" "[I") (by decide +kernel)
  refine lv_iload_n hx hb dX6_at_0 rfl (lv_at hl 1 rfl) ?_
  refine lv_if_lt (tgt := 21) hx hb dX6_at_1 (by decide) (fun c_1 => ?_) (fun c_1 => ?_)
  · have h := ifp c_1 h
    refine lv_iconst (v := (-1 : Int32)) hx hb dX6_at_21 (by decide) ?_
    obtain rfl := Option.some.inj h
    exact hRet hP hD hS dX6_at_22
  · have h := ifn c_1 h
    refine lv_iload_n hx hb dX6_at_4 rfl (lv_at hl 1 rfl) ?_
    refine lv_aload_n hx hb dX6_at_5 rfl (lv_at hl 0 rfl) ?_
    refine va_get (D := G) (ci := 6) (v := .int tlen) (C := RX6) (T := TX6) (N := 2) hx hb hts hin_X6 hown hK hP 0 rfl rfl 1 (by decide) fk_15 (fun _ h9 => h9) rfl dX6_at_6 ?_
    refine lv_icmp_ge (tgt := 21) hx hb dX6_at_9 (by decide) (fun c_2 => ?_) (fun c_2 => ?_)
    · have h := ifp c_2 h
      refine lv_iconst (v := (-1 : Int32)) hx hb dX6_at_21 (by decide) ?_
      obtain rfl := Option.some.inj h
      exact hRet hP hD hS dX6_at_22
    · have h := ifn c_2 h
      refine lv_aload_n hx hb dX6_at_12 rfl (lv_at hl 0 rfl) ?_
      refine va_get (D := G) (ci := 6) (v := .ref t1) (C := RX6) (T := TX6) (N := 2) hx hb hts hin_X6 hown hK hP 0 rfl rfl 0 (by decide) fk_9 (fun _ h9 => h9) rfl dX6_at_13 ?_
      refine lv_iload_n hx hb dX6_at_16 rfl (lv_at hl 1 rfl) ?_
      obtain ⟨i_3, h⟩ := gd_some h
      refine va_iald hx hb hK hP 1 0 rfl rfl (ix_in i_3) dX6_at_17 ?_
      refine lv_goto (tgt := 22) hx hb dX6_at_18 (by decide) ?_
      obtain rfl := Option.some.inj h
      exact hRet hP hD hS dX6_at_22
abbrev rm_X6_length : Room := { frames := 0, cells := 0, slots := 0, locals := 0 }
theorem hd_X6_length : yX6_length.cls = RX6 ∧ yX6_length.cls ≠ "java/lang/invoke/MethodHandle" ∧ yX6_length.cls ≠ "java/lang/invoke/VarHandle" ∧ (parseMethodDescriptor yX6_length.desc).map (fun d => d.parameters.length) = some 0 := by decide +kernel
set_option maxHeartbeats 4000000 in
set_option maxRecDepth 100000 in
theorem c_X6_length {l : Launch} {G : va_G} {ca : Nat → ClassId} {ev : Nat → Nat} {t0 t1 : Nat} {tbytes : (Nat → Int32)} {tlen : Int32}  {res : Int32} (h : f_X6_length tlen = some res) : CtI l yX6_length wsX6_length rm_X6_length G ca ev [.ref t0] (wT ca ev t0 t1 tbytes tlen) (wT ca ev t0 t1 tbytes tlen) res := by
  unfold f_X6_length at h
  refine en_i (by decide) rfl (Nat.le_of_ble_eq_true rfl) ?_
  intro p e s m args below meth c A Q H locs ls hx hb hml hown hts hA hP hK hD hE hS hl hRet
  have hown : s.vm.findClass RX6 = some m.cls := hown
  have hl : lv_has ls 1 [(0, .ref t0)] := hl
  have hin_X6 : ∀ w ∈ u_ws RX6 TX6 2, w ∈ wsX6_length := fun w h9 => List.mem_cons_of_mem _ (List.mem_append_right _ h9)
  have fk_15 := hts (.fieldLink RX6 15 "MaskBows$Tape" "length" "I") (by decide +kernel)
  refine lv_aload_n hx hb dX6_length_0 rfl (lv_at hl 0 rfl) ?_
  refine va_get (D := G) (ci := 6) (v := .int tlen) (C := RX6) (T := TX6) (N := 2) hx hb hts hin_X6 hown hK hP 0 rfl rfl 1 (by decide) fk_15 (fun _ h9 => h9) rfl dX6_length_1 ?_
  obtain rfl := Option.some.inj h
  exact hRet hP hD hS dX6_length_4
abbrev rm_X4_has : Room := { frames := 0, cells := 0, slots := 0, locals := 0 }
theorem hd_X4_has : yX4_has.cls = RX4 ∧ yX4_has.cls ≠ "java/lang/invoke/MethodHandle" ∧ yX4_has.cls ≠ "java/lang/invoke/VarHandle" ∧ (parseMethodDescriptor yX4_has.desc).map (fun d => d.parameters.length) = some 1 := by decide +kernel
set_option maxHeartbeats 4000000 in
set_option maxRecDepth 100000 in
theorem c_X4_has {l : Launch} {G : va_G} {ca : Nat → ClassId} {ev : Nat → Nat} {r0 r1 : Nat} {limit : Int32} {width : Int32} {size : Int32} {cells : (Nat → Int32)} {nc : Nat} {a1 : Int32} {res : Int32} (h : f_X4_has size a1 = some res) : CtI l yX4_has wsX4_has rm_X4_has G ca ev [.ref r0, .int a1] (wR ca ev r0 r1 limit width size cells nc) (wR ca ev r0 r1 limit width size cells nc) res := by
  unfold f_X4_has at h
  refine en_z (by decide) rfl (Nat.le_of_ble_eq_true rfl) ?_
  intro p e s m args below meth c A Q H locs ls hx hb hml hown hts hA hP hK hD hE hS hl hRet
  have hown : s.vm.findClass RX4 = some m.cls := hown
  have hl : lv_has ls 2 [(0, .ref r0), (1, .int a1)] := hl
  have hin_X4 : ∀ w ∈ u_ws RX4 TX4 4, w ∈ wsX4_has := fun w h9 => List.mem_cons_of_mem _ (List.mem_append_right _ h9)
  have fk_9 := hts (.fieldLink RX4 9 "MaskBows$Rows" "size" "I") (by decide +kernel)
  refine lv_iload_n hx hb dX4_has_0 rfl (lv_at hl 1 rfl) ?_
  refine lv_if_lt (tgt := 16) hx hb dX4_has_1 (by decide) (fun c_1 => ?_) (fun c_1 => ?_)
  · have h := ifp c_1 h
    refine lv_iconst (v := (0 : Int32)) hx hb dX4_has_16 (by decide) ?_
    obtain rfl := Option.some.inj h
    exact hRet hP hD hS zb_0 dX4_has_17
  · have h := ifn c_1 h
    refine lv_iload_n hx hb dX4_has_4 rfl (lv_at hl 1 rfl) ?_
    refine lv_aload_n hx hb dX4_has_5 rfl (lv_at hl 0 rfl) ?_
    refine va_get (D := G) (ci := 4) (v := .int size) (C := RX4) (T := TX4) (N := 4) hx hb hts hin_X4 hown hK hP 0 rfl rfl 3 (by decide) fk_9 (fun _ h9 => h9) rfl dX4_has_6 ?_
    refine lv_icmp_ge (tgt := 16) hx hb dX4_has_9 (by decide) (fun c_2 => ?_) (fun c_2 => ?_)
    · have h := ifp c_2 h
      refine lv_iconst (v := (0 : Int32)) hx hb dX4_has_16 (by decide) ?_
      obtain rfl := Option.some.inj h
      exact hRet hP hD hS zb_0 dX4_has_17
    · have h := ifn c_2 h
      refine lv_iconst (v := (1 : Int32)) hx hb dX4_has_12 (by decide) ?_
      refine lv_goto (tgt := 17) hx hb dX4_has_13 (by decide) ?_
      obtain rfl := Option.some.inj h
      exact hRet hP hD hS zb_1 dX4_has_17
abbrev rm_X5_begin : Room := { frames := 1, cells := 0, slots := 0, locals := 23 }
theorem hd_X5_begin : yX5_begin.cls = RX5 ∧ yX5_begin.cls ≠ "java/lang/invoke/MethodHandle" ∧ yX5_begin.cls ≠ "java/lang/invoke/VarHandle" ∧ (parseMethodDescriptor yX5_begin.desc).map (fun d => d.parameters.length) = some 2 := by decide +kernel
set_option maxHeartbeats 4000000 in
set_option maxRecDepth 100000 in
theorem c_X5_begin {l : Launch} {G : va_G} {ca : Nat → ClassId} {ev : Nat → Nat} {s0 s1 : Nat} {nums : (Nat → Int64)} {bits : Int32} {len : Int32} {a1 : Int32} {a2 : Int32} {N : Nat} {res : (Nat → Int64) × Int32 × Int32} (h : f_X5_begin N nums bits len a1 a2 = some res) : CtV l yX5_begin wsX5_begin rm_X5_begin G ca ev [.ref s0, .int a1, .int a2] (wS ca ev s0 s1 nums bits len) (wS ca ev s0 s1 res.1 res.2.1 res.2.2) := by
  unfold f_X5_begin at h
  refine en_v (by decide) rfl (Nat.le_of_ble_eq_true rfl) ?_
  intro p e s m args below meth c A Q H locs ls hx hb hml hown hts hA hP hK hD hE hS hl hRet
  have hown : s.vm.findClass RX5 = some m.cls := hown
  have hl : lv_has ls 4 [(0, .ref s0), (1, .int a1), (2, .int a2)] := hl
  have hin_X5 : ∀ w ∈ u_ws RX5 TX5 3, w ∈ wsX5_begin := fun w h9 => List.mem_cons_of_mem _ (List.mem_append_right _ h9)
  have fk_15 := hts (.fieldLink RX5 15 "MaskBows$Sheet" "bits" "I") (by decide +kernel)
  have fk_19 := hts (.fieldLink RX5 19 "MaskBows$Sheet" "length" "I") (by decide +kernel)
  have fk_9 := hts (.fieldLink RX5 9 "MaskBows$Sheet" "numbers" "[J") (by decide +kernel)
  refine lv_aload_n hx hb dX5_begin_0 rfl (lv_at hl 0 rfl) ?_
  refine lv_iload_n hx hb dX5_begin_1 rfl (lv_at hl 1 rfl) ?_
  refine va_put (D := G) (ci := 5) (v := .int a1) (ty := .int) (C := RX5) (T := TX5) (N := 3) hx hb hts hin_X5 tyX5 tyX5_ok nmX5 hown hK hP hD hS 0 rfl rfl 1 (by decide) fk_15 (fun _ h9 => h9) rfl (tyX5_ok 1 (by decide)) rfl rfl (Nat.le_of_ble_eq_true rfl) dX5_begin_2 (fun H locs hP hD hS => ?_)
  have hP : va_P G vwCl (wS ca ev s0 s1 nums a1 len) H := hP
  have hD : va_D A (wS ca ev s0 s1 nums a1 len) := hD
  refine lv_aload_n hx hb dX5_begin_5 rfl (lv_at hl 0 rfl) ?_
  refine lv_iload_n hx hb dX5_begin_6 rfl (lv_at hl 1 rfl) ?_
  obtain ⟨u_1, e_1, h⟩ := bd_some h
  have J_1 : ∀ {H : Heap} {locs : List Loc} {ls : Array Slot}, va_P G vwCl (wS ca ev s0 s1 nums a1 len) H → va_D A (wS ca ev s0 s1 nums a1 len) → va_S A s.heap H locs → lv_has ls 4 [(0, .ref s0)] → W p l e rm_X5_begin s m args below meth c H locs 0 0 Q (F0 m 24 ls [.int u_1, .ref s0]) := by
    intro H locs ls hP hD hS hl 
    refine va_put (D := G) (ci := 5) (v := .int u_1) (ty := .int) (C := RX5) (T := TX5) (N := 3) hx hb hts hin_X5 tyX5 tyX5_ok nmX5 hown hK hP hD hS 0 rfl rfl 2 (by decide) fk_19 (fun _ h9 => h9) rfl (tyX5_ok 2 (by decide)) rfl rfl (Nat.le_of_ble_eq_true rfl) dX5_begin_24 (fun H locs hP hD hS => ?_)
    have hP : va_P G vwCl (wS ca ev s0 s1 nums a1 u_1) H := hP
    have hD : va_D A (wS ca ev s0 s1 nums a1 u_1) := hD
    refine lv_iconst (v := (0 : Int32)) hx hb dX5_begin_27 (by decide) ?_
    refine lv_istore_n (lv' := [(3, .int (0 : Int32)), (0, .ref s0)]) hx hb dX5_begin_28 rfl hl (by decide) rfl (fun ls hl => ?_)
    have L_29 : ∀  {len_29 : Int32} (n_29 : Nat) {x3_29 : Int32} {nums_29 : (Nat → Int64)} {uL_29 : (Nat → Int64)} {H : Heap} {locs : List Loc} {ls : Array Slot}, f_X5_begin_29 len_29  n_29 x3_29 nums_29 = some uL_29 → va_P G vwCl (wS ca ev s0 s1 nums_29 a1 len_29) H → va_D A (wS ca ev s0 s1 nums_29 a1 len_29) → va_S A s.heap H locs → lv_has ls 4 [(0, .ref s0), (3, .int x3_29)] → (∀ {H : Heap} {locs : List Loc} {ls : Array Slot}, va_P G vwCl (wS ca ev s0 s1 uL_29 a1 len_29) H → va_D A (wS ca ev s0 s1 uL_29 a1 len_29) → va_S A s.heap H locs → lv_has ls 4 [] → W p l e rm_X5_begin s m args below meth c H locs 0 0 Q (F0 m 50 ls [])) → W p l e rm_X5_begin s m args below meth c H locs 0 0 Q (F0 m 29 ls []) := by
      intro len_29 n_29
      induction n_29 with
      | zero => intro x3_29 nums_29 uL_29 H locs ls h; exact absurd h (by rw [f_X5_begin_29]; exact fun z => nomatch z)
      | succ n_29 ih =>
        intro x3_29 nums_29 uL_29 H locs ls h hP hD hS hl JK_29
        rw [f_X5_begin_29] at h
        refine lv_iload_n hx hb dX5_begin_29 rfl (lv_at hl 1 rfl) ?_
        refine lv_aload_n hx hb dX5_begin_30 rfl (lv_at hl 0 rfl) ?_
        refine va_get (D := G) (ci := 5) (v := .int len_29) (C := RX5) (T := TX5) (N := 3) hx hb hts hin_X5 hown hK hP 0 rfl rfl 2 (by decide) fk_19 (fun _ h9 => h9) rfl dX5_begin_31 ?_
        refine lv_icmp_ge (tgt := 50) hx hb dX5_begin_34 (by decide) (fun c_2 => ?_) (fun c_2 => ?_)
        · have h := ifp c_2 h
          obtain rfl := Option.some.inj h
          exact JK_29 hP hD hS (lv_sub hl [] rfl)
        · have h := ifn c_2 h
          refine lv_aload_n hx hb dX5_begin_37 rfl (lv_at hl 0 rfl) ?_
          refine va_get (D := G) (ci := 5) (v := .ref s1) (C := RX5) (T := TX5) (N := 3) hx hb hts hin_X5 hown hK hP 0 rfl rfl 0 (by decide) fk_9 (fun _ h9 => h9) rfl dX5_begin_38 ?_
          refine lv_iload_n hx hb dX5_begin_41 rfl (lv_at hl 1 rfl) ?_
          refine lv_lconst (v := (0 : Int64)) hx hb dX5_begin_42 (by decide) ?_
          obtain ⟨i_3, h⟩ := gd_some h
          refine va_last hx hb hK hP hD hS 1 1 rfl rfl (ix_in i_3) dX5_begin_43 (fun H locs hP hD hS => ?_)
          have hP : va_P G vwCl (wS ca ev s0 s1 (vp_updL nums_29 x3_29.toNatClampNeg (0 : Int64)) a1 len_29) H := hP
          have hD : va_D A (wS ca ev s0 s1 (vp_updL nums_29 x3_29.toNatClampNeg (0 : Int64)) a1 len_29) := hD
          refine lv_iinc (v := (x3_29 + (1 : Int32))) (lv' := [(3, .int (x3_29 + (1 : Int32))), (0, .ref s0)]) hx hb dX5_begin_44 hl (k := 1) rfl rfl (by decide) rfl (fun ls hl => ?_)
          refine lv_goto (tgt := 29) hx hb dX5_begin_47 (by decide) ?_
          exact ih h hP hD hS (lv_sub hl [1, 0] rfl) JK_29
    obtain ⟨u_4, e_4, h⟩ := bd_some h
    refine L_29 _ e_4 hP hD hS (lv_sub hl [1, 0] rfl) ?_
    intro H locs ls hP hD hS hl
    obtain rfl := Option.some.inj h
    exact hRet hP hD hS dX5_begin_50
  have h := e_1
  clear e_1
  refine lv_if_ne (tgt := 14) hx hb dX5_begin_7 (by decide) (fun c_1 => ?_) (fun c_1 => ?_)
  · have h := ifn c_1 h
    refine lv_iconst (v := (0 : Int32)) hx hb dX5_begin_14 (by decide) ?_
    refine lv_iload_n hx hb dX5_begin_15 rfl (lv_at hl 2 rfl) ?_
    refine lv_bipush (v := (40 : Int32)) hx hb dX5_begin_16 (by decide) ?_
    refine va_mmin hx hb (hml.trans hl.1.symm) hown (hts (.methodLink RX5 22 Lib.Math.min.name) (by decide +kernel)) (hts (.static Lib.Math.min.name) (by decide +kernel)) (hts (.initialized "java/lang/Math") (by decide +kernel)) (hts (.code Lib.Math.min.name Lib.Math.min.code 2 (some .int)) (by decide +kernel)) (Nat.le_of_ble_eq_true rfl) (Nat.le_of_ble_eq_true rfl) (Nat.zero_le _) (Nat.zero_le _) dX5_begin_18 ?_
    refine va_mmax hx hb (hml.trans hl.1.symm) hown (hts (.methodLink RX5 28 Lib.Math.max.name) (by decide +kernel)) (hts (.static Lib.Math.max.name) (by decide +kernel)) (hts (.initialized "java/lang/Math") (by decide +kernel)) (hts (.code Lib.Math.max.name Lib.Math.max.code 2 (some .int)) (by decide +kernel)) (Nat.le_of_ble_eq_true rfl) (Nat.le_of_ble_eq_true rfl) (Nat.zero_le _) (Nat.zero_le _) dX5_begin_21 ?_
    obtain rfl := Option.some.inj h
    exact J_1 hP hD hS (lv_sub hl [0] rfl)
  · have h := ifp c_1 h
    refine lv_iconst (v := (0 : Int32)) hx hb dX5_begin_10 (by decide) ?_
    refine lv_goto (tgt := 24) hx hb dX5_begin_11 (by decide) ?_
    obtain rfl := Option.some.inj h
    exact J_1 hP hD hS (lv_sub hl [0] rfl)
abbrev rm_X5_isMissing : Room := { frames := 0, cells := 0, slots := 0, locals := 0 }
theorem hd_X5_isMissing : yX5_isMissing.cls = RX5 ∧ yX5_isMissing.cls ≠ "java/lang/invoke/MethodHandle" ∧ yX5_isMissing.cls ≠ "java/lang/invoke/VarHandle" ∧ (parseMethodDescriptor yX5_isMissing.desc).map (fun d => d.parameters.length) = some 0 := by decide +kernel
set_option maxHeartbeats 4000000 in
set_option maxRecDepth 100000 in
theorem c_X5_isMissing {l : Launch} {G : va_G} {ca : Nat → ClassId} {ev : Nat → Nat} {s0 s1 : Nat} {nums : (Nat → Int64)} {bits : Int32} {len : Int32}  {res : Int32} (h : f_X5_isMissing bits = some res) : CtI l yX5_isMissing wsX5_isMissing rm_X5_isMissing G ca ev [.ref s0] (wS ca ev s0 s1 nums bits len) (wS ca ev s0 s1 nums bits len) res := by
  unfold f_X5_isMissing at h
  refine en_z (by decide) rfl (Nat.le_of_ble_eq_true rfl) ?_
  intro p e s m args below meth c A Q H locs ls hx hb hml hown hts hA hP hK hD hE hS hl hRet
  have hown : s.vm.findClass RX5 = some m.cls := hown
  have hl : lv_has ls 1 [(0, .ref s0)] := hl
  have hin_X5 : ∀ w ∈ u_ws RX5 TX5 3, w ∈ wsX5_isMissing := fun w h9 => List.mem_cons_of_mem _ (List.mem_append_right _ h9)
  have fk_15 := hts (.fieldLink RX5 15 "MaskBows$Sheet" "bits" "I") (by decide +kernel)
  refine lv_aload_n hx hb dX5_isMissing_0 rfl (lv_at hl 0 rfl) ?_
  refine va_get (D := G) (ci := 5) (v := .int bits) (C := RX5) (T := TX5) (N := 3) hx hb hts hin_X5 hown hK hP 0 rfl rfl 1 (by decide) fk_15 (fun _ h9 => h9) rfl dX5_isMissing_1 ?_
  refine lv_if_ne (tgt := 11) hx hb dX5_isMissing_4 (by decide) (fun c_1 => ?_) (fun c_1 => ?_)
  · have h := ifn c_1 h
    refine lv_iconst (v := (0 : Int32)) hx hb dX5_isMissing_11 (by decide) ?_
    obtain rfl := Option.some.inj h
    exact hRet hP hD hS zb_0 dX5_isMissing_12
  · have h := ifp c_1 h
    refine lv_iconst (v := (1 : Int32)) hx hb dX5_isMissing_7 (by decide) ?_
    refine lv_goto (tgt := 12) hx hb dX5_isMissing_8 (by decide) ?_
    obtain rfl := Option.some.inj h
    exact hRet hP hD hS zb_1 dX5_isMissing_12
abbrev rm_X5_bits : Room := { frames := 0, cells := 0, slots := 0, locals := 0 }
theorem hd_X5_bits : yX5_bits.cls = RX5 ∧ yX5_bits.cls ≠ "java/lang/invoke/MethodHandle" ∧ yX5_bits.cls ≠ "java/lang/invoke/VarHandle" ∧ (parseMethodDescriptor yX5_bits.desc).map (fun d => d.parameters.length) = some 0 := by decide +kernel
set_option maxHeartbeats 4000000 in
set_option maxRecDepth 100000 in
theorem c_X5_bits {l : Launch} {G : va_G} {ca : Nat → ClassId} {ev : Nat → Nat} {s0 s1 : Nat} {nums : (Nat → Int64)} {bits : Int32} {len : Int32}  {res : Int32} (h : f_X5_bits bits = some res) : CtI l yX5_bits wsX5_bits rm_X5_bits G ca ev [.ref s0] (wS ca ev s0 s1 nums bits len) (wS ca ev s0 s1 nums bits len) res := by
  unfold f_X5_bits at h
  refine en_i (by decide) rfl (Nat.le_of_ble_eq_true rfl) ?_
  intro p e s m args below meth c A Q H locs ls hx hb hml hown hts hA hP hK hD hE hS hl hRet
  have hown : s.vm.findClass RX5 = some m.cls := hown
  have hl : lv_has ls 1 [(0, .ref s0)] := hl
  have hin_X5 : ∀ w ∈ u_ws RX5 TX5 3, w ∈ wsX5_bits := fun w h9 => List.mem_cons_of_mem _ (List.mem_append_right _ h9)
  have fk_15 := hts (.fieldLink RX5 15 "MaskBows$Sheet" "bits" "I") (by decide +kernel)
  refine lv_aload_n hx hb dX5_bits_0 rfl (lv_at hl 0 rfl) ?_
  refine va_get (D := G) (ci := 5) (v := .int bits) (C := RX5) (T := TX5) (N := 3) hx hb hts hin_X5 hown hK hP 0 rfl rfl 1 (by decide) fk_15 (fun _ h9 => h9) rfl dX5_bits_1 ?_
  obtain rfl := Option.some.inj h
  exact hRet hP hD hS dX5_bits_4
abbrev rm_X5_length : Room := { frames := 0, cells := 0, slots := 0, locals := 0 }
theorem hd_X5_length : yX5_length.cls = RX5 ∧ yX5_length.cls ≠ "java/lang/invoke/MethodHandle" ∧ yX5_length.cls ≠ "java/lang/invoke/VarHandle" ∧ (parseMethodDescriptor yX5_length.desc).map (fun d => d.parameters.length) = some 0 := by decide +kernel
set_option maxHeartbeats 4000000 in
set_option maxRecDepth 100000 in
theorem c_X5_length {l : Launch} {G : va_G} {ca : Nat → ClassId} {ev : Nat → Nat} {s0 s1 : Nat} {nums : (Nat → Int64)} {bits : Int32} {len : Int32}  {res : Int32} (h : f_X5_length len = some res) : CtI l yX5_length wsX5_length rm_X5_length G ca ev [.ref s0] (wS ca ev s0 s1 nums bits len) (wS ca ev s0 s1 nums bits len) res := by
  unfold f_X5_length at h
  refine en_i (by decide) rfl (Nat.le_of_ble_eq_true rfl) ?_
  intro p e s m args below meth c A Q H locs ls hx hb hml hown hts hA hP hK hD hE hS hl hRet
  have hown : s.vm.findClass RX5 = some m.cls := hown
  have hl : lv_has ls 1 [(0, .ref s0)] := hl
  have hin_X5 : ∀ w ∈ u_ws RX5 TX5 3, w ∈ wsX5_length := fun w h9 => List.mem_cons_of_mem _ (List.mem_append_right _ h9)
  have fk_19 := hts (.fieldLink RX5 19 "MaskBows$Sheet" "length" "I") (by decide +kernel)
  refine lv_aload_n hx hb dX5_length_0 rfl (lv_at hl 0 rfl) ?_
  refine va_get (D := G) (ci := 5) (v := .int len) (C := RX5) (T := TX5) (N := 3) hx hb hts hin_X5 hown hK hP 0 rfl rfl 2 (by decide) fk_19 (fun _ h9 => h9) rfl dX5_length_1 ?_
  obtain rfl := Option.some.inj h
  exact hRet hP hD hS dX5_length_4
abbrev rm_X5_has : Room := { frames := 0, cells := 0, slots := 0, locals := 0 }
theorem hd_X5_has : yX5_has.cls = RX5 ∧ yX5_has.cls ≠ "java/lang/invoke/MethodHandle" ∧ yX5_has.cls ≠ "java/lang/invoke/VarHandle" ∧ (parseMethodDescriptor yX5_has.desc).map (fun d => d.parameters.length) = some 1 := by decide +kernel
set_option maxHeartbeats 4000000 in
set_option maxRecDepth 100000 in
theorem c_X5_has {l : Launch} {G : va_G} {ca : Nat → ClassId} {ev : Nat → Nat} {s0 s1 : Nat} {nums : (Nat → Int64)} {bits : Int32} {len : Int32} {a1 : Int32} {res : Int32} (h : f_X5_has len a1 = some res) : CtI l yX5_has wsX5_has rm_X5_has G ca ev [.ref s0, .int a1] (wS ca ev s0 s1 nums bits len) (wS ca ev s0 s1 nums bits len) res := by
  unfold f_X5_has at h
  refine en_z (by decide) rfl (Nat.le_of_ble_eq_true rfl) ?_
  intro p e s m args below meth c A Q H locs ls hx hb hml hown hts hA hP hK hD hE hS hl hRet
  have hown : s.vm.findClass RX5 = some m.cls := hown
  have hl : lv_has ls 2 [(0, .ref s0), (1, .int a1)] := hl
  have hin_X5 : ∀ w ∈ u_ws RX5 TX5 3, w ∈ wsX5_has := fun w h9 => List.mem_cons_of_mem _ (List.mem_append_right _ h9)
  have fk_19 := hts (.fieldLink RX5 19 "MaskBows$Sheet" "length" "I") (by decide +kernel)
  refine lv_iload_n hx hb dX5_has_0 rfl (lv_at hl 1 rfl) ?_
  refine lv_if_lt (tgt := 16) hx hb dX5_has_1 (by decide) (fun c_1 => ?_) (fun c_1 => ?_)
  · have h := ifp c_1 h
    refine lv_iconst (v := (0 : Int32)) hx hb dX5_has_16 (by decide) ?_
    obtain rfl := Option.some.inj h
    exact hRet hP hD hS zb_0 dX5_has_17
  · have h := ifn c_1 h
    refine lv_iload_n hx hb dX5_has_4 rfl (lv_at hl 1 rfl) ?_
    refine lv_aload_n hx hb dX5_has_5 rfl (lv_at hl 0 rfl) ?_
    refine va_get (D := G) (ci := 5) (v := .int len) (C := RX5) (T := TX5) (N := 3) hx hb hts hin_X5 hown hK hP 0 rfl rfl 2 (by decide) fk_19 (fun _ h9 => h9) rfl dX5_has_6 ?_
    refine lv_icmp_ge (tgt := 16) hx hb dX5_has_9 (by decide) (fun c_2 => ?_) (fun c_2 => ?_)
    · have h := ifp c_2 h
      refine lv_iconst (v := (0 : Int32)) hx hb dX5_has_16 (by decide) ?_
      obtain rfl := Option.some.inj h
      exact hRet hP hD hS zb_0 dX5_has_17
    · have h := ifn c_2 h
      refine lv_iconst (v := (1 : Int32)) hx hb dX5_has_12 (by decide) ?_
      refine lv_goto (tgt := 17) hx hb dX5_has_13 (by decide) ?_
      obtain rfl := Option.some.inj h
      exact hRet hP hD hS zb_1 dX5_has_17
abbrev rm_X5_hasRun : Room := { frames := 0, cells := 0, slots := 0, locals := 0 }
theorem hd_X5_hasRun : yX5_hasRun.cls = RX5 ∧ yX5_hasRun.cls ≠ "java/lang/invoke/MethodHandle" ∧ yX5_hasRun.cls ≠ "java/lang/invoke/VarHandle" ∧ (parseMethodDescriptor yX5_hasRun.desc).map (fun d => d.parameters.length) = some 2 := by decide +kernel
set_option maxHeartbeats 4000000 in
set_option maxRecDepth 100000 in
theorem c_X5_hasRun {l : Launch} {G : va_G} {ca : Nat → ClassId} {ev : Nat → Nat} {s0 s1 : Nat} {nums : (Nat → Int64)} {bits : Int32} {len : Int32} {a1 : Int32} {a2 : Int32} {res : Int32} (h : f_X5_hasRun len a1 a2 = some res) : CtI l yX5_hasRun wsX5_hasRun rm_X5_hasRun G ca ev [.ref s0, .int a1, .int a2] (wS ca ev s0 s1 nums bits len) (wS ca ev s0 s1 nums bits len) res := by
  unfold f_X5_hasRun at h
  refine en_z (by decide) rfl (Nat.le_of_ble_eq_true rfl) ?_
  intro p e s m args below meth c A Q H locs ls hx hb hml hown hts hA hP hK hD hE hS hl hRet
  have hown : s.vm.findClass RX5 = some m.cls := hown
  have hl : lv_has ls 3 [(0, .ref s0), (1, .int a1), (2, .int a2)] := hl
  have hin_X5 : ∀ w ∈ u_ws RX5 TX5 3, w ∈ wsX5_hasRun := fun w h9 => List.mem_cons_of_mem _ (List.mem_append_right _ h9)
  have fk_19 := hts (.fieldLink RX5 19 "MaskBows$Sheet" "length" "I") (by decide +kernel)
  refine lv_iload_n hx hb dX5_hasRun_0 rfl (lv_at hl 2 rfl) ?_
  refine lv_if_lt (tgt := 30) hx hb dX5_hasRun_1 (by decide) (fun c_1 => ?_) (fun c_1 => ?_)
  · have h := ifp c_1 h
    refine lv_iconst (v := (0 : Int32)) hx hb dX5_hasRun_30 (by decide) ?_
    obtain rfl := Option.some.inj h
    exact hRet hP hD hS zb_0 dX5_hasRun_31
  · have h := ifn c_1 h
    refine lv_iload_n hx hb dX5_hasRun_4 rfl (lv_at hl 2 rfl) ?_
    refine lv_aload_n hx hb dX5_hasRun_5 rfl (lv_at hl 0 rfl) ?_
    refine va_get (D := G) (ci := 5) (v := .int len) (C := RX5) (T := TX5) (N := 3) hx hb hts hin_X5 hown hK hP 0 rfl rfl 2 (by decide) fk_19 (fun _ h9 => h9) rfl dX5_hasRun_6 ?_
    refine lv_icmp_gt (tgt := 30) hx hb dX5_hasRun_9 (by decide) (fun c_2 => ?_) (fun c_2 => ?_)
    · have h := ifp c_2 h
      refine lv_iconst (v := (0 : Int32)) hx hb dX5_hasRun_30 (by decide) ?_
      obtain rfl := Option.some.inj h
      exact hRet hP hD hS zb_0 dX5_hasRun_31
    · have h := ifn c_2 h
      refine lv_iload_n hx hb dX5_hasRun_12 rfl (lv_at hl 1 rfl) ?_
      refine lv_if_lt (tgt := 30) hx hb dX5_hasRun_13 (by decide) (fun c_3 => ?_) (fun c_3 => ?_)
      · have h := ifp c_3 h
        refine lv_iconst (v := (0 : Int32)) hx hb dX5_hasRun_30 (by decide) ?_
        obtain rfl := Option.some.inj h
        exact hRet hP hD hS zb_0 dX5_hasRun_31
      · have h := ifn c_3 h
        refine lv_iload_n hx hb dX5_hasRun_16 rfl (lv_at hl 1 rfl) ?_
        refine lv_aload_n hx hb dX5_hasRun_17 rfl (lv_at hl 0 rfl) ?_
        refine va_get (D := G) (ci := 5) (v := .int len) (C := RX5) (T := TX5) (N := 3) hx hb hts hin_X5 hown hK hP 0 rfl rfl 2 (by decide) fk_19 (fun _ h9 => h9) rfl dX5_hasRun_18 ?_
        refine lv_iload_n hx hb dX5_hasRun_21 rfl (lv_at hl 2 rfl) ?_
        refine lv_isub hx hb dX5_hasRun_22 ?_
        refine lv_icmp_gt (tgt := 30) hx hb dX5_hasRun_23 (by decide) (fun c_4 => ?_) (fun c_4 => ?_)
        · have h := ifp c_4 h
          refine lv_iconst (v := (0 : Int32)) hx hb dX5_hasRun_30 (by decide) ?_
          obtain rfl := Option.some.inj h
          exact hRet hP hD hS zb_0 dX5_hasRun_31
        · have h := ifn c_4 h
          refine lv_iconst (v := (1 : Int32)) hx hb dX5_hasRun_26 (by decide) ?_
          refine lv_goto (tgt := 31) hx hb dX5_hasRun_27 (by decide) ?_
          obtain rfl := Option.some.inj h
          exact hRet hP hD hS zb_1 dX5_hasRun_31
abbrev rm_X5_number : Room := { frames := 1, cells := 0, slots := 0, locals := 21 }
theorem hd_X5_number : yX5_number.cls = RX5 ∧ yX5_number.cls ≠ "java/lang/invoke/MethodHandle" ∧ yX5_number.cls ≠ "java/lang/invoke/VarHandle" ∧ (parseMethodDescriptor yX5_number.desc).map (fun d => d.parameters.length) = some 1 := by decide +kernel
set_option maxHeartbeats 4000000 in
set_option maxRecDepth 100000 in
theorem c_X5_number {l : Launch} {G : va_G} {ca : Nat → ClassId} {ev : Nat → Nat} {s0 s1 : Nat} {nums : (Nat → Int64)} {bits : Int32} {len : Int32} {a1 : Int32} {res : Int64} (h : f_X5_number nums len a1 = some res) : CtL l yX5_number wsX5_number rm_X5_number G ca ev [.ref s0, .int a1] (wS ca ev s0 s1 nums bits len) (wS ca ev s0 s1 nums bits len) res := by
  unfold f_X5_number at h
  refine en_l (by decide) rfl (Nat.le_of_ble_eq_true rfl) ?_
  intro p e s m args below meth c A Q H locs ls hx hb hml hown hts hA hP hK hD hE hS hl hRet
  have hown : s.vm.findClass RX5 = some m.cls := hown
  have hl : lv_has ls 2 [(0, .ref s0), (1, .int a1)] := hl
  have hin_X5 : ∀ w ∈ u_ws RX5 TX5 3, w ∈ wsX5_number := fun w h9 => List.mem_cons_of_mem _ (List.mem_append_right _ h9)
  have fk_9 := hts (.fieldLink RX5 9 "MaskBows$Sheet" "numbers" "[J") (by decide +kernel)
  refine lv_aload_n hx hb dX5_number_0 rfl (lv_at hl 0 rfl) ?_
  refine lv_iload_n hx hb dX5_number_1 rfl (lv_at hl 1 rfl) ?_
  obtain ⟨u_1, e_1, h⟩ := bd_some h
  refine cm_Vi (As := [.int a1]) (rest := []) ⟨hx, hb, hml, hown, hts⟩ (c_X5_has (ca := ca) (ev := ev) (s0 := s0) (s1 := s1) (nums := nums) (bits := bits) (len := len) e_1) (cwV 1 hts gX5_number_X5_has rfl rfl rfl hd_X5_has ⟨Nat.le_of_ble_eq_true rfl, Nat.le_of_ble_eq_true rfl⟩) hK hP hD hS hA hE (q0 := 0) (ci := 5) rfl rfl rfl rfl hl.1 rfl (Nat.le_of_ble_eq_true rfl) dX5_number_2 ⟨Nat.zero_le _, Nat.zero_le _⟩ (fun H locs hP hD hS => ?_)
  refine lv_if_eq (tgt := 17) hx hb dX5_number_5 (by decide) (fun c_2 => ?_) (fun c_2 => ?_)
  · have h := ifp c_2 h
    refine lv_lconst (v := (0 : Int64)) hx hb dX5_number_17 (by decide) ?_
    obtain rfl := Option.some.inj h
    exact hRet hP hD hS dX5_number_18
  · have h := ifn c_2 h
    refine lv_aload_n hx hb dX5_number_8 rfl (lv_at hl 0 rfl) ?_
    refine va_get (D := G) (ci := 5) (v := .ref s1) (C := RX5) (T := TX5) (N := 3) hx hb hts hin_X5 hown hK hP 0 rfl rfl 0 (by decide) fk_9 (fun _ h9 => h9) rfl dX5_number_9 ?_
    refine lv_iload_n hx hb dX5_number_12 rfl (lv_at hl 1 rfl) ?_
    obtain ⟨i_3, h⟩ := gd_some h
    refine va_lald hx hb hK hP 1 1 rfl rfl (ix_in i_3) dX5_number_13 ?_
    refine lv_goto (tgt := 18) hx hb dX5_number_14 (by decide) ?_
    obtain rfl := Option.some.inj h
    exact hRet hP hD hS dX5_number_18
abbrev rm_X5_cut : Room := { frames := 0, cells := 0, slots := 0, locals := 0 }
theorem hd_X5_cut : yX5_cut.cls = RX5 ∧ yX5_cut.cls ≠ "java/lang/invoke/MethodHandle" ∧ yX5_cut.cls ≠ "java/lang/invoke/VarHandle" ∧ (parseMethodDescriptor yX5_cut.desc).map (fun d => d.parameters.length) = some 1 := by decide +kernel
set_option maxHeartbeats 4000000 in
set_option maxRecDepth 100000 in
theorem c_X5_cut {l : Launch} {G : va_G} {ca : Nat → ClassId} {ev : Nat → Nat} {s0 s1 : Nat} {nums : (Nat → Int64)} {bits : Int32} {len : Int32} {a1 : Int64} {res : Int64} (h : f_X5_cut bits a1 = some res) : CtL l yX5_cut wsX5_cut rm_X5_cut G ca ev [.ref s0, .long a1] (wS ca ev s0 s1 nums bits len) (wS ca ev s0 s1 nums bits len) res := by
  unfold f_X5_cut at h
  refine en_l (by decide) rfl (Nat.le_of_ble_eq_true rfl) ?_
  intro p e s m args below meth c A Q H locs ls hx hb hml hown hts hA hP hK hD hE hS hl hRet
  have hown : s.vm.findClass RX5 = some m.cls := hown
  have hl : lv_has ls 3 [(0, .ref s0), (1, .long a1)] := hl
  have hin_X5 : ∀ w ∈ u_ws RX5 TX5 3, w ∈ wsX5_cut := fun w h9 => List.mem_cons_of_mem _ (List.mem_append_right _ h9)
  have fk_15 := hts (.fieldLink RX5 15 "MaskBows$Sheet" "bits" "I") (by decide +kernel)
  refine lv_aload_n hx hb dX5_cut_0 rfl (lv_at hl 0 rfl) ?_
  refine va_get (D := G) (ci := 5) (v := .int bits) (C := RX5) (T := TX5) (N := 3) hx hb hts hin_X5 hown hK hP 0 rfl rfl 1 (by decide) fk_15 (fun _ h9 => h9) rfl dX5_cut_1 ?_
  by_cases c_1 : bits = (8 : Int32)
  · have h := ifp c_1 h
    rw [c_1]
    refine lv_lookup (tgt := 32) hx hb dX5_cut_4 (by decide) rfl (by decide) ?_
    refine lv_lload_n hx hb dX5_cut_32 rfl (lv_at hl 1 rfl) ?_
    refine lv_l2i (v := a1.toInt32) hx hb dX5_cut_33 rfl ?_
    refine lv_i2b (v := a1.toInt32.toInt8.toInt32) hx hb dX5_cut_34 rfl ?_
    refine lv_i2l (v := a1.toInt32.toInt8.toInt32.toInt64) hx hb dX5_cut_35 rfl ?_
    obtain rfl := Option.some.inj h
    exact hRet hP hD hS dX5_cut_36
  · have h := ifn c_1 h
    by_cases c_2 : bits = (16 : Int32)
    · have h := ifp c_2 h
      rw [c_2]
      refine lv_lookup (tgt := 37) hx hb dX5_cut_4 (by decide) rfl (by decide) ?_
      refine lv_lload_n hx hb dX5_cut_37 rfl (lv_at hl 1 rfl) ?_
      refine lv_l2i (v := a1.toInt32) hx hb dX5_cut_38 rfl ?_
      refine lv_i2s (v := a1.toInt32.toInt16.toInt32) hx hb dX5_cut_39 rfl ?_
      refine lv_i2l (v := a1.toInt32.toInt16.toInt32.toInt64) hx hb dX5_cut_40 rfl ?_
      obtain rfl := Option.some.inj h
      exact hRet hP hD hS dX5_cut_41
    · have h := ifn c_2 h
      refine lv_lookup (tgt := 42) (off := 38) hx hb dX5_cut_4 (by decide) ((lv_osw c_1 (by decide)).trans ((lv_osw c_2 (by decide)).trans rfl)) (by decide) ?_
      refine lv_lload_n hx hb dX5_cut_42 rfl (lv_at hl 1 rfl) ?_
      obtain rfl := Option.some.inj h
      exact hRet hP hD hS dX5_cut_43
abbrev rm_X5_put : Room := { frames := 1, cells := 0, slots := 0, locals := 22 }
theorem hd_X5_put : yX5_put.cls = RX5 ∧ yX5_put.cls ≠ "java/lang/invoke/MethodHandle" ∧ yX5_put.cls ≠ "java/lang/invoke/VarHandle" ∧ (parseMethodDescriptor yX5_put.desc).map (fun d => d.parameters.length) = some 2 := by decide +kernel
set_option maxHeartbeats 4000000 in
set_option maxRecDepth 100000 in
theorem c_X5_put {l : Launch} {G : va_G} {ca : Nat → ClassId} {ev : Nat → Nat} {s0 s1 : Nat} {nums : (Nat → Int64)} {bits : Int32} {len : Int32} {a1 : Int32} {a2 : Int64} {res : Int64 × (Nat → Int64)} (h : f_X5_put nums bits len a1 a2 = some res) : CtL l yX5_put wsX5_put rm_X5_put G ca ev [.ref s0, .int a1, .long a2] (wS ca ev s0 s1 nums bits len) (wS ca ev s0 s1 res.2 bits len) res.1 := by
  unfold f_X5_put at h
  refine en_l (by decide) rfl (Nat.le_of_ble_eq_true rfl) ?_
  intro p e s m args below meth c A Q H locs ls hx hb hml hown hts hA hP hK hD hE hS hl hRet
  have hown : s.vm.findClass RX5 = some m.cls := hown
  have hl : lv_has ls 6 [(0, .ref s0), (1, .int a1), (2, .long a2)] := hl
  have hin_X5 : ∀ w ∈ u_ws RX5 TX5 3, w ∈ wsX5_put := fun w h9 => List.mem_cons_of_mem _ (List.mem_append_right _ h9)
  have fk_9 := hts (.fieldLink RX5 9 "MaskBows$Sheet" "numbers" "[J") (by decide +kernel)
  refine lv_aload_n hx hb dX5_put_0 rfl (lv_at hl 0 rfl) ?_
  refine lv_iload_n hx hb dX5_put_1 rfl (lv_at hl 1 rfl) ?_
  obtain ⟨u_1, e_1, h⟩ := bd_some h
  refine cm_Vi (As := [.int a1]) (rest := []) ⟨hx, hb, hml, hown, hts⟩ (c_X5_has (ca := ca) (ev := ev) (s0 := s0) (s1 := s1) (nums := nums) (bits := bits) (len := len) e_1) (cwV 1 hts gX5_put_X5_has rfl rfl rfl hd_X5_has ⟨Nat.le_of_ble_eq_true rfl, Nat.le_of_ble_eq_true rfl⟩) hK hP hD hS hA hE (q0 := 0) (ci := 5) rfl rfl rfl rfl hl.1 rfl (Nat.le_of_ble_eq_true rfl) dX5_put_2 ⟨Nat.zero_le _, Nat.zero_le _⟩ (fun H locs hP hD hS => ?_)
  refine lv_if_ne (tgt := 10) hx hb dX5_put_5 (by decide) (fun c_2 => ?_) (fun c_2 => ?_)
  · have h := ifn c_2 h
    refine lv_aload_n hx hb dX5_put_10 rfl (lv_at hl 0 rfl) ?_
    refine va_get (D := G) (ci := 5) (v := .ref s1) (C := RX5) (T := TX5) (N := 3) hx hb hts hin_X5 hown hK hP 0 rfl rfl 0 (by decide) fk_9 (fun _ h9 => h9) rfl dX5_put_11 ?_
    refine lv_iload_n hx hb dX5_put_14 rfl (lv_at hl 1 rfl) ?_
    obtain ⟨i_3, h⟩ := gd_some h
    refine va_lald hx hb hK hP 1 1 rfl rfl (ix_in i_3) dX5_put_15 ?_
    refine lv_lstore (lv' := [(4, .long (nums a1.toNatClampNeg)), (0, .ref s0), (1, .int a1), (2, .long a2)]) hx hb dX5_put_16 hl (by decide) rfl (fun ls hl => ?_)
    refine lv_aload_n hx hb dX5_put_18 rfl (lv_at hl 1 rfl) ?_
    refine va_get (D := G) (ci := 5) (v := .ref s1) (C := RX5) (T := TX5) (N := 3) hx hb hts hin_X5 hown hK hP 0 rfl rfl 0 (by decide) fk_9 (fun _ h9 => h9) rfl dX5_put_19 ?_
    refine lv_iload_n hx hb dX5_put_22 rfl (lv_at hl 2 rfl) ?_
    refine lv_aload_n hx hb dX5_put_23 rfl (lv_at hl 1 rfl) ?_
    refine lv_lload_n hx hb dX5_put_24 rfl (lv_at hl 3 rfl) ?_
    obtain ⟨u_4, e_4, h⟩ := bd_some h
    refine cm_Vl (As := [.long a2]) (rest := [.int a1, .ref s1]) ⟨hx, hb, hml, hown, hts⟩ (c_X5_cut (ca := ca) (ev := ev) (s0 := s0) (s1 := s1) (nums := nums) (bits := bits) (len := len) e_4) (cwV 1 hts gX5_put_X5_cut rfl rfl rfl hd_X5_cut ⟨Nat.le_of_ble_eq_true rfl, Nat.le_of_ble_eq_true rfl⟩) hK hP hD hS hA hE (q0 := 0) (ci := 5) rfl rfl rfl rfl hl.1 rfl (Nat.le_of_ble_eq_true rfl) dX5_put_25 ⟨Nat.zero_le _, Nat.zero_le _⟩ (fun H locs hP hD hS => ?_)
    refine va_last hx hb hK hP hD hS 1 1 rfl rfl (ix_in i_3) dX5_put_28 (fun H locs hP hD hS => ?_)
    have hP : va_P G vwCl (wS ca ev s0 s1 (vp_updL nums a1.toNatClampNeg u_4) bits len) H := hP
    have hD : va_D A (wS ca ev s0 s1 (vp_updL nums a1.toNatClampNeg u_4) bits len) := hD
    refine lv_lload hx hb dX5_put_29 (lv_at hl 0 rfl) ?_
    obtain rfl := Option.some.inj h
    exact hRet hP hD hS dX5_put_31
  · have h := ifp c_2 h
    refine lv_lconst (v := (0 : Int64)) hx hb dX5_put_8 (by decide) ?_
    obtain rfl := Option.some.inj h
    exact hRet hP hD hS dX5_put_9
