abbrev rm_X1_part : Room := { frames := 1, cells := 0, slots := 0, locals := 22 }
theorem hd_X1_part : yX1_part.cls = RX1 ∧ yX1_part.cls ≠ "java/lang/invoke/MethodHandle" ∧ yX1_part.cls ≠ "java/lang/invoke/VarHandle" ∧ (parseMethodDescriptor yX1_part.desc).map (fun d => d.parameters.length) = some 2 := by decide +kernel
set_option maxHeartbeats 4000000 in
set_option maxRecDepth 100000 in
theorem c_X1_part {l : Launch} {G : va_G} {ca : Nat → ClassId} {ev : Nat → Nat} {b0 b1 b2 n0 n1 n2 n3 n4 n5 n6 n7 c0 c1 c2 c3 c4 c5 c6 : Nat} {doers : (Nat → Int64)} {isTelling : (Nat → Int32)} {order : (Nat → Int32)} {stepsAt : (Nat → Int32)} {doubts : (Nat → Int32)} {weights : (Nat → Int32)} {rows : (Nat → Int32)} {metEver : (Nat → Int32)} {bowedTo : (Nat → Int32)} {isStale : Int32} {bowCount : Int32} {doubtCount : Int32} {seenBows : Int32} {likeliest : Int32} {mostSayingsSo : Int32} {bsize : Int32} {bcells : (Nat → Int32)} {ssize : Int32} {scells : (Nat → Int32)} {dsize : Int32} {dcells : (Nat → Int32)} {people : Int32} {rule : Int32} {believed : Int32} {a1 : Int32} {a2 : Int32} {res : Int32} (h : f_X1_part dsize dcells a1 a2 = some res) : CtI l yX1_part wsX1_part rm_X1_part G ca ev [.ref b0, .int a1, .int a2] (wB ca ev b0 b1 b2 n0 n1 n2 n3 n4 n5 n6 n7 c0 c1 c2 c3 c4 c5 c6 doers isTelling order stepsAt doubts weights rows metEver bowedTo isStale bowCount doubtCount seenBows likeliest mostSayingsSo bsize bcells ssize scells dsize dcells people rule believed) (wB ca ev b0 b1 b2 n0 n1 n2 n3 n4 n5 n6 n7 c0 c1 c2 c3 c4 c5 c6 doers isTelling order stepsAt doubts weights rows metEver bowedTo isStale bowCount doubtCount seenBows likeliest mostSayingsSo bsize bcells ssize scells dsize dcells people rule believed) res := by
  unfold f_X1_part at h
  refine en_i (by decide) rfl (Nat.le_of_ble_eq_true rfl) ?_
  intro p e s m args below meth c A Q H locs ls hx hb hml hown hts hA hP hK hD hE hS hl hRet
  have hown : s.vm.findClass RX1 = some m.cls := hown
  have hl : lv_has ls 3 [(0, .ref b0), (1, .int a1), (2, .int a2)] := hl
  have hin_X0 : ∀ w ∈ u_ws RX0 TX0 6, w ∈ wsX1_part := fun w h9 => List.mem_cons_of_mem _ (List.mem_append_left _ (List.mem_append_right _ h9))
  have hin_X1 : ∀ w ∈ u_ws RX1 TX1 4, w ∈ wsX1_part := fun w h9 => List.mem_cons_of_mem _ (List.mem_append_left _ (List.mem_append_left _ (List.mem_append_right _ h9)))
  have fk_19 := hts (.fieldLink RX1 19 "MaskBows$DeedBook" "carnival" "LMaskBows$Carnival;") (by decide +kernel)
  have fk_51 := va_Nw.use (A := args) rfl (hE.1 ("MaskBows$DeedBook", 51, "MaskBows$Carnival", "deeds", "LMaskBows$Rows;", "MaskBows") (by decide +kernel))
  refine lv_aload_n hx hb dX1_part_0 rfl (lv_at hl 0 rfl) ?_
  refine va_get (D := G) (ci := 1) (v := .ref c0) (C := RX1) (T := TX1) (N := 4) hx hb hts hin_X1 hown hK hP 0 rfl rfl 0 (by decide) fk_19 (fun _ h9 => h9) rfl dX1_part_1 ?_
  refine va_getN (D := G) (ci := 0) (v := .ref c5) (C := RX0) (T := TX0) (N := 6) hx hb hts hin_X0 hown hK hP 11 rfl rfl 2 (by decide) fk_51 (fun _ h9 => h9) rfl dX1_part_4 ?_
  refine lv_iload_n hx hb dX1_part_7 rfl (lv_at hl 1 rfl) ?_
  refine lv_iload_n hx hb dX1_part_8 rfl (lv_at hl 2 rfl) ?_
  obtain ⟨u_1, e_1, h⟩ := bd_some h
  refine cl_Vi (As := [.int a1, .int a2]) (rest := []) (Wn := (wB ca ev b0 b1 b2 n0 n1 n2 n3 n4 n5 n6 n7 c0 c1 c2 c3 c4 c5 c6 doers isTelling order stepsAt doubts weights rows metEver bowedTo isStale bowCount doubtCount seenBows likeliest mostSayingsSo bsize bcells ssize scells dsize dcells people rule believed)) ⟨hx, hb, hml, hown, hts⟩ (c_X4_cell (ca := ca) (ev := ev) (r0 := c5) (r1 := c6) (limit := (12 : Int32)) (width := (5 : Int32)) (size := dsize) (cells := dcells) (nc := 60) e_1) (cwV 2 hts gX1_part_X4_cell rfl rfl rfl hd_X4_cell ⟨Nat.le_of_ble_eq_true rfl, Nat.le_of_ble_eq_true rfl⟩) hK hP hD hS hA hE wp_8 (q0 := 0) (ci := 4) rfl rfl rfl rfl hl.1 rfl (Nat.le_of_ble_eq_true rfl) dX1_part_9 ⟨Nat.zero_le _, Nat.zero_le _⟩ (fun H locs hP hD hS => ?_)
  obtain rfl := Option.some.inj h
  exact hRet hP hD hS dX1_part_12
abbrev rm_X1_paysOf : Room := { frames := 2, cells := 0, slots := 0, locals := 44 }
theorem hd_X1_paysOf : yX1_paysOf.cls = RX1 ∧ yX1_paysOf.cls ≠ "java/lang/invoke/MethodHandle" ∧ yX1_paysOf.cls ≠ "java/lang/invoke/VarHandle" ∧ (parseMethodDescriptor yX1_paysOf.desc).map (fun d => d.parameters.length) = some 1 := by decide +kernel
set_option maxHeartbeats 4000000 in
set_option maxRecDepth 100000 in
theorem c_X1_paysOf {l : Launch} {G : va_G} {ca : Nat → ClassId} {ev : Nat → Nat} {b0 b1 b2 n0 n1 n2 n3 n4 n5 n6 n7 c0 c1 c2 c3 c4 c5 c6 : Nat} {doers : (Nat → Int64)} {isTelling : (Nat → Int32)} {order : (Nat → Int32)} {stepsAt : (Nat → Int32)} {doubts : (Nat → Int32)} {weights : (Nat → Int32)} {rows : (Nat → Int32)} {metEver : (Nat → Int32)} {bowedTo : (Nat → Int32)} {isStale : Int32} {bowCount : Int32} {doubtCount : Int32} {seenBows : Int32} {likeliest : Int32} {mostSayingsSo : Int32} {bsize : Int32} {bcells : (Nat → Int32)} {ssize : Int32} {scells : (Nat → Int32)} {dsize : Int32} {dcells : (Nat → Int32)} {people : Int32} {rule : Int32} {believed : Int32} {a1 : Int32} {res : Int32} (h : f_X1_paysOf dsize dcells a1 = some res) : CtI l yX1_paysOf wsX1_paysOf rm_X1_paysOf G ca ev [.ref b0, .int a1] (wB ca ev b0 b1 b2 n0 n1 n2 n3 n4 n5 n6 n7 c0 c1 c2 c3 c4 c5 c6 doers isTelling order stepsAt doubts weights rows metEver bowedTo isStale bowCount doubtCount seenBows likeliest mostSayingsSo bsize bcells ssize scells dsize dcells people rule believed) (wB ca ev b0 b1 b2 n0 n1 n2 n3 n4 n5 n6 n7 c0 c1 c2 c3 c4 c5 c6 doers isTelling order stepsAt doubts weights rows metEver bowedTo isStale bowCount doubtCount seenBows likeliest mostSayingsSo bsize bcells ssize scells dsize dcells people rule believed) res := by
  unfold f_X1_paysOf at h
  refine en_i (by decide) rfl (Nat.le_of_ble_eq_true rfl) ?_
  intro p e s m args below meth c A Q H locs ls hx hb hml hown hts hA hP hK hD hE hS hl hRet
  have hown : s.vm.findClass RX1 = some m.cls := hown
  have hl : lv_has ls 3 [(0, .ref b0), (1, .int a1)] := hl
  refine lv_aload_n hx hb dX1_paysOf_0 rfl (lv_at hl 0 rfl) ?_
  refine lv_iload_n hx hb dX1_paysOf_1 rfl (lv_at hl 1 rfl) ?_
  refine lv_iconst (v := (4 : Int32)) hx hb dX1_paysOf_2 (by decide) ?_
  obtain ⟨u_1, e_1, h⟩ := bd_some h
  refine cm_Vi (As := [.int a1, .int (4 : Int32)]) (rest := []) ⟨hx, hb, hml, hown, hts⟩ (c_X1_part (ca := ca) (ev := ev) (b0 := b0) (b1 := b1) (b2 := b2) (n0 := n0) (n1 := n1) (n2 := n2) (n3 := n3) (n4 := n4) (n5 := n5) (n6 := n6) (n7 := n7) (c0 := c0) (c1 := c1) (c2 := c2) (c3 := c3) (c4 := c4) (c5 := c5) (c6 := c6) (doers := doers) (isTelling := isTelling) (order := order) (stepsAt := stepsAt) (doubts := doubts) (weights := weights) (rows := rows) (metEver := metEver) (bowedTo := bowedTo) (isStale := isStale) (bowCount := bowCount) (doubtCount := doubtCount) (seenBows := seenBows) (likeliest := likeliest) (mostSayingsSo := mostSayingsSo) (bsize := bsize) (bcells := bcells) (ssize := ssize) (scells := scells) (dsize := dsize) (dcells := dcells) (people := people) (rule := rule) (believed := believed) e_1) (cwV 2 hts gX1_paysOf_X1_part rfl rfl rfl hd_X1_part ⟨Nat.le_of_ble_eq_true rfl, Nat.le_of_ble_eq_true rfl⟩) hK hP hD hS hA hE (q0 := 0) (ci := 1) rfl rfl rfl rfl hl.1 rfl (Nat.le_of_ble_eq_true rfl) dX1_paysOf_3 ⟨Nat.zero_le _, Nat.zero_le _⟩ (fun H locs hP hD hS => ?_)
  refine lv_istore_n (lv' := [(2, .int u_1), (0, .ref b0), (1, .int a1)]) hx hb dX1_paysOf_6 rfl hl (by decide) rfl (fun ls hl => ?_)
  refine lv_aload_n hx hb dX1_paysOf_7 rfl (lv_at hl 1 rfl) ?_
  refine lv_iload_n hx hb dX1_paysOf_8 rfl (lv_at hl 2 rfl) ?_
  refine lv_iconst (v := (0 : Int32)) hx hb dX1_paysOf_9 (by decide) ?_
  obtain ⟨u_2, e_2, h⟩ := bd_some h
  refine cm_Vi (As := [.int a1, .int (0 : Int32)]) (rest := []) ⟨hx, hb, hml, hown, hts⟩ (c_X1_part (ca := ca) (ev := ev) (b0 := b0) (b1 := b1) (b2 := b2) (n0 := n0) (n1 := n1) (n2 := n2) (n3 := n3) (n4 := n4) (n5 := n5) (n6 := n6) (n7 := n7) (c0 := c0) (c1 := c1) (c2 := c2) (c3 := c3) (c4 := c4) (c5 := c5) (c6 := c6) (doers := doers) (isTelling := isTelling) (order := order) (stepsAt := stepsAt) (doubts := doubts) (weights := weights) (rows := rows) (metEver := metEver) (bowedTo := bowedTo) (isStale := isStale) (bowCount := bowCount) (doubtCount := doubtCount) (seenBows := seenBows) (likeliest := likeliest) (mostSayingsSo := mostSayingsSo) (bsize := bsize) (bcells := bcells) (ssize := ssize) (scells := scells) (dsize := dsize) (dcells := dcells) (people := people) (rule := rule) (believed := believed) e_2) (cwV 2 hts gX1_paysOf_X1_part rfl rfl rfl hd_X1_part ⟨Nat.le_of_ble_eq_true rfl, Nat.le_of_ble_eq_true rfl⟩) hK hP hD hS hA hE (q0 := 0) (ci := 1) rfl rfl rfl rfl hl.1 rfl (Nat.le_of_ble_eq_true rfl) dX1_paysOf_10 ⟨Nat.zero_le _, Nat.zero_le _⟩ (fun H locs hP hD hS => ?_)
  by_cases c_3 : u_2 = (1 : Int32)
  · have h := ifp c_3 h
    rw [c_3]
    refine lv_tableIn (tgt := 48) hx hb dX1_paysOf_13 (by decide) (by decide) rfl (by decide) ?_
    refine lv_iload_n hx hb dX1_paysOf_48 rfl (lv_at hl 0 rfl) ?_
    obtain rfl := Option.some.inj h
    exact hRet hP hD hS dX1_paysOf_49
  · have h := ifn c_3 h
    by_cases c_4 : u_2 = (2 : Int32)
    · have h := ifp c_4 h
      rw [c_4]
      refine lv_tableIn (tgt := 50) hx hb dX1_paysOf_13 (by decide) (by decide) rfl (by decide) ?_
      refine lv_iload_n hx hb dX1_paysOf_50 rfl (lv_at hl 0 rfl) ?_
      refine lv_bipush (v := (10 : Int32)) hx hb dX1_paysOf_51 (by decide) ?_
      refine lv_idiv hx hb dX1_paysOf_53 (by decide) ?_
      refine lv_ineg hx hb dX1_paysOf_54 ?_
      obtain rfl := Option.some.inj h
      exact hRet hP hD hS dX1_paysOf_55
    · have h := ifn c_4 h
      by_cases c_5 : u_2 = (3 : Int32)
      · have h := ifp c_5 h
        rw [c_5]
        refine lv_tableIn (tgt := 56) hx hb dX1_paysOf_13 (by decide) (by decide) rfl (by decide) ?_
        refine lv_iconst (v := (1 : Int32)) hx hb dX1_paysOf_56 (by decide) ?_
        obtain rfl := Option.some.inj h
        exact hRet hP hD hS dX1_paysOf_57
      · have h := ifn c_5 h
        by_cases c_6 : u_2 = (4 : Int32)
        · have h := ifp c_6 h
          rw [c_6]
          refine lv_tableIn (tgt := 58) hx hb dX1_paysOf_13 (by decide) (by decide) rfl (by decide) ?_
          refine lv_iconst (v := (1 : Int32)) hx hb dX1_paysOf_58 (by decide) ?_
          refine lv_iload_n hx hb dX1_paysOf_59 rfl (lv_at hl 0 rfl) ?_
          refine lv_iconst (v := (2 : Int32)) hx hb dX1_paysOf_60 (by decide) ?_
          refine lv_idiv hx hb dX1_paysOf_61 (by decide) ?_
          refine lv_iadd hx hb dX1_paysOf_62 ?_
          obtain rfl := Option.some.inj h
          exact hRet hP hD hS dX1_paysOf_63
        · have h := ifn c_6 h
          by_cases c_7 : u_2 = (5 : Int32)
          · have h := ifp c_7 h
            rw [c_7]
            refine lv_tableIn (tgt := 64) hx hb dX1_paysOf_13 (by decide) (by decide) rfl (by decide) ?_
            refine lv_iconst (v := (2 : Int32)) hx hb dX1_paysOf_64 (by decide) ?_
            refine lv_iload_n hx hb dX1_paysOf_65 rfl (lv_at hl 0 rfl) ?_
            refine lv_imul hx hb dX1_paysOf_66 ?_
            obtain rfl := Option.some.inj h
            exact hRet hP hD hS dX1_paysOf_67
          · have h := ifn c_7 h
            refine lv_tableOut (tgt := 68) hx hb dX1_paysOf_13 (by by_cases q : u_2.toInt < 1 ∨ 5 < u_2.toInt; exact q; exfalso; have z0 : u_2.toInt = 1 ∨ u_2.toInt = 2 ∨ u_2.toInt = 3 ∨ u_2.toInt = 4 ∨ u_2.toInt = 5 := (by omega); rcases z0 with z | z | z | z | z; exact c_3 (Int32.toInt_inj.mp (z.trans (by decide))); exact c_4 (Int32.toInt_inj.mp (z.trans (by decide))); exact c_5 (Int32.toInt_inj.mp (z.trans (by decide))); exact c_6 (Int32.toInt_inj.mp (z.trans (by decide))); exact c_7 (Int32.toInt_inj.mp (z.trans (by decide)))) (by decide) ?_
            refine lv_iconst (v := (0 : Int32)) hx hb dX1_paysOf_68 (by decide) ?_
            obtain rfl := Option.some.inj h
            exact hRet hP hD hS dX1_paysOf_69
abbrev rm_X7_isKind : Room := { frames := 0, cells := 0, slots := 0, locals := 0 }
theorem hd_X7_isKind : yX7_isKind.cls ≠ "java/lang/invoke/MethodHandle" ∧ yX7_isKind.cls ≠ "java/lang/invoke/VarHandle" ∧ (parseMethodDescriptor yX7_isKind.desc).map (fun d => d.parameters.length) = some 1 := by decide +kernel
set_option maxHeartbeats 4000000 in
set_option maxRecDepth 100000 in
theorem c_X7_isKind {l : Launch} {G : va_G} {ca : Nat → ClassId} {ev : Nat → Nat}  {a0 : Int32} {res : Int32} (h : f_X7_isKind a0 = some res) : CtI l yX7_isKind wsX7_isKind rm_X7_isKind G ca ev [.int a0] [] [] res := by
  unfold f_X7_isKind at h
  refine en_z (by decide) rfl (Nat.le_of_ble_eq_true rfl) ?_
  intro p e s m args below meth c A Q H locs ls hx hb hml hown hts hA hP hK hD hE hS hl hRet
  have hown : s.vm.findClass RX7 = some m.cls := hown
  have hl : lv_has ls 1 [(0, .int a0)] := hl
  refine lv_iload_n hx hb dX7_isKind_0 rfl (lv_at hl 0 rfl) ?_
  refine lv_if_lt (tgt := 14) hx hb dX7_isKind_1 (by decide) (fun c_1 => ?_) (fun c_1 => ?_)
  · have h := ifp c_1 h
    refine lv_iconst (v := (0 : Int32)) hx hb dX7_isKind_14 (by decide) ?_
    obtain rfl := Option.some.inj h
    exact hRet hP hD hS zb_0 dX7_isKind_15
  · have h := ifn c_1 h
    refine lv_iload_n hx hb dX7_isKind_4 rfl (lv_at hl 0 rfl) ?_
    refine lv_bipush (v := (6 : Int32)) hx hb dX7_isKind_5 (by decide) ?_
    refine lv_icmp_ge (tgt := 14) hx hb dX7_isKind_7 (by decide) (fun c_2 => ?_) (fun c_2 => ?_)
    · have h := ifp c_2 h
      refine lv_iconst (v := (0 : Int32)) hx hb dX7_isKind_14 (by decide) ?_
      obtain rfl := Option.some.inj h
      exact hRet hP hD hS zb_0 dX7_isKind_15
    · have h := ifn c_2 h
      refine lv_iconst (v := (1 : Int32)) hx hb dX7_isKind_10 (by decide) ?_
      refine lv_goto (tgt := 15) hx hb dX7_isKind_11 (by decide) ?_
      obtain rfl := Option.some.inj h
      exact hRet hP hD hS zb_1 dX7_isKind_15
abbrev rm_X7_isOfKind : Room := { frames := 1, cells := 0, slots := 0, locals := 20 }
theorem hd_X7_isOfKind : yX7_isOfKind.cls ≠ "java/lang/invoke/MethodHandle" ∧ yX7_isOfKind.cls ≠ "java/lang/invoke/VarHandle" ∧ (parseMethodDescriptor yX7_isOfKind.desc).map (fun d => d.parameters.length) = some 2 := by decide +kernel
set_option maxHeartbeats 4000000 in
set_option maxRecDepth 100000 in
theorem c_X7_isOfKind {l : Launch} {G : va_G} {ca : Nat → ClassId} {ev : Nat → Nat}  {a0 : Int32} {a1 : Int32} {N : Nat} {res : Int32} (h : f_X7_isOfKind N a0 a1 = some res) : CtI l yX7_isOfKind wsX7_isOfKind rm_X7_isOfKind G ca ev [.int a0, .int a1] [] [] res := by
  unfold f_X7_isOfKind at h
  refine en_z (by decide) rfl (Nat.le_of_ble_eq_true rfl) ?_
  intro p e s m args below meth c A Q H locs ls hx hb hml hown hts hA hP hK hD hE hS hl hRet
  have hown : s.vm.findClass RX7 = some m.cls := hown
  have hl : lv_has ls 4 [(0, .int a0), (1, .int a1)] := hl
  refine lv_iload_n hx hb dX7_isOfKind_0 rfl (lv_at hl 0 rfl) ?_
  refine lv_istore_n (lv' := [(2, .int a0), (0, .int a0), (1, .int a1)]) hx hb dX7_isOfKind_1 rfl hl (by decide) rfl (fun ls hl => ?_)
  refine lv_iconst (v := (0 : Int32)) hx hb dX7_isOfKind_2 (by decide) ?_
  refine lv_istore_n (lv' := [(3, .int (0 : Int32)), (2, .int a0), (0, .int a0), (1, .int a1)]) hx hb dX7_isOfKind_3 rfl hl (by decide) rfl (fun ls hl => ?_)
  have L_4 : ∀ {x1_4 : Int32}  {K_4 : Unit → Option (Int32)} (n_4 : Nat) {x2_4 : Int32} {x3_4 : Int32} {H : Heap} {locs : List Loc} {ls : Array Slot}, f_X7_isOfKind_4 x1_4 K_4  n_4 x2_4 x3_4 = some res → (∀ {H : Heap} {locs : List Loc} {pc : Nat} {ls : Array Slot}, va_P G vwCl [] H → va_D A [] → va_S A s.heap H locs → (res = 0 ∨ res = 1) → decode cX7_isOfKind pc = .ok (.ireturn, 1) → W p l e rm_X7_isOfKind s m args below meth c H locs 0 0 Q (F0 m pc ls [.int res])) → va_P G vwCl [] H → va_D A [] → va_S A s.heap H locs → lv_has ls 4 [(1, .int x1_4), (2, .int x2_4), (3, .int x3_4)] → (∀ {uL_4 : Unit} {H : Heap} {locs : List Loc} {ls : Array Slot}, K_4 uL_4 = some res → va_P G vwCl [] H → va_D A [] → va_S A s.heap H locs → lv_has ls 4 [] → W p l e rm_X7_isOfKind s m args below meth c H locs 0 0 Q (F0 m 36 ls [])) → W p l e rm_X7_isOfKind s m args below meth c H locs 0 0 Q (F0 m 4 ls []) := by
    intro x1_4 K_4 n_4
    induction n_4 with
    | zero => intro x2_4 x3_4 H locs ls h; exact absurd h (by rw [f_X7_isOfKind_4]; exact fun z => nomatch z)
    | succ n_4 ih =>
      intro x2_4 x3_4 H locs ls h hRet hP hD hS hl JK_4
      rw [f_X7_isOfKind_4] at h
      refine lv_iload_n hx hb dX7_isOfKind_4 rfl (lv_at hl 2 rfl) ?_
      refine lv_bipush (v := (6 : Int32)) hx hb dX7_isOfKind_5 (by decide) ?_
      refine lv_icmp_ge (tgt := 36) hx hb dX7_isOfKind_7 (by decide) (fun c_1 => ?_) (fun c_1 => ?_)
      · have h := ifp c_1 h
        exact JK_4 h hP hD hS (lv_sub hl [] rfl)
      · have h := ifn c_1 h
        refine lv_iload_n hx hb dX7_isOfKind_10 rfl (lv_at hl 1 rfl) ?_
        obtain ⟨u_2, e_2, h⟩ := bd_some h
        refine cn_Si (As := [.int x2_4]) (rest := []) ⟨hx, hb, hml, hown, hts⟩ (c_X7_isKind e_2) (va_cwS 1 hts gX7_isOfKind_X7_isKind rfl rfl rfl hd_X7_isKind ⟨Nat.le_of_ble_eq_true rfl, Nat.le_of_ble_eq_true rfl⟩) hK hP hD hS hA hE rfl hl.1 rfl (Nat.le_of_ble_eq_true rfl) dX7_isOfKind_11 ⟨Nat.zero_le _, Nat.zero_le _⟩ (fun H locs hP hD hS => ?_)
        refine lv_if_eq (tgt := 36) hx hb dX7_isOfKind_14 (by decide) (fun c_3 => ?_) (fun c_3 => ?_)
        · have h := ifp c_3 h
          exact JK_4 h hP hD hS (lv_sub hl [] rfl)
        · have h := ifn c_3 h
          refine lv_iload_n hx hb dX7_isOfKind_17 rfl (lv_at hl 1 rfl) ?_
          refine lv_iload_n hx hb dX7_isOfKind_18 rfl (lv_at hl 0 rfl) ?_
          refine lv_icmp_ne (tgt := 24) hx hb dX7_isOfKind_19 (by decide) (fun c_4 => ?_) (fun c_4 => ?_)
          · have h := ifn c_4 h
            refine va_gets hx hb hE.2.2.1.1 hS hown (hts (.fieldLink RX7 323 "MaskBows" "KIND_ABOVE" "[I") (by decide +kernel)) (fun _ h9 => h9) dX7_isOfKind_24 ?_
            refine lv_iload_n hx hb dX7_isOfKind_27 rfl (lv_at hl 1 rfl) ?_
            obtain ⟨i_5, h⟩ := gd_some h
            refine va_ti (v := .int (en_ka x2_4.toNatClampNeg)) hx hb hE.2.2.1.2.1 hS (ix_in i_5) rfl dX7_isOfKind_28 ?_
            refine lv_istore_n (lv' := [(2, .int (en_ka x2_4.toNatClampNeg)), (1, .int x1_4), (3, .int x3_4)]) hx hb dX7_isOfKind_29 rfl hl (by decide) rfl (fun ls hl => ?_)
            refine lv_iinc (v := (x3_4 + (1 : Int32))) (lv' := [(3, .int (x3_4 + (1 : Int32))), (2, .int (en_ka x2_4.toNatClampNeg)), (1, .int x1_4)]) hx hb dX7_isOfKind_30 hl (k := 2) rfl rfl (by decide) rfl (fun ls hl => ?_)
            refine lv_goto (tgt := 4) hx hb dX7_isOfKind_33 (by decide) ?_
            exact ih h hRet hP hD hS (lv_sub hl [2, 1, 0] rfl) JK_4
          · have h := ifp c_4 h
            refine lv_iconst (v := (1 : Int32)) hx hb dX7_isOfKind_22 (by decide) ?_
            obtain rfl := Option.some.inj h
            exact hRet hP hD hS zb_1 dX7_isOfKind_23
  refine L_4 _ h hRet hP hD hS (lv_sub hl [3, 1, 0] rfl) ?_
  clear h
  intro u_6 H locs ls h hP hD hS hl
  refine lv_iconst (v := (0 : Int32)) hx hb dX7_isOfKind_36 (by decide) ?_
  obtain rfl := Option.some.inj h
  exact hRet hP hD hS zb_0 dX7_isOfKind_37
abbrev rm_X1_binds : Room := { frames := 2, cells := 0, slots := 0, locals := 44 }
theorem hd_X1_binds : yX1_binds.cls = RX1 ∧ yX1_binds.cls ≠ "java/lang/invoke/MethodHandle" ∧ yX1_binds.cls ≠ "java/lang/invoke/VarHandle" ∧ (parseMethodDescriptor yX1_binds.desc).map (fun d => d.parameters.length) = some 1 := by decide +kernel
set_option maxHeartbeats 4000000 in
set_option maxRecDepth 100000 in
theorem c_X1_binds {l : Launch} {G : va_G} {ca : Nat → ClassId} {ev : Nat → Nat} {b0 b1 b2 n0 n1 n2 n3 n4 n5 n6 n7 c0 c1 c2 c3 c4 c5 c6 : Nat} {doers : (Nat → Int64)} {isTelling : (Nat → Int32)} {order : (Nat → Int32)} {stepsAt : (Nat → Int32)} {doubts : (Nat → Int32)} {weights : (Nat → Int32)} {rows : (Nat → Int32)} {metEver : (Nat → Int32)} {bowedTo : (Nat → Int32)} {isStale : Int32} {bowCount : Int32} {doubtCount : Int32} {seenBows : Int32} {likeliest : Int32} {mostSayingsSo : Int32} {bsize : Int32} {bcells : (Nat → Int32)} {ssize : Int32} {scells : (Nat → Int32)} {dsize : Int32} {dcells : (Nat → Int32)} {people : Int32} {rule : Int32} {believed : Int32} {a1 : Int32} {N : Nat} {res : Int32} (h : f_X1_binds N dsize dcells a1 = some res) : CtI l yX1_binds wsX1_binds rm_X1_binds G ca ev [.ref b0, .int a1] (wB ca ev b0 b1 b2 n0 n1 n2 n3 n4 n5 n6 n7 c0 c1 c2 c3 c4 c5 c6 doers isTelling order stepsAt doubts weights rows metEver bowedTo isStale bowCount doubtCount seenBows likeliest mostSayingsSo bsize bcells ssize scells dsize dcells people rule believed) (wB ca ev b0 b1 b2 n0 n1 n2 n3 n4 n5 n6 n7 c0 c1 c2 c3 c4 c5 c6 doers isTelling order stepsAt doubts weights rows metEver bowedTo isStale bowCount doubtCount seenBows likeliest mostSayingsSo bsize bcells ssize scells dsize dcells people rule believed) res := by
  unfold f_X1_binds at h
  refine en_z (by decide) rfl (Nat.le_of_ble_eq_true rfl) ?_
  intro p e s m args below meth c A Q H locs ls hx hb hml hown hts hA hP hK hD hE hS hl hRet
  have hown : s.vm.findClass RX1 = some m.cls := hown
  have hl : lv_has ls 2 [(0, .ref b0), (1, .int a1)] := hl
  refine lv_aload_n hx hb dX1_binds_0 rfl (lv_at hl 0 rfl) ?_
  refine lv_iload_n hx hb dX1_binds_1 rfl (lv_at hl 1 rfl) ?_
  refine lv_iconst (v := (0 : Int32)) hx hb dX1_binds_2 (by decide) ?_
  obtain ⟨u_1, e_1, h⟩ := bd_some h
  refine cm_Vi (As := [.int a1, .int (0 : Int32)]) (rest := []) ⟨hx, hb, hml, hown, hts⟩ (c_X1_part (ca := ca) (ev := ev) (b0 := b0) (b1 := b1) (b2 := b2) (n0 := n0) (n1 := n1) (n2 := n2) (n3 := n3) (n4 := n4) (n5 := n5) (n6 := n6) (n7 := n7) (c0 := c0) (c1 := c1) (c2 := c2) (c3 := c3) (c4 := c4) (c5 := c5) (c6 := c6) (doers := doers) (isTelling := isTelling) (order := order) (stepsAt := stepsAt) (doubts := doubts) (weights := weights) (rows := rows) (metEver := metEver) (bowedTo := bowedTo) (isStale := isStale) (bowCount := bowCount) (doubtCount := doubtCount) (seenBows := seenBows) (likeliest := likeliest) (mostSayingsSo := mostSayingsSo) (bsize := bsize) (bcells := bcells) (ssize := ssize) (scells := scells) (dsize := dsize) (dcells := dcells) (people := people) (rule := rule) (believed := believed) e_1) (cwV 2 hts gX1_binds_X1_part rfl rfl rfl hd_X1_part ⟨Nat.le_of_ble_eq_true rfl, Nat.le_of_ble_eq_true rfl⟩) hK hP hD hS hA hE (q0 := 0) (ci := 1) rfl rfl rfl rfl hl.1 rfl (Nat.le_of_ble_eq_true rfl) dX1_binds_3 ⟨Nat.zero_le _, Nat.zero_le _⟩ (fun H locs hP hD hS => ?_)
  refine lv_iconst (v := (4 : Int32)) hx hb dX1_binds_6 (by decide) ?_
  obtain ⟨u_2, e_2, h⟩ := bd_some h
  refine cn_Ni (As := [.int u_1, .int (4 : Int32)]) (rest := []) ⟨hx, hb, hml, hown, hts⟩ (c_X7_isOfKind e_2) (⟨va_cnB 2 hts gX1_binds_X7_isOfKind_n31 rfl rfl rfl (hE.2.1 ("MaskBows$DeedBook", 31, ⟨"MaskBows", "isOfKind", "(II)Z"⟩, "MaskBows") (by decide +kernel)) (hts (.initialized RX7) (by decide +kernel)) hd_X7_isOfKind ⟨Nat.le_of_ble_eq_true rfl, Nat.le_of_ble_eq_true rfl⟩, hts (.static yX7_isOfKind) (by decide +kernel), trivial⟩) hK hP hD hS hA hE rfl hl.1 rfl (Nat.le_of_ble_eq_true rfl) dX1_binds_7 ⟨Nat.zero_le _, Nat.zero_le _⟩ (fun H locs hP hD hS => ?_)
  obtain ⟨z_3, h⟩ := gd_some h
  obtain rfl := Option.some.inj h
  exact hRet hP hD hS (isb_or z_3) dX1_binds_10
abbrev rm_X2_size : Room := { frames := 0, cells := 0, slots := 0, locals := 0 }
theorem hd_X2_size : yX2_size.cls = RX2 ∧ yX2_size.cls ≠ "java/lang/invoke/MethodHandle" ∧ yX2_size.cls ≠ "java/lang/invoke/VarHandle" ∧ (parseMethodDescriptor yX2_size.desc).map (fun d => d.parameters.length) = some 0 := by decide +kernel
set_option maxHeartbeats 4000000 in
set_option maxRecDepth 100000 in
theorem c_X2_size {l : Launch} {G : va_G} {ca : Nat → ClassId} {ev : Nat → Nat} {n0 n1 n2 n3 n4 n5 n6 n7 c0 c1 c2 c3 c4 c5 c6 : Nat} {order : (Nat → Int32)} {stepsAt : (Nat → Int32)} {doubts : (Nat → Int32)} {weights : (Nat → Int32)} {rows : (Nat → Int32)} {metEver : (Nat → Int32)} {bowedTo : (Nat → Int32)} {isStale : Int32} {bowCount : Int32} {doubtCount : Int32} {seenBows : Int32} {likeliest : Int32} {mostSayingsSo : Int32} {bsize : Int32} {bcells : (Nat → Int32)} {ssize : Int32} {scells : (Nat → Int32)} {dsize : Int32} {dcells : (Nat → Int32)} {people : Int32} {rule : Int32} {believed : Int32}  {res : Int32} (h : f_X2_size doubtCount = some res) : CtI l yX2_size wsX2_size rm_X2_size G ca ev [.ref n0] (wN ca ev n0 n1 n2 n3 n4 n5 n6 n7 c0 c1 c2 c3 c4 c5 c6 order stepsAt doubts weights rows metEver bowedTo isStale bowCount doubtCount seenBows likeliest mostSayingsSo bsize bcells ssize scells dsize dcells people rule believed) (wN ca ev n0 n1 n2 n3 n4 n5 n6 n7 c0 c1 c2 c3 c4 c5 c6 order stepsAt doubts weights rows metEver bowedTo isStale bowCount doubtCount seenBows likeliest mostSayingsSo bsize bcells ssize scells dsize dcells people rule believed) res := by
  unfold f_X2_size at h
  refine en_i (by decide) rfl (Nat.le_of_ble_eq_true rfl) ?_
  intro p e s m args below meth c A Q H locs ls hx hb hml hown hts hA hP hK hD hE hS hl hRet
  have hown : s.vm.findClass RX2 = some m.cls := hown
  have hl : lv_has ls 1 [(0, .ref n0)] := hl
  have hin_X2 : ∀ w ∈ u_ws RX2 TX2 14, w ∈ wsX2_size := fun w h9 => List.mem_cons_of_mem _ (List.mem_append_right _ h9)
  have fk_41 := hts (.fieldLink RX2 41 "MaskBows$Nights" "doubtCount" "I") (by decide +kernel)
  refine lv_iconst (v := (1 : Int32)) hx hb dX2_size_0 (by decide) ?_
  refine lv_aload_n hx hb dX2_size_1 rfl (lv_at hl 0 rfl) ?_
  refine va_get (D := G) (ci := 2) (v := .int doubtCount) (C := RX2) (T := TX2) (N := 14) hx hb hts hin_X2 hown hK hP 0 rfl rfl 10 (by decide) fk_41 (fun _ h9 => h9) rfl dX2_size_2 ?_
  refine lv_ishl hx hb dX2_size_5 ?_
  obtain rfl := Option.some.inj h
  exact hRet hP hD hS dX2_size_6
abbrev rm_X2_weight : Room := { frames := 1, cells := 0, slots := 0, locals := 20 }
theorem hd_X2_weight : yX2_weight.cls = RX2 ∧ yX2_weight.cls ≠ "java/lang/invoke/MethodHandle" ∧ yX2_weight.cls ≠ "java/lang/invoke/VarHandle" ∧ (parseMethodDescriptor yX2_weight.desc).map (fun d => d.parameters.length) = some 1 := by decide +kernel
set_option maxHeartbeats 4000000 in
set_option maxRecDepth 100000 in
theorem c_X2_weight {l : Launch} {G : va_G} {ca : Nat → ClassId} {ev : Nat → Nat} {n0 n1 n2 n3 n4 n5 n6 n7 c0 c1 c2 c3 c4 c5 c6 : Nat} {order : (Nat → Int32)} {stepsAt : (Nat → Int32)} {doubts : (Nat → Int32)} {weights : (Nat → Int32)} {rows : (Nat → Int32)} {metEver : (Nat → Int32)} {bowedTo : (Nat → Int32)} {isStale : Int32} {bowCount : Int32} {doubtCount : Int32} {seenBows : Int32} {likeliest : Int32} {mostSayingsSo : Int32} {bsize : Int32} {bcells : (Nat → Int32)} {ssize : Int32} {scells : (Nat → Int32)} {dsize : Int32} {dcells : (Nat → Int32)} {people : Int32} {rule : Int32} {believed : Int32} {a1 : Int32} {res : Int32} (h : f_X2_weight weights doubtCount a1 = some res) : CtI l yX2_weight wsX2_weight rm_X2_weight G ca ev [.ref n0, .int a1] (wN ca ev n0 n1 n2 n3 n4 n5 n6 n7 c0 c1 c2 c3 c4 c5 c6 order stepsAt doubts weights rows metEver bowedTo isStale bowCount doubtCount seenBows likeliest mostSayingsSo bsize bcells ssize scells dsize dcells people rule believed) (wN ca ev n0 n1 n2 n3 n4 n5 n6 n7 c0 c1 c2 c3 c4 c5 c6 order stepsAt doubts weights rows metEver bowedTo isStale bowCount doubtCount seenBows likeliest mostSayingsSo bsize bcells ssize scells dsize dcells people rule believed) res := by
  unfold f_X2_weight at h
  refine en_i (by decide) rfl (Nat.le_of_ble_eq_true rfl) ?_
  intro p e s m args below meth c A Q H locs ls hx hb hml hown hts hA hP hK hD hE hS hl hRet
  have hown : s.vm.findClass RX2 = some m.cls := hown
  have hl : lv_has ls 2 [(0, .ref n0), (1, .int a1)] := hl
  have hin_X2 : ∀ w ∈ u_ws RX2 TX2 14, w ∈ wsX2_weight := fun w h9 => List.mem_cons_of_mem _ (List.mem_append_right _ h9)
  have fk_21 := hts (.fieldLink RX2 21 "MaskBows$Nights" "weights" "[I") (by decide +kernel)
  refine lv_iload_n hx hb dX2_weight_0 rfl (lv_at hl 1 rfl) ?_
  refine lv_if_lt (tgt := 21) hx hb dX2_weight_1 (by decide) (fun c_1 => ?_) (fun c_1 => ?_)
  · have h := ifp c_1 h
    refine lv_iconst (v := (0 : Int32)) hx hb dX2_weight_21 (by decide) ?_
    obtain rfl := Option.some.inj h
    exact hRet hP hD hS dX2_weight_22
  · have h := ifn c_1 h
    refine lv_iload_n hx hb dX2_weight_4 rfl (lv_at hl 1 rfl) ?_
    refine lv_aload_n hx hb dX2_weight_5 rfl (lv_at hl 0 rfl) ?_
    obtain ⟨u_2, e_2, h⟩ := bd_some h
    refine cm_Vi (As := []) (rest := [.int a1]) ⟨hx, hb, hml, hown, hts⟩ (c_X2_size (ca := ca) (ev := ev) (n0 := n0) (n1 := n1) (n2 := n2) (n3 := n3) (n4 := n4) (n5 := n5) (n6 := n6) (n7 := n7) (c0 := c0) (c1 := c1) (c2 := c2) (c3 := c3) (c4 := c4) (c5 := c5) (c6 := c6) (order := order) (stepsAt := stepsAt) (doubts := doubts) (weights := weights) (rows := rows) (metEver := metEver) (bowedTo := bowedTo) (isStale := isStale) (bowCount := bowCount) (doubtCount := doubtCount) (seenBows := seenBows) (likeliest := likeliest) (mostSayingsSo := mostSayingsSo) (bsize := bsize) (bcells := bcells) (ssize := ssize) (scells := scells) (dsize := dsize) (dcells := dcells) (people := people) (rule := rule) (believed := believed) e_2) (cwV 0 hts gX2_weight_X2_size rfl rfl rfl hd_X2_size ⟨Nat.le_of_ble_eq_true rfl, Nat.le_of_ble_eq_true rfl⟩) hK hP hD hS hA hE (q0 := 0) (ci := 2) rfl rfl rfl rfl hl.1 rfl (Nat.le_of_ble_eq_true rfl) dX2_weight_6 ⟨Nat.zero_le _, Nat.zero_le _⟩ (fun H locs hP hD hS => ?_)
    refine lv_icmp_ge (tgt := 21) hx hb dX2_weight_9 (by decide) (fun c_3 => ?_) (fun c_3 => ?_)
    · have h := ifp c_3 h
      refine lv_iconst (v := (0 : Int32)) hx hb dX2_weight_21 (by decide) ?_
      obtain rfl := Option.some.inj h
      exact hRet hP hD hS dX2_weight_22
    · have h := ifn c_3 h
      refine lv_aload_n hx hb dX2_weight_12 rfl (lv_at hl 0 rfl) ?_
      refine va_get (D := G) (ci := 2) (v := .ref n4) (C := RX2) (T := TX2) (N := 14) hx hb hts hin_X2 hown hK hP 0 rfl rfl 4 (by decide) fk_21 (fun _ h9 => h9) rfl dX2_weight_13 ?_
      refine lv_iload_n hx hb dX2_weight_16 rfl (lv_at hl 1 rfl) ?_
      obtain ⟨i_4, h⟩ := gd_some h
      refine va_iald hx hb hK hP 4 0 rfl rfl (ix_in i_4) dX2_weight_17 ?_
      refine lv_goto (tgt := 22) hx hb dX2_weight_18 (by decide) ?_
      obtain rfl := Option.some.inj h
      exact hRet hP hD hS dX2_weight_22
abbrev rm_X2_holds : Room := { frames := 2, cells := 0, slots := 0, locals := 41 }
theorem hd_X2_holds : yX2_holds.cls = RX2 ∧ yX2_holds.cls ≠ "java/lang/invoke/MethodHandle" ∧ yX2_holds.cls ≠ "java/lang/invoke/VarHandle" ∧ (parseMethodDescriptor yX2_holds.desc).map (fun d => d.parameters.length) = some 1 := by decide +kernel
set_option maxHeartbeats 4000000 in
set_option maxRecDepth 100000 in
theorem c_X2_holds {l : Launch} {G : va_G} {ca : Nat → ClassId} {ev : Nat → Nat} {n0 n1 n2 n3 n4 n5 n6 n7 c0 c1 c2 c3 c4 c5 c6 : Nat} {order : (Nat → Int32)} {stepsAt : (Nat → Int32)} {doubts : (Nat → Int32)} {weights : (Nat → Int32)} {rows : (Nat → Int32)} {metEver : (Nat → Int32)} {bowedTo : (Nat → Int32)} {isStale : Int32} {bowCount : Int32} {doubtCount : Int32} {seenBows : Int32} {likeliest : Int32} {mostSayingsSo : Int32} {bsize : Int32} {bcells : (Nat → Int32)} {ssize : Int32} {scells : (Nat → Int32)} {dsize : Int32} {dcells : (Nat → Int32)} {people : Int32} {rule : Int32} {believed : Int32} {a1 : Int32} {res : Int32} (h : f_X2_holds weights doubtCount a1 = some res) : CtI l yX2_holds wsX2_holds rm_X2_holds G ca ev [.ref n0, .int a1] (wN ca ev n0 n1 n2 n3 n4 n5 n6 n7 c0 c1 c2 c3 c4 c5 c6 order stepsAt doubts weights rows metEver bowedTo isStale bowCount doubtCount seenBows likeliest mostSayingsSo bsize bcells ssize scells dsize dcells people rule believed) (wN ca ev n0 n1 n2 n3 n4 n5 n6 n7 c0 c1 c2 c3 c4 c5 c6 order stepsAt doubts weights rows metEver bowedTo isStale bowCount doubtCount seenBows likeliest mostSayingsSo bsize bcells ssize scells dsize dcells people rule believed) res := by
  unfold f_X2_holds at h
  refine en_z (by decide) rfl (Nat.le_of_ble_eq_true rfl) ?_
  intro p e s m args below meth c A Q H locs ls hx hb hml hown hts hA hP hK hD hE hS hl hRet
  have hown : s.vm.findClass RX2 = some m.cls := hown
  have hl : lv_has ls 2 [(0, .ref n0), (1, .int a1)] := hl
  refine lv_aload_n hx hb dX2_holds_0 rfl (lv_at hl 0 rfl) ?_
  refine lv_iload_n hx hb dX2_holds_1 rfl (lv_at hl 1 rfl) ?_
  obtain ⟨u_1, e_1, h⟩ := bd_some h
  refine cm_Vi (As := [.int a1]) (rest := []) ⟨hx, hb, hml, hown, hts⟩ (c_X2_weight (ca := ca) (ev := ev) (n0 := n0) (n1 := n1) (n2 := n2) (n3 := n3) (n4 := n4) (n5 := n5) (n6 := n6) (n7 := n7) (c0 := c0) (c1 := c1) (c2 := c2) (c3 := c3) (c4 := c4) (c5 := c5) (c6 := c6) (order := order) (stepsAt := stepsAt) (doubts := doubts) (weights := weights) (rows := rows) (metEver := metEver) (bowedTo := bowedTo) (isStale := isStale) (bowCount := bowCount) (doubtCount := doubtCount) (seenBows := seenBows) (likeliest := likeliest) (mostSayingsSo := mostSayingsSo) (bsize := bsize) (bcells := bcells) (ssize := ssize) (scells := scells) (dsize := dsize) (dcells := dcells) (people := people) (rule := rule) (believed := believed) e_1) (cwV 1 hts gX2_holds_X2_weight rfl rfl rfl hd_X2_weight ⟨Nat.le_of_ble_eq_true rfl, Nat.le_of_ble_eq_true rfl⟩) hK hP hD hS hA hE (q0 := 0) (ci := 2) rfl rfl rfl rfl hl.1 rfl (Nat.le_of_ble_eq_true rfl) dX2_holds_2 ⟨Nat.zero_le _, Nat.zero_le _⟩ (fun H locs hP hD hS => ?_)
  refine lv_if_le (tgt := 12) hx hb dX2_holds_5 (by decide) (fun c_2 => ?_) (fun c_2 => ?_)
  · have h := ifp c_2 h
    refine lv_iconst (v := (0 : Int32)) hx hb dX2_holds_12 (by decide) ?_
    obtain rfl := Option.some.inj h
    exact hRet hP hD hS zb_0 dX2_holds_13
  · have h := ifn c_2 h
    refine lv_iconst (v := (1 : Int32)) hx hb dX2_holds_8 (by decide) ?_
    refine lv_goto (tgt := 13) hx hb dX2_holds_9 (by decide) ?_
    obtain rfl := Option.some.inj h
    exact hRet hP hD hS zb_1 dX2_holds_13
abbrev rm_X2_row : Room := { frames := 0, cells := 0, slots := 0, locals := 0 }
theorem hd_X2_row : yX2_row.cls = RX2 ∧ yX2_row.cls ≠ "java/lang/invoke/MethodHandle" ∧ yX2_row.cls ≠ "java/lang/invoke/VarHandle" ∧ (parseMethodDescriptor yX2_row.desc).map (fun d => d.parameters.length) = some 2 := by decide +kernel
set_option maxHeartbeats 4000000 in
set_option maxRecDepth 100000 in
theorem c_X2_row {l : Launch} {G : va_G} {ca : Nat → ClassId} {ev : Nat → Nat} {n0 n1 n2 n3 n4 n5 n6 n7 c0 c1 c2 c3 c4 c5 c6 : Nat} {order : (Nat → Int32)} {stepsAt : (Nat → Int32)} {doubts : (Nat → Int32)} {weights : (Nat → Int32)} {rows : (Nat → Int32)} {metEver : (Nat → Int32)} {bowedTo : (Nat → Int32)} {isStale : Int32} {bowCount : Int32} {doubtCount : Int32} {seenBows : Int32} {likeliest : Int32} {mostSayingsSo : Int32} {bsize : Int32} {bcells : (Nat → Int32)} {ssize : Int32} {scells : (Nat → Int32)} {dsize : Int32} {dcells : (Nat → Int32)} {people : Int32} {rule : Int32} {believed : Int32} {a1 : Int32} {a2 : Int32} {res : Int32} (h : f_X2_row stepsAt rows a1 a2 = some res) : CtI l yX2_row wsX2_row rm_X2_row G ca ev [.ref n0, .int a1, .int a2] (wN ca ev n0 n1 n2 n3 n4 n5 n6 n7 c0 c1 c2 c3 c4 c5 c6 order stepsAt doubts weights rows metEver bowedTo isStale bowCount doubtCount seenBows likeliest mostSayingsSo bsize bcells ssize scells dsize dcells people rule believed) (wN ca ev n0 n1 n2 n3 n4 n5 n6 n7 c0 c1 c2 c3 c4 c5 c6 order stepsAt doubts weights rows metEver bowedTo isStale bowCount doubtCount seenBows likeliest mostSayingsSo bsize bcells ssize scells dsize dcells people rule believed) res := by
  unfold f_X2_row at h
  refine en_i (by decide) rfl (Nat.le_of_ble_eq_true rfl) ?_
  intro p e s m args below meth c A Q H locs ls hx hb hml hown hts hA hP hK hD hE hS hl hRet
  have hown : s.vm.findClass RX2 = some m.cls := hown
  have hl : lv_has ls 3 [(0, .ref n0), (1, .int a1), (2, .int a2)] := hl
  have hin_X2 : ∀ w ∈ u_ws RX2 TX2 14, w ∈ wsX2_row := fun w h9 => List.mem_cons_of_mem _ (List.mem_append_right _ h9)
  have fk_15 := hts (.fieldLink RX2 15 "MaskBows$Nights" "stepsAt" "[I") (by decide +kernel)
  have fk_24 := hts (.fieldLink RX2 24 "MaskBows$Nights" "rows" "[I") (by decide +kernel)
  refine lv_iload_n hx hb dX2_row_0 rfl (lv_at hl 1 rfl) ?_
  refine lv_if_lt (tgt := 20) hx hb dX2_row_1 (by decide) (fun c_1 => ?_) (fun c_1 => ?_)
  · have h := ifp c_1 h
    refine lv_ldc (v := (16434824 : Int32)) hx hb hown (hts (.constant RX2 96 (16434824)) (by decide +kernel)) dX2_row_20 ?_
    obtain rfl := Option.some.inj h
    exact hRet hP hD hS dX2_row_22
  · have h := ifn c_1 h
    refine lv_iload_n hx hb dX2_row_4 rfl (lv_at hl 1 rfl) ?_
    refine lv_bipush (v := (64 : Int32)) hx hb dX2_row_5 (by decide) ?_
    refine lv_icmp_ge (tgt := 20) hx hb dX2_row_7 (by decide) (fun c_2 => ?_) (fun c_2 => ?_)
    · have h := ifp c_2 h
      refine lv_ldc (v := (16434824 : Int32)) hx hb hown (hts (.constant RX2 96 (16434824)) (by decide +kernel)) dX2_row_20 ?_
      obtain rfl := Option.some.inj h
      exact hRet hP hD hS dX2_row_22
    · have h := ifn c_2 h
      refine lv_iload_n hx hb dX2_row_10 rfl (lv_at hl 2 rfl) ?_
      refine lv_if_lt (tgt := 20) hx hb dX2_row_11 (by decide) (fun c_3 => ?_) (fun c_3 => ?_)
      · have h := ifp c_3 h
        refine lv_ldc (v := (16434824 : Int32)) hx hb hown (hts (.constant RX2 96 (16434824)) (by decide +kernel)) dX2_row_20 ?_
        obtain rfl := Option.some.inj h
        exact hRet hP hD hS dX2_row_22
      · have h := ifn c_3 h
        refine lv_iload_n hx hb dX2_row_14 rfl (lv_at hl 2 rfl) ?_
        refine lv_bipush (v := (100 : Int32)) hx hb dX2_row_15 (by decide) ?_
        refine lv_icmp_lt (tgt := 23) hx hb dX2_row_17 (by decide) (fun c_4 => ?_) (fun c_4 => ?_)
        · have h := ifp c_4 h
          refine lv_aload_n hx hb dX2_row_23 rfl (lv_at hl 0 rfl) ?_
          refine va_get (D := G) (ci := 2) (v := .ref n5) (C := RX2) (T := TX2) (N := 14) hx hb hts hin_X2 hown hK hP 0 rfl rfl 5 (by decide) fk_24 (fun _ h9 => h9) rfl dX2_row_24 ?_
          refine lv_iload_n hx hb dX2_row_27 rfl (lv_at hl 1 rfl) ?_
          refine lv_bipush (v := (21 : Int32)) hx hb dX2_row_28 (by decide) ?_
          refine lv_imul hx hb dX2_row_30 ?_
          refine lv_aload_n hx hb dX2_row_31 rfl (lv_at hl 0 rfl) ?_
          refine va_get (D := G) (ci := 2) (v := .ref n2) (C := RX2) (T := TX2) (N := 14) hx hb hts hin_X2 hown hK hP 0 rfl rfl 2 (by decide) fk_15 (fun _ h9 => h9) rfl dX2_row_32 ?_
          refine lv_iload_n hx hb dX2_row_35 rfl (lv_at hl 2 rfl) ?_
          obtain ⟨i_5, h⟩ := gd_some h
          refine va_iald hx hb hK hP 2 0 rfl rfl (ix_in i_5) dX2_row_36 ?_
          refine lv_iadd hx hb dX2_row_37 ?_
          obtain ⟨i_6, h⟩ := gd_some h
          refine va_iald hx hb hK hP 5 0 rfl rfl (ix_in i_6) dX2_row_38 ?_
          obtain rfl := Option.some.inj h
          exact hRet hP hD hS dX2_row_39
        · have h := ifn c_4 h
          refine lv_ldc (v := (16434824 : Int32)) hx hb hown (hts (.constant RX2 96 (16434824)) (by decide +kernel)) dX2_row_20 ?_
          obtain rfl := Option.some.inj h
          exact hRet hP hD hS dX2_row_22
abbrev rm_X7_wearer : Room := { frames := 0, cells := 0, slots := 0, locals := 0 }
theorem hd_X7_wearer : yX7_wearer.cls ≠ "java/lang/invoke/MethodHandle" ∧ yX7_wearer.cls ≠ "java/lang/invoke/VarHandle" ∧ (parseMethodDescriptor yX7_wearer.desc).map (fun d => d.parameters.length) = some 2 := by decide +kernel
set_option maxHeartbeats 4000000 in
set_option maxRecDepth 100000 in
theorem c_X7_wearer {l : Launch} {G : va_G} {ca : Nat → ClassId} {ev : Nat → Nat}  {a0 : Int32} {a1 : Int32} {res : Int32} (h : f_X7_wearer a0 a1 = some res) : CtI l yX7_wearer wsX7_wearer rm_X7_wearer G ca ev [.int a0, .int a1] [] [] res := by
  unfold f_X7_wearer at h
  refine en_i (by decide) rfl (Nat.le_of_ble_eq_true rfl) ?_
  intro p e s m args below meth c A Q H locs ls hx hb hml hown hts hA hP hK hD hE hS hl hRet
  have hown : s.vm.findClass RX7 = some m.cls := hown
  have hl : lv_has ls 2 [(0, .int a0), (1, .int a1)] := hl
  refine lv_iload_n hx hb dX7_wearer_0 rfl (lv_at hl 0 rfl) ?_
  refine lv_iconst (v := (3 : Int32)) hx hb dX7_wearer_1 (by decide) ?_
  refine lv_iload_n hx hb dX7_wearer_2 rfl (lv_at hl 1 rfl) ?_
  refine lv_imul hx hb dX7_wearer_3 ?_
  refine lv_ishr hx hb dX7_wearer_4 ?_
  refine lv_bipush (v := (7 : Int32)) hx hb dX7_wearer_5 (by decide) ?_
  refine lv_iand hx hb dX7_wearer_7 ?_
  obtain rfl := Option.some.inj h
  exact hRet hP hD hS dX7_wearer_8
abbrev rm_X2_wearersOf : Room := { frames := 3, cells := 0, slots := 0, locals := 62 }
theorem hd_X2_wearersOf : yX2_wearersOf.cls = RX2 ∧ yX2_wearersOf.cls ≠ "java/lang/invoke/MethodHandle" ∧ yX2_wearersOf.cls ≠ "java/lang/invoke/VarHandle" ∧ (parseMethodDescriptor yX2_wearersOf.desc).map (fun d => d.parameters.length) = some 2 := by decide +kernel
set_option maxHeartbeats 4000000 in
set_option maxRecDepth 100000 in
theorem c_X2_wearersOf {l : Launch} {G : va_G} {ca : Nat → ClassId} {ev : Nat → Nat} {n0 n1 n2 n3 n4 n5 n6 n7 c0 c1 c2 c3 c4 c5 c6 : Nat} {order : (Nat → Int32)} {stepsAt : (Nat → Int32)} {doubts : (Nat → Int32)} {weights : (Nat → Int32)} {rows : (Nat → Int32)} {metEver : (Nat → Int32)} {bowedTo : (Nat → Int32)} {isStale : Int32} {bowCount : Int32} {doubtCount : Int32} {seenBows : Int32} {likeliest : Int32} {mostSayingsSo : Int32} {bsize : Int32} {bcells : (Nat → Int32)} {ssize : Int32} {scells : (Nat → Int32)} {dsize : Int32} {dcells : (Nat → Int32)} {people : Int32} {rule : Int32} {believed : Int32} {a1 : Int32} {a2 : Int32} {N : Nat} {res : Int32} (h : f_X2_wearersOf N stepsAt weights rows doubtCount a1 a2 = some res) : CtI l yX2_wearersOf wsX2_wearersOf rm_X2_wearersOf G ca ev [.ref n0, .int a1, .int a2] (wN ca ev n0 n1 n2 n3 n4 n5 n6 n7 c0 c1 c2 c3 c4 c5 c6 order stepsAt doubts weights rows metEver bowedTo isStale bowCount doubtCount seenBows likeliest mostSayingsSo bsize bcells ssize scells dsize dcells people rule believed) (wN ca ev n0 n1 n2 n3 n4 n5 n6 n7 c0 c1 c2 c3 c4 c5 c6 order stepsAt doubts weights rows metEver bowedTo isStale bowCount doubtCount seenBows likeliest mostSayingsSo bsize bcells ssize scells dsize dcells people rule believed) res := by
  unfold f_X2_wearersOf at h
  refine en_i (by decide) rfl (Nat.le_of_ble_eq_true rfl) ?_
  intro p e s m args below meth c A Q H locs ls hx hb hml hown hts hA hP hK hD hE hS hl hRet
  have hown : s.vm.findClass RX2 = some m.cls := hown
  have hl : lv_has ls 5 [(0, .ref n0), (1, .int a1), (2, .int a2)] := hl
  refine lv_iconst (v := (0 : Int32)) hx hb dX2_wearersOf_0 (by decide) ?_
  refine lv_istore_n (lv' := [(3, .int (0 : Int32)), (0, .ref n0), (1, .int a1), (2, .int a2)]) hx hb dX2_wearersOf_1 rfl hl (by decide) rfl (fun ls hl => ?_)
  refine lv_iconst (v := (0 : Int32)) hx hb dX2_wearersOf_2 (by decide) ?_
  refine lv_istore (lv' := [(4, .int (0 : Int32)), (3, .int (0 : Int32)), (0, .ref n0), (1, .int a1), (2, .int a2)]) hx hb dX2_wearersOf_3 hl (by decide) rfl (fun ls hl => ?_)
  have L_5 : ∀ {x1_5 : Int32} {x2_5 : Int32} {stepsAt_5 : (Nat → Int32)} {weights_5 : (Nat → Int32)} {rows_5 : (Nat → Int32)} {doubtCount_5 : Int32} (n_5 : Nat) {x3_5 : Int32} {x4_5 : Int32} {uL_5 : Int32} {H : Heap} {locs : List Loc} {ls : Array Slot}, f_X2_wearersOf_5 x1_5 x2_5 stepsAt_5 weights_5 rows_5 doubtCount_5  n_5 x3_5 x4_5 = some uL_5 → va_P G vwCl (wN ca ev n0 n1 n2 n3 n4 n5 n6 n7 c0 c1 c2 c3 c4 c5 c6 order stepsAt_5 doubts weights_5 rows_5 metEver bowedTo isStale bowCount doubtCount_5 seenBows likeliest mostSayingsSo bsize bcells ssize scells dsize dcells people rule believed) H → va_D A (wN ca ev n0 n1 n2 n3 n4 n5 n6 n7 c0 c1 c2 c3 c4 c5 c6 order stepsAt_5 doubts weights_5 rows_5 metEver bowedTo isStale bowCount doubtCount_5 seenBows likeliest mostSayingsSo bsize bcells ssize scells dsize dcells people rule believed) → va_S A s.heap H locs → lv_has ls 5 [(0, .ref n0), (1, .int x1_5), (2, .int x2_5), (3, .int x3_5), (4, .int x4_5)] → (∀ {H : Heap} {locs : List Loc} {ls : Array Slot}, va_P G vwCl (wN ca ev n0 n1 n2 n3 n4 n5 n6 n7 c0 c1 c2 c3 c4 c5 c6 order stepsAt_5 doubts weights_5 rows_5 metEver bowedTo isStale bowCount doubtCount_5 seenBows likeliest mostSayingsSo bsize bcells ssize scells dsize dcells people rule believed) H → va_D A (wN ca ev n0 n1 n2 n3 n4 n5 n6 n7 c0 c1 c2 c3 c4 c5 c6 order stepsAt_5 doubts weights_5 rows_5 metEver bowedTo isStale bowCount doubtCount_5 seenBows likeliest mostSayingsSo bsize bcells ssize scells dsize dcells people rule believed) → va_S A s.heap H locs → lv_has ls 5 [(3, .int uL_5)] → W p l e rm_X2_wearersOf s m args below meth c H locs 0 0 Q (F0 m 45 ls [])) → W p l e rm_X2_wearersOf s m args below meth c H locs 0 0 Q (F0 m 5 ls []) := by
    intro x1_5 x2_5 stepsAt_5 weights_5 rows_5 doubtCount_5 n_5
    induction n_5 with
    | zero => intro x3_5 x4_5 uL_5 H locs ls h; exact absurd h (by rw [f_X2_wearersOf_5]; exact fun z => nomatch z)
    | succ n_5 ih =>
      intro x3_5 x4_5 uL_5 H locs ls h hP hD hS hl JK_5
      rw [f_X2_wearersOf_5] at h
      refine lv_iload hx hb dX2_wearersOf_5 (lv_at hl 4 rfl) ?_
      refine lv_aload_n hx hb dX2_wearersOf_7 rfl (lv_at hl 0 rfl) ?_
      obtain ⟨u_1, e_1, h⟩ := bd_some h
      refine cm_Vi (As := []) (rest := [.int x4_5]) ⟨hx, hb, hml, hown, hts⟩ (c_X2_size (ca := ca) (ev := ev) (n0 := n0) (n1 := n1) (n2 := n2) (n3 := n3) (n4 := n4) (n5 := n5) (n6 := n6) (n7 := n7) (c0 := c0) (c1 := c1) (c2 := c2) (c3 := c3) (c4 := c4) (c5 := c5) (c6 := c6) (order := order) (stepsAt := stepsAt_5) (doubts := doubts) (weights := weights_5) (rows := rows_5) (metEver := metEver) (bowedTo := bowedTo) (isStale := isStale) (bowCount := bowCount) (doubtCount := doubtCount_5) (seenBows := seenBows) (likeliest := likeliest) (mostSayingsSo := mostSayingsSo) (bsize := bsize) (bcells := bcells) (ssize := ssize) (scells := scells) (dsize := dsize) (dcells := dcells) (people := people) (rule := rule) (believed := believed) e_1) (cwV 0 hts gX2_wearersOf_X2_size rfl rfl rfl hd_X2_size ⟨Nat.le_of_ble_eq_true rfl, Nat.le_of_ble_eq_true rfl⟩) hK hP hD hS hA hE (q0 := 0) (ci := 2) rfl rfl rfl rfl hl.1 rfl (Nat.le_of_ble_eq_true rfl) dX2_wearersOf_8 ⟨Nat.zero_le _, Nat.zero_le _⟩ (fun H locs hP hD hS => ?_)
      refine lv_icmp_ge (tgt := 45) hx hb dX2_wearersOf_11 (by decide) (fun c_2 => ?_) (fun c_2 => ?_)
      · have h := ifp c_2 h
        obtain rfl := Option.some.inj h
        exact JK_5 hP hD hS (lv_sub hl [3] rfl)
      · have h := ifn c_2 h
        refine lv_aload_n hx hb dX2_wearersOf_14 rfl (lv_at hl 0 rfl) ?_
        refine lv_iload hx hb dX2_wearersOf_15 (lv_at hl 4 rfl) ?_
        obtain ⟨u_3, e_3, h⟩ := bd_some h
        refine cm_Vi (As := [.int x4_5]) (rest := []) ⟨hx, hb, hml, hown, hts⟩ (c_X2_holds (ca := ca) (ev := ev) (n0 := n0) (n1 := n1) (n2 := n2) (n3 := n3) (n4 := n4) (n5 := n5) (n6 := n6) (n7 := n7) (c0 := c0) (c1 := c1) (c2 := c2) (c3 := c3) (c4 := c4) (c5 := c5) (c6 := c6) (order := order) (stepsAt := stepsAt_5) (doubts := doubts) (weights := weights_5) (rows := rows_5) (metEver := metEver) (bowedTo := bowedTo) (isStale := isStale) (bowCount := bowCount) (doubtCount := doubtCount_5) (seenBows := seenBows) (likeliest := likeliest) (mostSayingsSo := mostSayingsSo) (bsize := bsize) (bcells := bcells) (ssize := ssize) (scells := scells) (dsize := dsize) (dcells := dcells) (people := people) (rule := rule) (believed := believed) e_3) (cwV 1 hts gX2_wearersOf_X2_holds rfl rfl rfl hd_X2_holds ⟨Nat.le_of_ble_eq_true rfl, Nat.le_of_ble_eq_true rfl⟩) hK hP hD hS hA hE (q0 := 0) (ci := 2) rfl rfl rfl rfl hl.1 rfl (Nat.le_of_ble_eq_true rfl) dX2_wearersOf_17 ⟨Nat.zero_le _, Nat.zero_le _⟩ (fun H locs hP hD hS => ?_)
        obtain ⟨u_4, e_4, h⟩ := bd_some h
        have J_4 : ∀ {H : Heap} {locs : List Loc} {ls : Array Slot}, va_P G vwCl (wN ca ev n0 n1 n2 n3 n4 n5 n6 n7 c0 c1 c2 c3 c4 c5 c6 order stepsAt_5 doubts weights_5 rows_5 metEver bowedTo isStale bowCount doubtCount_5 seenBows likeliest mostSayingsSo bsize bcells ssize scells dsize dcells people rule believed) H → va_D A (wN ca ev n0 n1 n2 n3 n4 n5 n6 n7 c0 c1 c2 c3 c4 c5 c6 order stepsAt_5 doubts weights_5 rows_5 metEver bowedTo isStale bowCount doubtCount_5 seenBows likeliest mostSayingsSo bsize bcells ssize scells dsize dcells people rule believed) → va_S A s.heap H locs → lv_has ls 5 [(0, .ref n0), (1, .int x1_5), (2, .int x2_5), (3, .int u_4), (4, .int x4_5)] → W p l e rm_X2_wearersOf s m args below meth c H locs 0 0 Q (F0 m 39 ls []) := by
          intro H locs ls hP hD hS hl 
          refine lv_iinc (v := (x4_5 + (1 : Int32))) (lv' := [(4, .int (x4_5 + (1 : Int32))), (0, .ref n0), (1, .int x1_5), (2, .int x2_5), (3, .int u_4)]) hx hb dX2_wearersOf_39 hl (k := 4) rfl rfl (by decide) rfl (fun ls hl => ?_)
          refine lv_goto (tgt := 5) hx hb dX2_wearersOf_42 (by decide) ?_
          exact ih h hP hD hS (lv_sub hl [1, 2, 3, 4, 0] rfl) JK_5
        have h := e_4
        clear e_4
        refine lv_if_eq (tgt := 39) hx hb dX2_wearersOf_20 (by decide) (fun c_4 => ?_) (fun c_4 => ?_)
        · have h := ifp c_4 h
          obtain rfl := Option.some.inj h
          exact J_4 hP hD hS (lv_sub hl [0, 1, 2, 3, 4] rfl)
        · have h := ifn c_4 h
          refine lv_iload_n hx hb dX2_wearersOf_23 rfl (lv_at hl 3 rfl) ?_
          refine lv_iconst (v := (1 : Int32)) hx hb dX2_wearersOf_24 (by decide) ?_
          refine lv_aload_n hx hb dX2_wearersOf_25 rfl (lv_at hl 0 rfl) ?_
          refine lv_iload hx hb dX2_wearersOf_26 (lv_at hl 4 rfl) ?_
          refine lv_iload_n hx hb dX2_wearersOf_28 rfl (lv_at hl 2 rfl) ?_
          obtain ⟨u_5, e_5, h⟩ := bd_some h
          refine cm_Vi (As := [.int x4_5, .int x2_5]) (rest := [.int (1 : Int32), .int x3_5]) ⟨hx, hb, hml, hown, hts⟩ (c_X2_row (ca := ca) (ev := ev) (n0 := n0) (n1 := n1) (n2 := n2) (n3 := n3) (n4 := n4) (n5 := n5) (n6 := n6) (n7 := n7) (c0 := c0) (c1 := c1) (c2 := c2) (c3 := c3) (c4 := c4) (c5 := c5) (c6 := c6) (order := order) (stepsAt := stepsAt_5) (doubts := doubts) (weights := weights_5) (rows := rows_5) (metEver := metEver) (bowedTo := bowedTo) (isStale := isStale) (bowCount := bowCount) (doubtCount := doubtCount_5) (seenBows := seenBows) (likeliest := likeliest) (mostSayingsSo := mostSayingsSo) (bsize := bsize) (bcells := bcells) (ssize := ssize) (scells := scells) (dsize := dsize) (dcells := dcells) (people := people) (rule := rule) (believed := believed) e_5) (cwV 2 hts gX2_wearersOf_X2_row rfl rfl rfl hd_X2_row ⟨Nat.le_of_ble_eq_true rfl, Nat.le_of_ble_eq_true rfl⟩) hK hP hD hS hA hE (q0 := 0) (ci := 2) rfl rfl rfl rfl hl.1 rfl (Nat.le_of_ble_eq_true rfl) dX2_wearersOf_29 ⟨Nat.zero_le _, Nat.zero_le _⟩ (fun H locs hP hD hS => ?_)
          refine lv_iload_n hx hb dX2_wearersOf_32 rfl (lv_at hl 1 rfl) ?_
          obtain ⟨u_6, e_6, h⟩ := bd_some h
          refine cn_Ni (As := [.int u_5, .int x1_5]) (rest := [.int (1 : Int32), .int x3_5]) ⟨hx, hb, hml, hown, hts⟩ (c_X7_wearer e_6) (⟨va_cnB 2 hts gX2_wearersOf_X7_wearer_n107 rfl rfl rfl (hE.2.1 ("MaskBows$Nights", 107, ⟨"MaskBows", "wearer", "(II)I"⟩, "MaskBows") (by decide +kernel)) (hts (.initialized RX7) (by decide +kernel)) hd_X7_wearer ⟨Nat.le_of_ble_eq_true rfl, Nat.le_of_ble_eq_true rfl⟩, hts (.static yX7_wearer) (by decide +kernel), trivial⟩) hK hP hD hS hA hE rfl hl.1 rfl (Nat.le_of_ble_eq_true rfl) dX2_wearersOf_33 ⟨Nat.zero_le _, Nat.zero_le _⟩ (fun H locs hP hD hS => ?_)
          refine lv_ishl hx hb dX2_wearersOf_36 ?_
          refine lv_ior hx hb dX2_wearersOf_37 ?_
          refine lv_istore_n (lv' := [(3, .int (x3_5 ||| ((1 : Int32) <<< (u_6 &&& 31)))), (0, .ref n0), (1, .int x1_5), (2, .int x2_5), (4, .int x4_5)]) hx hb dX2_wearersOf_38 rfl hl (by decide) rfl (fun ls hl => ?_)
          obtain rfl := Option.some.inj h
          exact J_4 hP hD hS (lv_sub hl [1, 2, 3, 0, 4] rfl)
  obtain ⟨u_7, e_7, h⟩ := bd_some h
  refine L_5 _ e_7 hP hD hS (lv_sub hl [2, 3, 4, 1, 0] rfl) ?_
  intro H locs ls hP hD hS hl
  refine lv_iload_n hx hb dX2_wearersOf_45 rfl (lv_at hl 0 rfl) ?_
  obtain rfl := Option.some.inj h
  exact hRet hP hD hS dX2_wearersOf_46
abbrev rm_X1_doersOf : Room := { frames := 4, cells := 0, slots := 0, locals := 86 }
theorem hd_X1_doersOf : yX1_doersOf.cls = RX1 ∧ yX1_doersOf.cls ≠ "java/lang/invoke/MethodHandle" ∧ yX1_doersOf.cls ≠ "java/lang/invoke/VarHandle" ∧ (parseMethodDescriptor yX1_doersOf.desc).map (fun d => d.parameters.length) = some 1 := by decide +kernel
set_option maxHeartbeats 4000000 in
set_option maxRecDepth 100000 in
theorem c_X1_doersOf {l : Launch} {G : va_G} {ca : Nat → ClassId} {ev : Nat → Nat} {b0 b1 b2 n0 n1 n2 n3 n4 n5 n6 n7 c0 c1 c2 c3 c4 c5 c6 : Nat} {doers : (Nat → Int64)} {isTelling : (Nat → Int32)} {order : (Nat → Int32)} {stepsAt : (Nat → Int32)} {doubts : (Nat → Int32)} {weights : (Nat → Int32)} {rows : (Nat → Int32)} {metEver : (Nat → Int32)} {bowedTo : (Nat → Int32)} {isStale : Int32} {bowCount : Int32} {doubtCount : Int32} {seenBows : Int32} {likeliest : Int32} {mostSayingsSo : Int32} {bsize : Int32} {bcells : (Nat → Int32)} {ssize : Int32} {scells : (Nat → Int32)} {dsize : Int32} {dcells : (Nat → Int32)} {people : Int32} {rule : Int32} {believed : Int32} {a1 : Int32} {N : Nat} {res : Int32} (h : f_X1_doersOf N stepsAt weights rows doubtCount dsize dcells a1 = some res) : CtI l yX1_doersOf wsX1_doersOf rm_X1_doersOf G ca ev [.ref b0, .int a1] (wB ca ev b0 b1 b2 n0 n1 n2 n3 n4 n5 n6 n7 c0 c1 c2 c3 c4 c5 c6 doers isTelling order stepsAt doubts weights rows metEver bowedTo isStale bowCount doubtCount seenBows likeliest mostSayingsSo bsize bcells ssize scells dsize dcells people rule believed) (wB ca ev b0 b1 b2 n0 n1 n2 n3 n4 n5 n6 n7 c0 c1 c2 c3 c4 c5 c6 doers isTelling order stepsAt doubts weights rows metEver bowedTo isStale bowCount doubtCount seenBows likeliest mostSayingsSo bsize bcells ssize scells dsize dcells people rule believed) res := by
  unfold f_X1_doersOf at h
  refine en_i (by decide) rfl (Nat.le_of_ble_eq_true rfl) ?_
  intro p e s m args below meth c A Q H locs ls hx hb hml hown hts hA hP hK hD hE hS hl hRet
  have hown : s.vm.findClass RX1 = some m.cls := hown
  have hl : lv_has ls 2 [(0, .ref b0), (1, .int a1)] := hl
  have hin_X1 : ∀ w ∈ u_ws RX1 TX1 4, w ∈ wsX1_doersOf := fun w h9 => List.mem_cons_of_mem _ (List.mem_append_left _ (List.mem_append_left _ (List.mem_append_left _ (List.mem_append_right _ h9))))
  have fk_23 := hts (.fieldLink RX1 23 "MaskBows$DeedBook" "table" "LMaskBows$Nights;") (by decide +kernel)
  refine lv_aload_n hx hb dX1_doersOf_0 rfl (lv_at hl 0 rfl) ?_
  refine va_get (D := G) (ci := 1) (v := .ref n0) (C := RX1) (T := TX1) (N := 4) hx hb hts hin_X1 hown hK hP 0 rfl rfl 1 (by decide) fk_23 (fun _ h9 => h9) rfl dX1_doersOf_1 ?_
  refine lv_aload_n hx hb dX1_doersOf_4 rfl (lv_at hl 0 rfl) ?_
  refine lv_iload_n hx hb dX1_doersOf_5 rfl (lv_at hl 1 rfl) ?_
  refine lv_iconst (v := (2 : Int32)) hx hb dX1_doersOf_6 (by decide) ?_
  obtain ⟨u_1, e_1, h⟩ := bd_some h
  refine cm_Vi (As := [.int a1, .int (2 : Int32)]) (rest := [.ref n0]) ⟨hx, hb, hml, hown, hts⟩ (c_X1_part (ca := ca) (ev := ev) (b0 := b0) (b1 := b1) (b2 := b2) (n0 := n0) (n1 := n1) (n2 := n2) (n3 := n3) (n4 := n4) (n5 := n5) (n6 := n6) (n7 := n7) (c0 := c0) (c1 := c1) (c2 := c2) (c3 := c3) (c4 := c4) (c5 := c5) (c6 := c6) (doers := doers) (isTelling := isTelling) (order := order) (stepsAt := stepsAt) (doubts := doubts) (weights := weights) (rows := rows) (metEver := metEver) (bowedTo := bowedTo) (isStale := isStale) (bowCount := bowCount) (doubtCount := doubtCount) (seenBows := seenBows) (likeliest := likeliest) (mostSayingsSo := mostSayingsSo) (bsize := bsize) (bcells := bcells) (ssize := ssize) (scells := scells) (dsize := dsize) (dcells := dcells) (people := people) (rule := rule) (believed := believed) e_1) (cwV 2 hts gX1_doersOf_X1_part rfl rfl rfl hd_X1_part ⟨Nat.le_of_ble_eq_true rfl, Nat.le_of_ble_eq_true rfl⟩) hK hP hD hS hA hE (q0 := 0) (ci := 1) rfl rfl rfl rfl hl.1 rfl (Nat.le_of_ble_eq_true rfl) dX1_doersOf_7 ⟨Nat.zero_le _, Nat.zero_le _⟩ (fun H locs hP hD hS => ?_)
  refine lv_aload_n hx hb dX1_doersOf_10 rfl (lv_at hl 0 rfl) ?_
  refine lv_iload_n hx hb dX1_doersOf_11 rfl (lv_at hl 1 rfl) ?_
  refine lv_iconst (v := (1 : Int32)) hx hb dX1_doersOf_12 (by decide) ?_
  obtain ⟨u_2, e_2, h⟩ := bd_some h
  refine cm_Vi (As := [.int a1, .int (1 : Int32)]) (rest := [.int u_1, .ref n0]) ⟨hx, hb, hml, hown, hts⟩ (c_X1_part (ca := ca) (ev := ev) (b0 := b0) (b1 := b1) (b2 := b2) (n0 := n0) (n1 := n1) (n2 := n2) (n3 := n3) (n4 := n4) (n5 := n5) (n6 := n6) (n7 := n7) (c0 := c0) (c1 := c1) (c2 := c2) (c3 := c3) (c4 := c4) (c5 := c5) (c6 := c6) (doers := doers) (isTelling := isTelling) (order := order) (stepsAt := stepsAt) (doubts := doubts) (weights := weights) (rows := rows) (metEver := metEver) (bowedTo := bowedTo) (isStale := isStale) (bowCount := bowCount) (doubtCount := doubtCount) (seenBows := seenBows) (likeliest := likeliest) (mostSayingsSo := mostSayingsSo) (bsize := bsize) (bcells := bcells) (ssize := ssize) (scells := scells) (dsize := dsize) (dcells := dcells) (people := people) (rule := rule) (believed := believed) e_2) (cwV 2 hts gX1_doersOf_X1_part rfl rfl rfl hd_X1_part ⟨Nat.le_of_ble_eq_true rfl, Nat.le_of_ble_eq_true rfl⟩) hK hP hD hS hA hE (q0 := 0) (ci := 1) rfl rfl rfl rfl hl.1 rfl (Nat.le_of_ble_eq_true rfl) dX1_doersOf_13 ⟨Nat.zero_le _, Nat.zero_le _⟩ (fun H locs hP hD hS => ?_)
  obtain ⟨u_3, e_3, h⟩ := bd_some h
  refine cl_Vi (As := [.int u_1, .int u_2]) (rest := []) (Wn := (wB ca ev b0 b1 b2 n0 n1 n2 n3 n4 n5 n6 n7 c0 c1 c2 c3 c4 c5 c6 doers isTelling order stepsAt doubts weights rows metEver bowedTo isStale bowCount doubtCount seenBows likeliest mostSayingsSo bsize bcells ssize scells dsize dcells people rule believed)) ⟨hx, hb, hml, hown, hts⟩ (c_X2_wearersOf (ca := ca) (ev := ev) (n0 := n0) (n1 := n1) (n2 := n2) (n3 := n3) (n4 := n4) (n5 := n5) (n6 := n6) (n7 := n7) (c0 := c0) (c1 := c1) (c2 := c2) (c3 := c3) (c4 := c4) (c5 := c5) (c6 := c6) (order := order) (stepsAt := stepsAt) (doubts := doubts) (weights := weights) (rows := rows) (metEver := metEver) (bowedTo := bowedTo) (isStale := isStale) (bowCount := bowCount) (doubtCount := doubtCount) (seenBows := seenBows) (likeliest := likeliest) (mostSayingsSo := mostSayingsSo) (bsize := bsize) (bcells := bcells) (ssize := ssize) (scells := scells) (dsize := dsize) (dcells := dcells) (people := people) (rule := rule) (believed := believed) e_3) (cwV 2 hts gX1_doersOf_X2_wearersOf rfl rfl rfl hd_X2_wearersOf ⟨Nat.le_of_ble_eq_true rfl, Nat.le_of_ble_eq_true rfl⟩) hK hP hD hS hA hE wp_9 (q0 := 0) (ci := 2) rfl rfl rfl rfl hl.1 rfl (Nat.le_of_ble_eq_true rfl) dX1_doersOf_16 ⟨Nat.zero_le _, Nat.zero_le _⟩ (fun H locs hP hD hS => ?_)
  obtain rfl := Option.some.inj h
  exact hRet hP hD hS dX1_doersOf_19
abbrev rm_X1_othersOf : Room := { frames := 4, cells := 0, slots := 0, locals := 86 }
theorem hd_X1_othersOf : yX1_othersOf.cls = RX1 ∧ yX1_othersOf.cls ≠ "java/lang/invoke/MethodHandle" ∧ yX1_othersOf.cls ≠ "java/lang/invoke/VarHandle" ∧ (parseMethodDescriptor yX1_othersOf.desc).map (fun d => d.parameters.length) = some 1 := by decide +kernel
set_option maxHeartbeats 4000000 in
set_option maxRecDepth 100000 in
theorem c_X1_othersOf {l : Launch} {G : va_G} {ca : Nat → ClassId} {ev : Nat → Nat} {b0 b1 b2 n0 n1 n2 n3 n4 n5 n6 n7 c0 c1 c2 c3 c4 c5 c6 : Nat} {doers : (Nat → Int64)} {isTelling : (Nat → Int32)} {order : (Nat → Int32)} {stepsAt : (Nat → Int32)} {doubts : (Nat → Int32)} {weights : (Nat → Int32)} {rows : (Nat → Int32)} {metEver : (Nat → Int32)} {bowedTo : (Nat → Int32)} {isStale : Int32} {bowCount : Int32} {doubtCount : Int32} {seenBows : Int32} {likeliest : Int32} {mostSayingsSo : Int32} {bsize : Int32} {bcells : (Nat → Int32)} {ssize : Int32} {scells : (Nat → Int32)} {dsize : Int32} {dcells : (Nat → Int32)} {people : Int32} {rule : Int32} {believed : Int32} {a1 : Int32} {N : Nat} {res : Int32} (h : f_X1_othersOf N stepsAt weights rows doubtCount dsize dcells a1 = some res) : CtI l yX1_othersOf wsX1_othersOf rm_X1_othersOf G ca ev [.ref b0, .int a1] (wB ca ev b0 b1 b2 n0 n1 n2 n3 n4 n5 n6 n7 c0 c1 c2 c3 c4 c5 c6 doers isTelling order stepsAt doubts weights rows metEver bowedTo isStale bowCount doubtCount seenBows likeliest mostSayingsSo bsize bcells ssize scells dsize dcells people rule believed) (wB ca ev b0 b1 b2 n0 n1 n2 n3 n4 n5 n6 n7 c0 c1 c2 c3 c4 c5 c6 doers isTelling order stepsAt doubts weights rows metEver bowedTo isStale bowCount doubtCount seenBows likeliest mostSayingsSo bsize bcells ssize scells dsize dcells people rule believed) res := by
  unfold f_X1_othersOf at h
  refine en_i (by decide) rfl (Nat.le_of_ble_eq_true rfl) ?_
  intro p e s m args below meth c A Q H locs ls hx hb hml hown hts hA hP hK hD hE hS hl hRet
  have hown : s.vm.findClass RX1 = some m.cls := hown
  have hl : lv_has ls 2 [(0, .ref b0), (1, .int a1)] := hl
  have hin_X1 : ∀ w ∈ u_ws RX1 TX1 4, w ∈ wsX1_othersOf := fun w h9 => List.mem_cons_of_mem _ (List.mem_append_left _ (List.mem_append_left _ (List.mem_append_left _ (List.mem_append_right _ h9))))
  have fk_23 := hts (.fieldLink RX1 23 "MaskBows$DeedBook" "table" "LMaskBows$Nights;") (by decide +kernel)
  refine lv_aload_n hx hb dX1_othersOf_0 rfl (lv_at hl 0 rfl) ?_
  refine va_get (D := G) (ci := 1) (v := .ref n0) (C := RX1) (T := TX1) (N := 4) hx hb hts hin_X1 hown hK hP 0 rfl rfl 1 (by decide) fk_23 (fun _ h9 => h9) rfl dX1_othersOf_1 ?_
  refine lv_aload_n hx hb dX1_othersOf_4 rfl (lv_at hl 0 rfl) ?_
  refine lv_iload_n hx hb dX1_othersOf_5 rfl (lv_at hl 1 rfl) ?_
  refine lv_iconst (v := (3 : Int32)) hx hb dX1_othersOf_6 (by decide) ?_
  obtain ⟨u_1, e_1, h⟩ := bd_some h
  refine cm_Vi (As := [.int a1, .int (3 : Int32)]) (rest := [.ref n0]) ⟨hx, hb, hml, hown, hts⟩ (c_X1_part (ca := ca) (ev := ev) (b0 := b0) (b1 := b1) (b2 := b2) (n0 := n0) (n1 := n1) (n2 := n2) (n3 := n3) (n4 := n4) (n5 := n5) (n6 := n6) (n7 := n7) (c0 := c0) (c1 := c1) (c2 := c2) (c3 := c3) (c4 := c4) (c5 := c5) (c6 := c6) (doers := doers) (isTelling := isTelling) (order := order) (stepsAt := stepsAt) (doubts := doubts) (weights := weights) (rows := rows) (metEver := metEver) (bowedTo := bowedTo) (isStale := isStale) (bowCount := bowCount) (doubtCount := doubtCount) (seenBows := seenBows) (likeliest := likeliest) (mostSayingsSo := mostSayingsSo) (bsize := bsize) (bcells := bcells) (ssize := ssize) (scells := scells) (dsize := dsize) (dcells := dcells) (people := people) (rule := rule) (believed := believed) e_1) (cwV 2 hts gX1_othersOf_X1_part rfl rfl rfl hd_X1_part ⟨Nat.le_of_ble_eq_true rfl, Nat.le_of_ble_eq_true rfl⟩) hK hP hD hS hA hE (q0 := 0) (ci := 1) rfl rfl rfl rfl hl.1 rfl (Nat.le_of_ble_eq_true rfl) dX1_othersOf_7 ⟨Nat.zero_le _, Nat.zero_le _⟩ (fun H locs hP hD hS => ?_)
  refine lv_aload_n hx hb dX1_othersOf_10 rfl (lv_at hl 0 rfl) ?_
  refine lv_iload_n hx hb dX1_othersOf_11 rfl (lv_at hl 1 rfl) ?_
  refine lv_iconst (v := (1 : Int32)) hx hb dX1_othersOf_12 (by decide) ?_
  obtain ⟨u_2, e_2, h⟩ := bd_some h
  refine cm_Vi (As := [.int a1, .int (1 : Int32)]) (rest := [.int u_1, .ref n0]) ⟨hx, hb, hml, hown, hts⟩ (c_X1_part (ca := ca) (ev := ev) (b0 := b0) (b1 := b1) (b2 := b2) (n0 := n0) (n1 := n1) (n2 := n2) (n3 := n3) (n4 := n4) (n5 := n5) (n6 := n6) (n7 := n7) (c0 := c0) (c1 := c1) (c2 := c2) (c3 := c3) (c4 := c4) (c5 := c5) (c6 := c6) (doers := doers) (isTelling := isTelling) (order := order) (stepsAt := stepsAt) (doubts := doubts) (weights := weights) (rows := rows) (metEver := metEver) (bowedTo := bowedTo) (isStale := isStale) (bowCount := bowCount) (doubtCount := doubtCount) (seenBows := seenBows) (likeliest := likeliest) (mostSayingsSo := mostSayingsSo) (bsize := bsize) (bcells := bcells) (ssize := ssize) (scells := scells) (dsize := dsize) (dcells := dcells) (people := people) (rule := rule) (believed := believed) e_2) (cwV 2 hts gX1_othersOf_X1_part rfl rfl rfl hd_X1_part ⟨Nat.le_of_ble_eq_true rfl, Nat.le_of_ble_eq_true rfl⟩) hK hP hD hS hA hE (q0 := 0) (ci := 1) rfl rfl rfl rfl hl.1 rfl (Nat.le_of_ble_eq_true rfl) dX1_othersOf_13 ⟨Nat.zero_le _, Nat.zero_le _⟩ (fun H locs hP hD hS => ?_)
  obtain ⟨u_3, e_3, h⟩ := bd_some h
  refine cl_Vi (As := [.int u_1, .int u_2]) (rest := []) (Wn := (wB ca ev b0 b1 b2 n0 n1 n2 n3 n4 n5 n6 n7 c0 c1 c2 c3 c4 c5 c6 doers isTelling order stepsAt doubts weights rows metEver bowedTo isStale bowCount doubtCount seenBows likeliest mostSayingsSo bsize bcells ssize scells dsize dcells people rule believed)) ⟨hx, hb, hml, hown, hts⟩ (c_X2_wearersOf (ca := ca) (ev := ev) (n0 := n0) (n1 := n1) (n2 := n2) (n3 := n3) (n4 := n4) (n5 := n5) (n6 := n6) (n7 := n7) (c0 := c0) (c1 := c1) (c2 := c2) (c3 := c3) (c4 := c4) (c5 := c5) (c6 := c6) (order := order) (stepsAt := stepsAt) (doubts := doubts) (weights := weights) (rows := rows) (metEver := metEver) (bowedTo := bowedTo) (isStale := isStale) (bowCount := bowCount) (doubtCount := doubtCount) (seenBows := seenBows) (likeliest := likeliest) (mostSayingsSo := mostSayingsSo) (bsize := bsize) (bcells := bcells) (ssize := ssize) (scells := scells) (dsize := dsize) (dcells := dcells) (people := people) (rule := rule) (believed := believed) e_3) (cwV 2 hts gX1_othersOf_X2_wearersOf rfl rfl rfl hd_X2_wearersOf ⟨Nat.le_of_ble_eq_true rfl, Nat.le_of_ble_eq_true rfl⟩) hK hP hD hS hA hE wp_9 (q0 := 0) (ci := 2) rfl rfl rfl rfl hl.1 rfl (Nat.le_of_ble_eq_true rfl) dX1_othersOf_16 ⟨Nat.zero_le _, Nat.zero_le _⟩ (fun H locs hP hD hS => ?_)
  obtain rfl := Option.some.inj h
  exact hRet hP hD hS dX1_othersOf_19
abbrev rm_X1_doerIn : Room := { frames := 2, cells := 0, slots := 0, locals := 44 }
theorem hd_X1_doerIn : yX1_doerIn.cls = RX1 ∧ yX1_doerIn.cls ≠ "java/lang/invoke/MethodHandle" ∧ yX1_doerIn.cls ≠ "java/lang/invoke/VarHandle" ∧ (parseMethodDescriptor yX1_doerIn.desc).map (fun d => d.parameters.length) = some 2 := by decide +kernel
set_option maxHeartbeats 4000000 in
set_option maxRecDepth 100000 in
theorem c_X1_doerIn {l : Launch} {G : va_G} {ca : Nat → ClassId} {ev : Nat → Nat} {b0 b1 b2 n0 n1 n2 n3 n4 n5 n6 n7 c0 c1 c2 c3 c4 c5 c6 : Nat} {doers : (Nat → Int64)} {isTelling : (Nat → Int32)} {order : (Nat → Int32)} {stepsAt : (Nat → Int32)} {doubts : (Nat → Int32)} {weights : (Nat → Int32)} {rows : (Nat → Int32)} {metEver : (Nat → Int32)} {bowedTo : (Nat → Int32)} {isStale : Int32} {bowCount : Int32} {doubtCount : Int32} {seenBows : Int32} {likeliest : Int32} {mostSayingsSo : Int32} {bsize : Int32} {bcells : (Nat → Int32)} {ssize : Int32} {scells : (Nat → Int32)} {dsize : Int32} {dcells : (Nat → Int32)} {people : Int32} {rule : Int32} {believed : Int32} {a1 : Int32} {a2 : Int32} {res : Int32} (h : f_X1_doerIn stepsAt rows dsize dcells a1 a2 = some res) : CtI l yX1_doerIn wsX1_doerIn rm_X1_doerIn G ca ev [.ref b0, .int a1, .int a2] (wB ca ev b0 b1 b2 n0 n1 n2 n3 n4 n5 n6 n7 c0 c1 c2 c3 c4 c5 c6 doers isTelling order stepsAt doubts weights rows metEver bowedTo isStale bowCount doubtCount seenBows likeliest mostSayingsSo bsize bcells ssize scells dsize dcells people rule believed) (wB ca ev b0 b1 b2 n0 n1 n2 n3 n4 n5 n6 n7 c0 c1 c2 c3 c4 c5 c6 doers isTelling order stepsAt doubts weights rows metEver bowedTo isStale bowCount doubtCount seenBows likeliest mostSayingsSo bsize bcells ssize scells dsize dcells people rule believed) res := by
  unfold f_X1_doerIn at h
  refine en_i (by decide) rfl (Nat.le_of_ble_eq_true rfl) ?_
  intro p e s m args below meth c A Q H locs ls hx hb hml hown hts hA hP hK hD hE hS hl hRet
  have hown : s.vm.findClass RX1 = some m.cls := hown
  have hl : lv_has ls 3 [(0, .ref b0), (1, .int a1), (2, .int a2)] := hl
  have hin_X1 : ∀ w ∈ u_ws RX1 TX1 4, w ∈ wsX1_doerIn := fun w h9 => List.mem_cons_of_mem _ (List.mem_append_left _ (List.mem_append_left _ (List.mem_append_left _ (List.mem_append_right _ h9))))
  have fk_23 := hts (.fieldLink RX1 23 "MaskBows$DeedBook" "table" "LMaskBows$Nights;") (by decide +kernel)
  refine lv_aload_n hx hb dX1_doerIn_0 rfl (lv_at hl 0 rfl) ?_
  refine va_get (D := G) (ci := 1) (v := .ref n0) (C := RX1) (T := TX1) (N := 4) hx hb hts hin_X1 hown hK hP 0 rfl rfl 1 (by decide) fk_23 (fun _ h9 => h9) rfl dX1_doerIn_1 ?_
  refine lv_iload_n hx hb dX1_doerIn_4 rfl (lv_at hl 1 rfl) ?_
  refine lv_aload_n hx hb dX1_doerIn_5 rfl (lv_at hl 0 rfl) ?_
  refine lv_iload_n hx hb dX1_doerIn_6 rfl (lv_at hl 2 rfl) ?_
  refine lv_iconst (v := (1 : Int32)) hx hb dX1_doerIn_7 (by decide) ?_
  obtain ⟨u_1, e_1, h⟩ := bd_some h
  refine cm_Vi (As := [.int a2, .int (1 : Int32)]) (rest := [.int a1, .ref n0]) ⟨hx, hb, hml, hown, hts⟩ (c_X1_part (ca := ca) (ev := ev) (b0 := b0) (b1 := b1) (b2 := b2) (n0 := n0) (n1 := n1) (n2 := n2) (n3 := n3) (n4 := n4) (n5 := n5) (n6 := n6) (n7 := n7) (c0 := c0) (c1 := c1) (c2 := c2) (c3 := c3) (c4 := c4) (c5 := c5) (c6 := c6) (doers := doers) (isTelling := isTelling) (order := order) (stepsAt := stepsAt) (doubts := doubts) (weights := weights) (rows := rows) (metEver := metEver) (bowedTo := bowedTo) (isStale := isStale) (bowCount := bowCount) (doubtCount := doubtCount) (seenBows := seenBows) (likeliest := likeliest) (mostSayingsSo := mostSayingsSo) (bsize := bsize) (bcells := bcells) (ssize := ssize) (scells := scells) (dsize := dsize) (dcells := dcells) (people := people) (rule := rule) (believed := believed) e_1) (cwV 2 hts gX1_doerIn_X1_part rfl rfl rfl hd_X1_part ⟨Nat.le_of_ble_eq_true rfl, Nat.le_of_ble_eq_true rfl⟩) hK hP hD hS hA hE (q0 := 0) (ci := 1) rfl rfl rfl rfl hl.1 rfl (Nat.le_of_ble_eq_true rfl) dX1_doerIn_8 ⟨Nat.zero_le _, Nat.zero_le _⟩ (fun H locs hP hD hS => ?_)
  obtain ⟨u_2, e_2, h⟩ := bd_some h
  refine cl_Vi (As := [.int a1, .int u_1]) (rest := []) (Wn := (wB ca ev b0 b1 b2 n0 n1 n2 n3 n4 n5 n6 n7 c0 c1 c2 c3 c4 c5 c6 doers isTelling order stepsAt doubts weights rows metEver bowedTo isStale bowCount doubtCount seenBows likeliest mostSayingsSo bsize bcells ssize scells dsize dcells people rule believed)) ⟨hx, hb, hml, hown, hts⟩ (c_X2_row (ca := ca) (ev := ev) (n0 := n0) (n1 := n1) (n2 := n2) (n3 := n3) (n4 := n4) (n5 := n5) (n6 := n6) (n7 := n7) (c0 := c0) (c1 := c1) (c2 := c2) (c3 := c3) (c4 := c4) (c5 := c5) (c6 := c6) (order := order) (stepsAt := stepsAt) (doubts := doubts) (weights := weights) (rows := rows) (metEver := metEver) (bowedTo := bowedTo) (isStale := isStale) (bowCount := bowCount) (doubtCount := doubtCount) (seenBows := seenBows) (likeliest := likeliest) (mostSayingsSo := mostSayingsSo) (bsize := bsize) (bcells := bcells) (ssize := ssize) (scells := scells) (dsize := dsize) (dcells := dcells) (people := people) (rule := rule) (believed := believed) e_2) (cwV 2 hts gX1_doerIn_X2_row rfl rfl rfl hd_X2_row ⟨Nat.le_of_ble_eq_true rfl, Nat.le_of_ble_eq_true rfl⟩) hK hP hD hS hA hE wp_9 (q0 := 0) (ci := 2) rfl rfl rfl rfl hl.1 rfl (Nat.le_of_ble_eq_true rfl) dX1_doerIn_11 ⟨Nat.zero_le _, Nat.zero_le _⟩ (fun H locs hP hD hS => ?_)
  refine lv_aload_n hx hb dX1_doerIn_14 rfl (lv_at hl 0 rfl) ?_
  refine lv_iload_n hx hb dX1_doerIn_15 rfl (lv_at hl 2 rfl) ?_
  refine lv_iconst (v := (2 : Int32)) hx hb dX1_doerIn_16 (by decide) ?_
  obtain ⟨u_3, e_3, h⟩ := bd_some h
  refine cm_Vi (As := [.int a2, .int (2 : Int32)]) (rest := [.int u_2]) ⟨hx, hb, hml, hown, hts⟩ (c_X1_part (ca := ca) (ev := ev) (b0 := b0) (b1 := b1) (b2 := b2) (n0 := n0) (n1 := n1) (n2 := n2) (n3 := n3) (n4 := n4) (n5 := n5) (n6 := n6) (n7 := n7) (c0 := c0) (c1 := c1) (c2 := c2) (c3 := c3) (c4 := c4) (c5 := c5) (c6 := c6) (doers := doers) (isTelling := isTelling) (order := order) (stepsAt := stepsAt) (doubts := doubts) (weights := weights) (rows := rows) (metEver := metEver) (bowedTo := bowedTo) (isStale := isStale) (bowCount := bowCount) (doubtCount := doubtCount) (seenBows := seenBows) (likeliest := likeliest) (mostSayingsSo := mostSayingsSo) (bsize := bsize) (bcells := bcells) (ssize := ssize) (scells := scells) (dsize := dsize) (dcells := dcells) (people := people) (rule := rule) (believed := believed) e_3) (cwV 2 hts gX1_doerIn_X1_part rfl rfl rfl hd_X1_part ⟨Nat.le_of_ble_eq_true rfl, Nat.le_of_ble_eq_true rfl⟩) hK hP hD hS hA hE (q0 := 0) (ci := 1) rfl rfl rfl rfl hl.1 rfl (Nat.le_of_ble_eq_true rfl) dX1_doerIn_17 ⟨Nat.zero_le _, Nat.zero_le _⟩ (fun H locs hP hD hS => ?_)
  obtain ⟨u_4, e_4, h⟩ := bd_some h
  refine cn_Ni (As := [.int u_2, .int u_3]) (rest := []) ⟨hx, hb, hml, hown, hts⟩ (c_X7_wearer e_4) (⟨va_cnB 2 hts gX1_doerIn_X7_wearer_n101 rfl rfl rfl (hE.2.1 ("MaskBows$DeedBook", 101, ⟨"MaskBows", "wearer", "(II)I"⟩, "MaskBows") (by decide +kernel)) (hts (.initialized RX7) (by decide +kernel)) hd_X7_wearer ⟨Nat.le_of_ble_eq_true rfl, Nat.le_of_ble_eq_true rfl⟩, hts (.static yX7_wearer) (by decide +kernel), trivial⟩) hK hP hD hS hA hE rfl hl.1 rfl (Nat.le_of_ble_eq_true rfl) dX1_doerIn_20 ⟨Nat.zero_le _, Nat.zero_le _⟩ (fun H locs hP hD hS => ?_)
  obtain rfl := Option.some.inj h
  exact hRet hP hD hS dX1_doerIn_23
abbrev rm_X1_oddsOfOneDoer : Room := { frames := 3, cells := 0, slots := 0, locals := 66 }
theorem hd_X1_oddsOfOneDoer : yX1_oddsOfOneDoer.cls = RX1 ∧ yX1_oddsOfOneDoer.cls ≠ "java/lang/invoke/MethodHandle" ∧ yX1_oddsOfOneDoer.cls ≠ "java/lang/invoke/VarHandle" ∧ (parseMethodDescriptor yX1_oddsOfOneDoer.desc).map (fun d => d.parameters.length) = some 2 := by decide +kernel
set_option maxHeartbeats 4000000 in
set_option maxRecDepth 100000 in
theorem c_X1_oddsOfOneDoer {l : Launch} {G : va_G} {ca : Nat → ClassId} {ev : Nat → Nat} {b0 b1 b2 n0 n1 n2 n3 n4 n5 n6 n7 c0 c1 c2 c3 c4 c5 c6 : Nat} {doers : (Nat → Int64)} {isTelling : (Nat → Int32)} {order : (Nat → Int32)} {stepsAt : (Nat → Int32)} {doubts : (Nat → Int32)} {weights : (Nat → Int32)} {rows : (Nat → Int32)} {metEver : (Nat → Int32)} {bowedTo : (Nat → Int32)} {isStale : Int32} {bowCount : Int32} {doubtCount : Int32} {seenBows : Int32} {likeliest : Int32} {mostSayingsSo : Int32} {bsize : Int32} {bcells : (Nat → Int32)} {ssize : Int32} {scells : (Nat → Int32)} {dsize : Int32} {dcells : (Nat → Int32)} {people : Int32} {rule : Int32} {believed : Int32} {a1 : Int32} {a2 : Int32} {N : Nat} {res : Int64} (h : f_X1_oddsOfOneDoer N stepsAt weights rows doubtCount dsize dcells a1 a2 = some res) : CtL l yX1_oddsOfOneDoer wsX1_oddsOfOneDoer rm_X1_oddsOfOneDoer G ca ev [.ref b0, .int a1, .int a2] (wB ca ev b0 b1 b2 n0 n1 n2 n3 n4 n5 n6 n7 c0 c1 c2 c3 c4 c5 c6 doers isTelling order stepsAt doubts weights rows metEver bowedTo isStale bowCount doubtCount seenBows likeliest mostSayingsSo bsize bcells ssize scells dsize dcells people rule believed) (wB ca ev b0 b1 b2 n0 n1 n2 n3 n4 n5 n6 n7 c0 c1 c2 c3 c4 c5 c6 doers isTelling order stepsAt doubts weights rows metEver bowedTo isStale bowCount doubtCount seenBows likeliest mostSayingsSo bsize bcells ssize scells dsize dcells people rule believed) res := by
  unfold f_X1_oddsOfOneDoer at h
  refine en_l (by decide) rfl (Nat.le_of_ble_eq_true rfl) ?_
  intro p e s m args below meth c A Q H locs ls hx hb hml hown hts hA hP hK hD hE hS hl hRet
  have hown : s.vm.findClass RX1 = some m.cls := hown
  have hl : lv_has ls 6 [(0, .ref b0), (1, .int a1), (2, .int a2)] := hl
  have hin_X1 : ∀ w ∈ u_ws RX1 TX1 4, w ∈ wsX1_oddsOfOneDoer := fun w h9 => List.mem_cons_of_mem _ (List.mem_append_left _ (List.mem_append_left _ (List.mem_append_left _ (List.mem_append_right _ h9))))
  have fk_23 := hts (.fieldLink RX1 23 "MaskBows$DeedBook" "table" "LMaskBows$Nights;") (by decide +kernel)
  refine lv_lconst (v := (0 : Int64)) hx hb dX1_oddsOfOneDoer_0 (by decide) ?_
  refine lv_lstore_n (lv' := [(3, .long (0 : Int64)), (0, .ref b0), (1, .int a1), (2, .int a2)]) hx hb dX1_oddsOfOneDoer_1 rfl hl (by decide) rfl (fun ls hl => ?_)
  refine lv_iconst (v := (0 : Int32)) hx hb dX1_oddsOfOneDoer_2 (by decide) ?_
  refine lv_istore (lv' := [(5, .int (0 : Int32)), (3, .long (0 : Int64)), (0, .ref b0), (1, .int a1), (2, .int a2)]) hx hb dX1_oddsOfOneDoer_3 hl (by decide) rfl (fun ls hl => ?_)
  have L_5 : ∀ {x1_5 : Int32} {x2_5 : Int32} {stepsAt_5 : (Nat → Int32)} {weights_5 : (Nat → Int32)} {rows_5 : (Nat → Int32)} {doubtCount_5 : Int32} {dsize_5 : Int32} {dcells_5 : (Nat → Int32)} (n_5 : Nat) {x3_5 : Int64} {x5_5 : Int32} {uL_5 : Int64} {H : Heap} {locs : List Loc} {ls : Array Slot}, f_X1_oddsOfOneDoer_5 x1_5 x2_5 stepsAt_5 weights_5 rows_5 doubtCount_5 dsize_5 dcells_5  n_5 x3_5 x5_5 = some uL_5 → va_P G vwCl (wB ca ev b0 b1 b2 n0 n1 n2 n3 n4 n5 n6 n7 c0 c1 c2 c3 c4 c5 c6 doers isTelling order stepsAt_5 doubts weights_5 rows_5 metEver bowedTo isStale bowCount doubtCount_5 seenBows likeliest mostSayingsSo bsize bcells ssize scells dsize_5 dcells_5 people rule believed) H → va_D A (wB ca ev b0 b1 b2 n0 n1 n2 n3 n4 n5 n6 n7 c0 c1 c2 c3 c4 c5 c6 doers isTelling order stepsAt_5 doubts weights_5 rows_5 metEver bowedTo isStale bowCount doubtCount_5 seenBows likeliest mostSayingsSo bsize bcells ssize scells dsize_5 dcells_5 people rule believed) → va_S A s.heap H locs → lv_has ls 6 [(0, .ref b0), (1, .int x1_5), (2, .int x2_5), (3, .long x3_5), (5, .int x5_5)] → (∀ {H : Heap} {locs : List Loc} {ls : Array Slot}, va_P G vwCl (wB ca ev b0 b1 b2 n0 n1 n2 n3 n4 n5 n6 n7 c0 c1 c2 c3 c4 c5 c6 doers isTelling order stepsAt_5 doubts weights_5 rows_5 metEver bowedTo isStale bowCount doubtCount_5 seenBows likeliest mostSayingsSo bsize bcells ssize scells dsize_5 dcells_5 people rule believed) H → va_D A (wB ca ev b0 b1 b2 n0 n1 n2 n3 n4 n5 n6 n7 c0 c1 c2 c3 c4 c5 c6 doers isTelling order stepsAt_5 doubts weights_5 rows_5 metEver bowedTo isStale bowCount doubtCount_5 seenBows likeliest mostSayingsSo bsize bcells ssize scells dsize_5 dcells_5 people rule believed) → va_S A s.heap H locs → lv_has ls 6 [(3, .long uL_5)] → W p l e rm_X1_oddsOfOneDoer s m args below meth c H locs 0 0 Q (F0 m 53 ls [])) → W p l e rm_X1_oddsOfOneDoer s m args below meth c H locs 0 0 Q (F0 m 5 ls []) := by
    intro x1_5 x2_5 stepsAt_5 weights_5 rows_5 doubtCount_5 dsize_5 dcells_5 n_5
    induction n_5 with
    | zero => intro x3_5 x5_5 uL_5 H locs ls h; exact absurd h (by rw [f_X1_oddsOfOneDoer_5]; exact fun z => nomatch z)
    | succ n_5 ih =>
      intro x3_5 x5_5 uL_5 H locs ls h hP hD hS hl JK_5
      rw [f_X1_oddsOfOneDoer_5] at h
      refine lv_iload hx hb dX1_oddsOfOneDoer_5 (lv_at hl 4 rfl) ?_
      refine lv_aload_n hx hb dX1_oddsOfOneDoer_7 rfl (lv_at hl 0 rfl) ?_
      refine va_get (D := G) (ci := 1) (v := .ref n0) (C := RX1) (T := TX1) (N := 4) hx hb hts hin_X1 hown hK hP 0 rfl rfl 1 (by decide) fk_23 (fun _ h9 => h9) rfl dX1_oddsOfOneDoer_8 ?_
      obtain ⟨u_1, e_1, h⟩ := bd_some h
      refine cl_Vi (As := []) (rest := [.int x5_5]) (Wn := (wB ca ev b0 b1 b2 n0 n1 n2 n3 n4 n5 n6 n7 c0 c1 c2 c3 c4 c5 c6 doers isTelling order stepsAt_5 doubts weights_5 rows_5 metEver bowedTo isStale bowCount doubtCount_5 seenBows likeliest mostSayingsSo bsize bcells ssize scells dsize_5 dcells_5 people rule believed)) ⟨hx, hb, hml, hown, hts⟩ (c_X2_size (ca := ca) (ev := ev) (n0 := n0) (n1 := n1) (n2 := n2) (n3 := n3) (n4 := n4) (n5 := n5) (n6 := n6) (n7 := n7) (c0 := c0) (c1 := c1) (c2 := c2) (c3 := c3) (c4 := c4) (c5 := c5) (c6 := c6) (order := order) (stepsAt := stepsAt_5) (doubts := doubts) (weights := weights_5) (rows := rows_5) (metEver := metEver) (bowedTo := bowedTo) (isStale := isStale) (bowCount := bowCount) (doubtCount := doubtCount_5) (seenBows := seenBows) (likeliest := likeliest) (mostSayingsSo := mostSayingsSo) (bsize := bsize) (bcells := bcells) (ssize := ssize) (scells := scells) (dsize := dsize_5) (dcells := dcells_5) (people := people) (rule := rule) (believed := believed) e_1) (cwV 0 hts gX1_oddsOfOneDoer_X2_size rfl rfl rfl hd_X2_size ⟨Nat.le_of_ble_eq_true rfl, Nat.le_of_ble_eq_true rfl⟩) hK hP hD hS hA hE wp_9 (q0 := 0) (ci := 2) rfl rfl rfl rfl hl.1 rfl (Nat.le_of_ble_eq_true rfl) dX1_oddsOfOneDoer_11 ⟨Nat.zero_le _, Nat.zero_le _⟩ (fun H locs hP hD hS => ?_)
      refine lv_icmp_ge (tgt := 53) hx hb dX1_oddsOfOneDoer_14 (by decide) (fun c_2 => ?_) (fun c_2 => ?_)
      · have h := ifp c_2 h
        obtain rfl := Option.some.inj h
        exact JK_5 hP hD hS (lv_sub hl [3] rfl)
      · have h := ifn c_2 h
        refine lv_aload_n hx hb dX1_oddsOfOneDoer_17 rfl (lv_at hl 0 rfl) ?_
        refine lv_iload hx hb dX1_oddsOfOneDoer_18 (lv_at hl 4 rfl) ?_
        refine lv_iload_n hx hb dX1_oddsOfOneDoer_20 rfl (lv_at hl 1 rfl) ?_
        obtain ⟨u_3, e_3, h⟩ := bd_some h
        refine cm_Vi (As := [.int x5_5, .int x1_5]) (rest := []) ⟨hx, hb, hml, hown, hts⟩ (c_X1_doerIn (ca := ca) (ev := ev) (b0 := b0) (b1 := b1) (b2 := b2) (n0 := n0) (n1 := n1) (n2 := n2) (n3 := n3) (n4 := n4) (n5 := n5) (n6 := n6) (n7 := n7) (c0 := c0) (c1 := c1) (c2 := c2) (c3 := c3) (c4 := c4) (c5 := c5) (c6 := c6) (doers := doers) (isTelling := isTelling) (order := order) (stepsAt := stepsAt_5) (doubts := doubts) (weights := weights_5) (rows := rows_5) (metEver := metEver) (bowedTo := bowedTo) (isStale := isStale) (bowCount := bowCount) (doubtCount := doubtCount_5) (seenBows := seenBows) (likeliest := likeliest) (mostSayingsSo := mostSayingsSo) (bsize := bsize) (bcells := bcells) (ssize := ssize) (scells := scells) (dsize := dsize_5) (dcells := dcells_5) (people := people) (rule := rule) (believed := believed) e_3) (cwV 2 hts gX1_oddsOfOneDoer_X1_doerIn rfl rfl rfl hd_X1_doerIn ⟨Nat.le_of_ble_eq_true rfl, Nat.le_of_ble_eq_true rfl⟩) hK hP hD hS hA hE (q0 := 0) (ci := 1) rfl rfl rfl rfl hl.1 rfl (Nat.le_of_ble_eq_true rfl) dX1_oddsOfOneDoer_21 ⟨Nat.zero_le _, Nat.zero_le _⟩ (fun H locs hP hD hS => ?_)
        refine lv_aload_n hx hb dX1_oddsOfOneDoer_24 rfl (lv_at hl 0 rfl) ?_
        refine lv_iload hx hb dX1_oddsOfOneDoer_25 (lv_at hl 4 rfl) ?_
        refine lv_iload_n hx hb dX1_oddsOfOneDoer_27 rfl (lv_at hl 2 rfl) ?_
        obtain ⟨u_4, e_4, h⟩ := bd_some h
        refine cm_Vi (As := [.int x5_5, .int x2_5]) (rest := [.int u_3]) ⟨hx, hb, hml, hown, hts⟩ (c_X1_doerIn (ca := ca) (ev := ev) (b0 := b0) (b1 := b1) (b2 := b2) (n0 := n0) (n1 := n1) (n2 := n2) (n3 := n3) (n4 := n4) (n5 := n5) (n6 := n6) (n7 := n7) (c0 := c0) (c1 := c1) (c2 := c2) (c3 := c3) (c4 := c4) (c5 := c5) (c6 := c6) (doers := doers) (isTelling := isTelling) (order := order) (stepsAt := stepsAt_5) (doubts := doubts) (weights := weights_5) (rows := rows_5) (metEver := metEver) (bowedTo := bowedTo) (isStale := isStale) (bowCount := bowCount) (doubtCount := doubtCount_5) (seenBows := seenBows) (likeliest := likeliest) (mostSayingsSo := mostSayingsSo) (bsize := bsize) (bcells := bcells) (ssize := ssize) (scells := scells) (dsize := dsize_5) (dcells := dcells_5) (people := people) (rule := rule) (believed := believed) e_4) (cwV 2 hts gX1_oddsOfOneDoer_X1_doerIn rfl rfl rfl hd_X1_doerIn ⟨Nat.le_of_ble_eq_true rfl, Nat.le_of_ble_eq_true rfl⟩) hK hP hD hS hA hE (q0 := 0) (ci := 1) rfl rfl rfl rfl hl.1 rfl (Nat.le_of_ble_eq_true rfl) dX1_oddsOfOneDoer_28 ⟨Nat.zero_le _, Nat.zero_le _⟩ (fun H locs hP hD hS => ?_)
        obtain ⟨u_5, e_5, h⟩ := bd_some h
        have J_5 : ∀ {H : Heap} {locs : List Loc} {ls : Array Slot}, va_P G vwCl (wB ca ev b0 b1 b2 n0 n1 n2 n3 n4 n5 n6 n7 c0 c1 c2 c3 c4 c5 c6 doers isTelling order stepsAt_5 doubts weights_5 rows_5 metEver bowedTo isStale bowCount doubtCount_5 seenBows likeliest mostSayingsSo bsize bcells ssize scells dsize_5 dcells_5 people rule believed) H → va_D A (wB ca ev b0 b1 b2 n0 n1 n2 n3 n4 n5 n6 n7 c0 c1 c2 c3 c4 c5 c6 doers isTelling order stepsAt_5 doubts weights_5 rows_5 metEver bowedTo isStale bowCount doubtCount_5 seenBows likeliest mostSayingsSo bsize bcells ssize scells dsize_5 dcells_5 people rule believed) → va_S A s.heap H locs → lv_has ls 6 [(0, .ref b0), (1, .int x1_5), (2, .int x2_5), (3, .long u_5), (5, .int x5_5)] → W p l e rm_X1_oddsOfOneDoer s m args below meth c H locs 0 0 Q (F0 m 47 ls []) := by
          intro H locs ls hP hD hS hl 
          refine lv_iinc (v := (x5_5 + (1 : Int32))) (lv' := [(5, .int (x5_5 + (1 : Int32))), (0, .ref b0), (1, .int x1_5), (2, .int x2_5), (3, .long u_5)]) hx hb dX1_oddsOfOneDoer_47 hl (k := 4) rfl rfl (by decide) rfl (fun ls hl => ?_)
          refine lv_goto (tgt := 5) hx hb dX1_oddsOfOneDoer_50 (by decide) ?_
          exact ih h hP hD hS (lv_sub hl [1, 2, 3, 4, 0] rfl) JK_5
        have h := e_5
        clear e_5
        refine lv_icmp_ne (tgt := 47) hx hb dX1_oddsOfOneDoer_31 (by decide) (fun c_5 => ?_) (fun c_5 => ?_)
        · have h := ifn c_5 h
          obtain rfl := Option.some.inj h
          exact J_5 hP hD hS (lv_sub hl [0, 1, 2, 3, 4] rfl)
        · have h := ifp c_5 h
          refine lv_lload_n hx hb dX1_oddsOfOneDoer_34 rfl (lv_at hl 3 rfl) ?_
          refine lv_aload_n hx hb dX1_oddsOfOneDoer_35 rfl (lv_at hl 0 rfl) ?_
          refine va_get (D := G) (ci := 1) (v := .ref n0) (C := RX1) (T := TX1) (N := 4) hx hb hts hin_X1 hown hK hP 0 rfl rfl 1 (by decide) fk_23 (fun _ h9 => h9) rfl dX1_oddsOfOneDoer_36 ?_
          refine lv_iload hx hb dX1_oddsOfOneDoer_39 (lv_at hl 4 rfl) ?_
          obtain ⟨u_6, e_6, h⟩ := bd_some h
          refine cl_Vi (As := [.int x5_5]) (rest := [.long x3_5]) (Wn := (wB ca ev b0 b1 b2 n0 n1 n2 n3 n4 n5 n6 n7 c0 c1 c2 c3 c4 c5 c6 doers isTelling order stepsAt_5 doubts weights_5 rows_5 metEver bowedTo isStale bowCount doubtCount_5 seenBows likeliest mostSayingsSo bsize bcells ssize scells dsize_5 dcells_5 people rule believed)) ⟨hx, hb, hml, hown, hts⟩ (c_X2_weight (ca := ca) (ev := ev) (n0 := n0) (n1 := n1) (n2 := n2) (n3 := n3) (n4 := n4) (n5 := n5) (n6 := n6) (n7 := n7) (c0 := c0) (c1 := c1) (c2 := c2) (c3 := c3) (c4 := c4) (c5 := c5) (c6 := c6) (order := order) (stepsAt := stepsAt_5) (doubts := doubts) (weights := weights_5) (rows := rows_5) (metEver := metEver) (bowedTo := bowedTo) (isStale := isStale) (bowCount := bowCount) (doubtCount := doubtCount_5) (seenBows := seenBows) (likeliest := likeliest) (mostSayingsSo := mostSayingsSo) (bsize := bsize) (bcells := bcells) (ssize := ssize) (scells := scells) (dsize := dsize_5) (dcells := dcells_5) (people := people) (rule := rule) (believed := believed) e_6) (cwV 1 hts gX1_oddsOfOneDoer_X2_weight rfl rfl rfl hd_X2_weight ⟨Nat.le_of_ble_eq_true rfl, Nat.le_of_ble_eq_true rfl⟩) hK hP hD hS hA hE wp_9 (q0 := 0) (ci := 2) rfl rfl rfl rfl hl.1 rfl (Nat.le_of_ble_eq_true rfl) dX1_oddsOfOneDoer_41 ⟨Nat.zero_le _, Nat.zero_le _⟩ (fun H locs hP hD hS => ?_)
          refine lv_i2l (v := u_6.toInt64) hx hb dX1_oddsOfOneDoer_44 rfl ?_
          refine lv_ladd hx hb dX1_oddsOfOneDoer_45 ?_
          refine lv_lstore_n (lv' := [(3, .long (x3_5 + u_6.toInt64)), (0, .ref b0), (1, .int x1_5), (2, .int x2_5), (5, .int x5_5)]) hx hb dX1_oddsOfOneDoer_46 rfl hl (by decide) rfl (fun ls hl => ?_)
          obtain rfl := Option.some.inj h
          exact J_5 hP hD hS (lv_sub hl [1, 2, 3, 0, 4] rfl)
  obtain ⟨u_7, e_7, h⟩ := bd_some h
  refine L_5 _ e_7 hP hD hS (lv_sub hl [2, 3, 4, 1, 0] rfl) ?_
  intro H locs ls hP hD hS hl
  refine lv_lload_n hx hb dX1_oddsOfOneDoer_53 rfl (lv_at hl 0 rfl) ?_
  obtain rfl := Option.some.inj h
  exact hRet hP hD hS dX1_oddsOfOneDoer_54
abbrev rm_X2_oddsOf : Room := { frames := 2, cells := 0, slots := 0, locals := 41 }
theorem hd_X2_oddsOf : yX2_oddsOf.cls = RX2 ∧ yX2_oddsOf.cls ≠ "java/lang/invoke/MethodHandle" ∧ yX2_oddsOf.cls ≠ "java/lang/invoke/VarHandle" ∧ (parseMethodDescriptor yX2_oddsOf.desc).map (fun d => d.parameters.length) = some 3 := by decide +kernel
set_option maxHeartbeats 4000000 in
set_option maxRecDepth 100000 in
theorem c_X2_oddsOf {l : Launch} {G : va_G} {ca : Nat → ClassId} {ev : Nat → Nat} {n0 n1 n2 n3 n4 n5 n6 n7 c0 c1 c2 c3 c4 c5 c6 : Nat} {order : (Nat → Int32)} {stepsAt : (Nat → Int32)} {doubts : (Nat → Int32)} {weights : (Nat → Int32)} {rows : (Nat → Int32)} {metEver : (Nat → Int32)} {bowedTo : (Nat → Int32)} {isStale : Int32} {bowCount : Int32} {doubtCount : Int32} {seenBows : Int32} {likeliest : Int32} {mostSayingsSo : Int32} {bsize : Int32} {bcells : (Nat → Int32)} {ssize : Int32} {scells : (Nat → Int32)} {dsize : Int32} {dcells : (Nat → Int32)} {people : Int32} {rule : Int32} {believed : Int32} {a1 : Int32} {a2 : Int32} {a3 : Int32} {N : Nat} {res : Int64} (h : f_X2_oddsOf N stepsAt weights rows doubtCount a1 a2 a3 = some res) : CtL l yX2_oddsOf wsX2_oddsOf rm_X2_oddsOf G ca ev [.ref n0, .int a1, .int a2, .int a3] (wN ca ev n0 n1 n2 n3 n4 n5 n6 n7 c0 c1 c2 c3 c4 c5 c6 order stepsAt doubts weights rows metEver bowedTo isStale bowCount doubtCount seenBows likeliest mostSayingsSo bsize bcells ssize scells dsize dcells people rule believed) (wN ca ev n0 n1 n2 n3 n4 n5 n6 n7 c0 c1 c2 c3 c4 c5 c6 order stepsAt doubts weights rows metEver bowedTo isStale bowCount doubtCount seenBows likeliest mostSayingsSo bsize bcells ssize scells dsize dcells people rule believed) res := by
  unfold f_X2_oddsOf at h
  refine en_l (by decide) rfl (Nat.le_of_ble_eq_true rfl) ?_
  intro p e s m args below meth c A Q H locs ls hx hb hml hown hts hA hP hK hD hE hS hl hRet
  have hown : s.vm.findClass RX2 = some m.cls := hown
  have hl : lv_has ls 7 [(0, .ref n0), (1, .int a1), (2, .int a2), (3, .int a3)] := hl
  refine lv_lconst (v := (0 : Int64)) hx hb dX2_oddsOf_0 (by decide) ?_
  refine lv_lstore (lv' := [(4, .long (0 : Int64)), (0, .ref n0), (1, .int a1), (2, .int a2), (3, .int a3)]) hx hb dX2_oddsOf_1 hl (by decide) rfl (fun ls hl => ?_)
  refine lv_iconst (v := (0 : Int32)) hx hb dX2_oddsOf_3 (by decide) ?_
  refine lv_istore (lv' := [(6, .int (0 : Int32)), (4, .long (0 : Int64)), (0, .ref n0), (1, .int a1), (2, .int a2), (3, .int a3)]) hx hb dX2_oddsOf_4 hl (by decide) rfl (fun ls hl => ?_)
  have L_6 : ∀ {x1_6 : Int32} {x2_6 : Int32} {x3_6 : Int32} {stepsAt_6 : (Nat → Int32)} {weights_6 : (Nat → Int32)} {rows_6 : (Nat → Int32)} {doubtCount_6 : Int32} (n_6 : Nat) {x4_6 : Int64} {x6_6 : Int32} {uL_6 : Int64} {H : Heap} {locs : List Loc} {ls : Array Slot}, f_X2_oddsOf_6 x1_6 x2_6 x3_6 stepsAt_6 weights_6 rows_6 doubtCount_6  n_6 x4_6 x6_6 = some uL_6 → va_P G vwCl (wN ca ev n0 n1 n2 n3 n4 n5 n6 n7 c0 c1 c2 c3 c4 c5 c6 order stepsAt_6 doubts weights_6 rows_6 metEver bowedTo isStale bowCount doubtCount_6 seenBows likeliest mostSayingsSo bsize bcells ssize scells dsize dcells people rule believed) H → va_D A (wN ca ev n0 n1 n2 n3 n4 n5 n6 n7 c0 c1 c2 c3 c4 c5 c6 order stepsAt_6 doubts weights_6 rows_6 metEver bowedTo isStale bowCount doubtCount_6 seenBows likeliest mostSayingsSo bsize bcells ssize scells dsize dcells people rule believed) → va_S A s.heap H locs → lv_has ls 7 [(0, .ref n0), (1, .int x1_6), (2, .int x2_6), (3, .int x3_6), (4, .long x4_6), (6, .int x6_6)] → (∀ {H : Heap} {locs : List Loc} {ls : Array Slot}, va_P G vwCl (wN ca ev n0 n1 n2 n3 n4 n5 n6 n7 c0 c1 c2 c3 c4 c5 c6 order stepsAt_6 doubts weights_6 rows_6 metEver bowedTo isStale bowCount doubtCount_6 seenBows likeliest mostSayingsSo bsize bcells ssize scells dsize dcells people rule believed) H → va_D A (wN ca ev n0 n1 n2 n3 n4 n5 n6 n7 c0 c1 c2 c3 c4 c5 c6 order stepsAt_6 doubts weights_6 rows_6 metEver bowedTo isStale bowCount doubtCount_6 seenBows likeliest mostSayingsSo bsize bcells ssize scells dsize dcells people rule believed) → va_S A s.heap H locs → lv_has ls 7 [(4, .long uL_6)] → W p l e rm_X2_oddsOf s m args below meth c H locs 0 0 Q (F0 m 48 ls [])) → W p l e rm_X2_oddsOf s m args below meth c H locs 0 0 Q (F0 m 6 ls []) := by
    intro x1_6 x2_6 x3_6 stepsAt_6 weights_6 rows_6 doubtCount_6 n_6
    induction n_6 with
    | zero => intro x4_6 x6_6 uL_6 H locs ls h; exact absurd h (by rw [f_X2_oddsOf_6]; exact fun z => nomatch z)
    | succ n_6 ih =>
      intro x4_6 x6_6 uL_6 H locs ls h hP hD hS hl JK_6
      rw [f_X2_oddsOf_6] at h
      refine lv_iload hx hb dX2_oddsOf_6 (lv_at hl 5 rfl) ?_
      refine lv_aload_n hx hb dX2_oddsOf_8 rfl (lv_at hl 0 rfl) ?_
      obtain ⟨u_1, e_1, h⟩ := bd_some h
      refine cm_Vi (As := []) (rest := [.int x6_6]) ⟨hx, hb, hml, hown, hts⟩ (c_X2_size (ca := ca) (ev := ev) (n0 := n0) (n1 := n1) (n2 := n2) (n3 := n3) (n4 := n4) (n5 := n5) (n6 := n6) (n7 := n7) (c0 := c0) (c1 := c1) (c2 := c2) (c3 := c3) (c4 := c4) (c5 := c5) (c6 := c6) (order := order) (stepsAt := stepsAt_6) (doubts := doubts) (weights := weights_6) (rows := rows_6) (metEver := metEver) (bowedTo := bowedTo) (isStale := isStale) (bowCount := bowCount) (doubtCount := doubtCount_6) (seenBows := seenBows) (likeliest := likeliest) (mostSayingsSo := mostSayingsSo) (bsize := bsize) (bcells := bcells) (ssize := ssize) (scells := scells) (dsize := dsize) (dcells := dcells) (people := people) (rule := rule) (believed := believed) e_1) (cwV 0 hts gX2_oddsOf_X2_size rfl rfl rfl hd_X2_size ⟨Nat.le_of_ble_eq_true rfl, Nat.le_of_ble_eq_true rfl⟩) hK hP hD hS hA hE (q0 := 0) (ci := 2) rfl rfl rfl rfl hl.1 rfl (Nat.le_of_ble_eq_true rfl) dX2_oddsOf_9 ⟨Nat.zero_le _, Nat.zero_le _⟩ (fun H locs hP hD hS => ?_)
      refine lv_icmp_ge (tgt := 48) hx hb dX2_oddsOf_12 (by decide) (fun c_2 => ?_) (fun c_2 => ?_)
      · have h := ifp c_2 h
        obtain rfl := Option.some.inj h
        exact JK_6 hP hD hS (lv_sub hl [4] rfl)
      · have h := ifn c_2 h
        refine lv_aload_n hx hb dX2_oddsOf_15 rfl (lv_at hl 0 rfl) ?_
        refine lv_iload hx hb dX2_oddsOf_16 (lv_at hl 5 rfl) ?_
        refine lv_iload_n hx hb dX2_oddsOf_18 rfl (lv_at hl 3 rfl) ?_
        obtain ⟨u_3, e_3, h⟩ := bd_some h
        refine cm_Vi (As := [.int x6_6, .int x3_6]) (rest := []) ⟨hx, hb, hml, hown, hts⟩ (c_X2_row (ca := ca) (ev := ev) (n0 := n0) (n1 := n1) (n2 := n2) (n3 := n3) (n4 := n4) (n5 := n5) (n6 := n6) (n7 := n7) (c0 := c0) (c1 := c1) (c2 := c2) (c3 := c3) (c4 := c4) (c5 := c5) (c6 := c6) (order := order) (stepsAt := stepsAt_6) (doubts := doubts) (weights := weights_6) (rows := rows_6) (metEver := metEver) (bowedTo := bowedTo) (isStale := isStale) (bowCount := bowCount) (doubtCount := doubtCount_6) (seenBows := seenBows) (likeliest := likeliest) (mostSayingsSo := mostSayingsSo) (bsize := bsize) (bcells := bcells) (ssize := ssize) (scells := scells) (dsize := dsize) (dcells := dcells) (people := people) (rule := rule) (believed := believed) e_3) (cwV 2 hts gX2_oddsOf_X2_row rfl rfl rfl hd_X2_row ⟨Nat.le_of_ble_eq_true rfl, Nat.le_of_ble_eq_true rfl⟩) hK hP hD hS hA hE (q0 := 0) (ci := 2) rfl rfl rfl rfl hl.1 rfl (Nat.le_of_ble_eq_true rfl) dX2_oddsOf_19 ⟨Nat.zero_le _, Nat.zero_le _⟩ (fun H locs hP hD hS => ?_)
        refine lv_iload_n hx hb dX2_oddsOf_22 rfl (lv_at hl 1 rfl) ?_
        obtain ⟨u_4, e_4, h⟩ := bd_some h
        refine cn_Ni (As := [.int u_3, .int x1_6]) (rest := []) ⟨hx, hb, hml, hown, hts⟩ (c_X7_wearer e_4) (⟨va_cnB 2 hts gX2_oddsOf_X7_wearer_n107 rfl rfl rfl (hE.2.1 ("MaskBows$Nights", 107, ⟨"MaskBows", "wearer", "(II)I"⟩, "MaskBows") (by decide +kernel)) (hts (.initialized RX7) (by decide +kernel)) hd_X7_wearer ⟨Nat.le_of_ble_eq_true rfl, Nat.le_of_ble_eq_true rfl⟩, hts (.static yX7_wearer) (by decide +kernel), trivial⟩) hK hP hD hS hA hE rfl hl.1 rfl (Nat.le_of_ble_eq_true rfl) dX2_oddsOf_23 ⟨Nat.zero_le _, Nat.zero_le _⟩ (fun H locs hP hD hS => ?_)
        refine lv_iload_n hx hb dX2_oddsOf_26 rfl (lv_at hl 2 rfl) ?_
        obtain ⟨u_5, e_5, h⟩ := bd_some h
        have J_5 : ∀ {H : Heap} {locs : List Loc} {ls : Array Slot}, va_P G vwCl (wN ca ev n0 n1 n2 n3 n4 n5 n6 n7 c0 c1 c2 c3 c4 c5 c6 order stepsAt_6 doubts weights_6 rows_6 metEver bowedTo isStale bowCount doubtCount_6 seenBows likeliest mostSayingsSo bsize bcells ssize scells dsize dcells people rule believed) H → va_D A (wN ca ev n0 n1 n2 n3 n4 n5 n6 n7 c0 c1 c2 c3 c4 c5 c6 order stepsAt_6 doubts weights_6 rows_6 metEver bowedTo isStale bowCount doubtCount_6 seenBows likeliest mostSayingsSo bsize bcells ssize scells dsize dcells people rule believed) → va_S A s.heap H locs → lv_has ls 7 [(0, .ref n0), (1, .int x1_6), (2, .int x2_6), (3, .int x3_6), (4, .long u_5), (6, .int x6_6)] → W p l e rm_X2_oddsOf s m args below meth c H locs 0 0 Q (F0 m 42 ls []) := by
          intro H locs ls hP hD hS hl 
          refine lv_iinc (v := (x6_6 + (1 : Int32))) (lv' := [(6, .int (x6_6 + (1 : Int32))), (0, .ref n0), (1, .int x1_6), (2, .int x2_6), (3, .int x3_6), (4, .long u_5)]) hx hb dX2_oddsOf_42 hl (k := 5) rfl rfl (by decide) rfl (fun ls hl => ?_)
          refine lv_goto (tgt := 6) hx hb dX2_oddsOf_45 (by decide) ?_
          exact ih h hP hD hS (lv_sub hl [1, 2, 3, 4, 5, 0] rfl) JK_6
        have h := e_5
        clear e_5
        refine lv_icmp_ne (tgt := 42) hx hb dX2_oddsOf_27 (by decide) (fun c_5 => ?_) (fun c_5 => ?_)
        · have h := ifn c_5 h
          obtain rfl := Option.some.inj h
          exact J_5 hP hD hS (lv_sub hl [0, 1, 2, 3, 4, 5] rfl)
        · have h := ifp c_5 h
          refine lv_lload hx hb dX2_oddsOf_30 (lv_at hl 4 rfl) ?_
          refine lv_aload_n hx hb dX2_oddsOf_32 rfl (lv_at hl 0 rfl) ?_
          refine lv_iload hx hb dX2_oddsOf_33 (lv_at hl 5 rfl) ?_
          obtain ⟨u_6, e_6, h⟩ := bd_some h
          refine cm_Vi (As := [.int x6_6]) (rest := [.long x4_6]) ⟨hx, hb, hml, hown, hts⟩ (c_X2_weight (ca := ca) (ev := ev) (n0 := n0) (n1 := n1) (n2 := n2) (n3 := n3) (n4 := n4) (n5 := n5) (n6 := n6) (n7 := n7) (c0 := c0) (c1 := c1) (c2 := c2) (c3 := c3) (c4 := c4) (c5 := c5) (c6 := c6) (order := order) (stepsAt := stepsAt_6) (doubts := doubts) (weights := weights_6) (rows := rows_6) (metEver := metEver) (bowedTo := bowedTo) (isStale := isStale) (bowCount := bowCount) (doubtCount := doubtCount_6) (seenBows := seenBows) (likeliest := likeliest) (mostSayingsSo := mostSayingsSo) (bsize := bsize) (bcells := bcells) (ssize := ssize) (scells := scells) (dsize := dsize) (dcells := dcells) (people := people) (rule := rule) (believed := believed) e_6) (cwV 1 hts gX2_oddsOf_X2_weight rfl rfl rfl hd_X2_weight ⟨Nat.le_of_ble_eq_true rfl, Nat.le_of_ble_eq_true rfl⟩) hK hP hD hS hA hE (q0 := 0) (ci := 2) rfl rfl rfl rfl hl.1 rfl (Nat.le_of_ble_eq_true rfl) dX2_oddsOf_35 ⟨Nat.zero_le _, Nat.zero_le _⟩ (fun H locs hP hD hS => ?_)
          refine lv_i2l (v := u_6.toInt64) hx hb dX2_oddsOf_38 rfl ?_
          refine lv_ladd hx hb dX2_oddsOf_39 ?_
          refine lv_lstore (lv' := [(4, .long (x4_6 + u_6.toInt64)), (0, .ref n0), (1, .int x1_6), (2, .int x2_6), (3, .int x3_6), (6, .int x6_6)]) hx hb dX2_oddsOf_40 hl (by decide) rfl (fun ls hl => ?_)
          obtain rfl := Option.some.inj h
          exact J_5 hP hD hS (lv_sub hl [1, 2, 3, 4, 0, 5] rfl)
  obtain ⟨u_7, e_7, h⟩ := bd_some h
  refine L_6 _ e_7 hP hD hS (lv_sub hl [2, 3, 4, 5, 1, 0] rfl) ?_
  intro H locs ls hP hD hS hl
  refine lv_lload hx hb dX2_oddsOf_48 (lv_at hl 0 rfl) ?_
  obtain rfl := Option.some.inj h
  exact hRet hP hD hS dX2_oddsOf_50
