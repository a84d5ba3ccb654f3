abbrev rm_X3_oneOf : Room := { frames := 5, cells := 0, slots := 0, locals := 107 }
theorem hd_X3_oneOf : yX3_oneOf.cls = RX3 ∧ yX3_oneOf.cls ≠ "java/lang/invoke/MethodHandle" ∧ yX3_oneOf.cls ≠ "java/lang/invoke/VarHandle" ∧ (parseMethodDescriptor yX3_oneOf.desc).map (fun d => d.parameters.length) = some 2 := by decide +kernel
set_option maxHeartbeats 4000000 in
set_option maxRecDepth 100000 in
theorem c_X3_oneOf {l : Launch} {G : va_G} {ca : Nat → ClassId} {ev : Nat → Nat} {r0 t0 t1 c0 c1 c2 c3 c4 c5 c6 : Nat} {token : Int32} {place : Int32} {behindIt : Int32} {value : Int32} {tbytes : (Nat → Int32)} {tlen : Int32} {bsize : Int32} {bcells : (Nat → Int32)} {ssize : Int32} {scells : (Nat → Int32)} {dsize : Int32} {dcells : (Nat → Int32)} {people : Int32} {rule : Int32} {believed : Int32} {w1 : Nat} {w2 : Nat} {N : Nat} {res : Int32 × Int32 × Int32 × Int32 × Int32} (hw1 : w1 < 17) (hw2 : w2 < 17) (h : f_X3_oneOf N token place behindIt value tbytes tlen w1 w2 = some res) : CtI l yX3_oneOf wsX3_oneOf rm_X3_oneOf G ca ev [.ref r0, .ref (ev (1 + 2 * w1)), .ref (ev (1 + 2 * w2))] (wRD ca ev r0 t0 t1 c0 c1 c2 c3 c4 c5 c6 token place behindIt value tbytes tlen bsize bcells ssize scells dsize dcells people rule believed) (wRD ca ev r0 t0 t1 c0 c1 c2 c3 c4 c5 c6 res.2.1 res.2.2.1 res.2.2.2.1 res.2.2.2.2 tbytes tlen bsize bcells ssize scells dsize dcells people rule believed) res.1 := by
  unfold f_X3_oneOf at h
  refine en_i (by decide) rfl (Nat.le_of_ble_eq_true rfl) ?_
  intro p e s m args below meth c A Q H locs ls hx hb hml hown hts hA hP hK hD hE hS hl hRet
  have hown : s.vm.findClass RX3 = some m.cls := hown
  have hl : lv_has ls 4 [(0, .ref r0), (1, .ref (ev (1 + 2 * w1))), (2, .ref (ev (1 + 2 * w2)))] := hl
  refine lv_aload_n hx hb dX3_oneOf_0 rfl (lv_at hl 0 rfl) ?_
  refine lv_aload_n hx hb dX3_oneOf_1 rfl (lv_at hl 1 rfl) ?_
  obtain ⟨u_1, e_1, h⟩ := bd_some h
  refine cm_Vi (As := [.ref (ev (1 + 2 * w1))]) (rest := []) ⟨hx, hb, hml, hown, hts⟩ (c_X3_isWord (ca := ca) (ev := ev) (r0 := r0) (t0 := t0) (t1 := t1) (c0 := c0) (c1 := c1) (c2 := c2) (c3 := c3) (c4 := c4) (c5 := c5) (c6 := c6) (token := token) (place := place) (behindIt := behindIt) (value := value) (tbytes := tbytes) (tlen := tlen) (bsize := bsize) (bcells := bcells) (ssize := ssize) (scells := scells) (dsize := dsize) (dcells := dcells) (people := people) (rule := rule) (believed := believed) hw1 e_1) (cwV 1 hts gX3_oneOf_X3_isWord rfl rfl rfl hd_X3_isWord ⟨Nat.le_of_ble_eq_true rfl, Nat.le_of_ble_eq_true rfl⟩) hK hP hD hS hA hE (q0 := 0) (ci := 3) rfl rfl rfl rfl hl.1 rfl (Nat.le_of_ble_eq_true rfl) dX3_oneOf_2 ⟨Nat.zero_le _, Nat.zero_le _⟩ (fun H locs hP hD hS => ?_)
  obtain ⟨u_2, e_2, h⟩ := bd_some h
  have J_2 : ∀ {H : Heap} {locs : List Loc} {ls : Array Slot}, va_P G vwCl (wRD ca ev r0 t0 t1 c0 c1 c2 c3 c4 c5 c6 token place behindIt value tbytes tlen bsize bcells ssize scells dsize dcells people rule believed) H → va_D A (wRD ca ev r0 t0 t1 c0 c1 c2 c3 c4 c5 c6 token place behindIt value tbytes tlen bsize bcells ssize scells dsize dcells people rule believed) → va_S A s.heap H locs → lv_has ls 4 [(0, .ref r0)] → W p l e rm_X3_oneOf s m args below meth c H locs 0 0 Q (F0 m 25 ls [.int u_2]) := by
    intro H locs ls hP hD hS hl 
    refine lv_istore_n (lv' := [(3, .int u_2), (0, .ref r0)]) hx hb dX3_oneOf_25 rfl hl (by decide) rfl (fun ls hl => ?_)
    refine lv_iload_n hx hb dX3_oneOf_26 rfl (lv_at hl 0 rfl) ?_
    refine lv_iconst (v := (-1 : Int32)) hx hb dX3_oneOf_27 (by decide) ?_
    refine lv_icmp_eq (tgt := 35) hx hb dX3_oneOf_28 (by decide) (fun c_5 => ?_) (fun c_5 => ?_)
    · have h := ifp c_5 h
      refine lv_iload_n hx hb dX3_oneOf_35 rfl (lv_at hl 0 rfl) ?_
      obtain rfl := Option.some.inj h
      exact hRet hP hD hS dX3_oneOf_36
    · have h := ifn c_5 h
      refine lv_aload_n hx hb dX3_oneOf_31 rfl (lv_at hl 1 rfl) ?_
      obtain ⟨u_6, e_6, h⟩ := bd_some h
      refine cm_Vv (As := []) (rest := []) ⟨hx, hb, hml, hown, hts⟩ (c_X3_step (ca := ca) (ev := ev) (r0 := r0) (t0 := t0) (t1 := t1) (c0 := c0) (c1 := c1) (c2 := c2) (c3 := c3) (c4 := c4) (c5 := c5) (c6 := c6) (token := token) (place := place) (behindIt := behindIt) (value := value) (tbytes := tbytes) (tlen := tlen) (bsize := bsize) (bcells := bcells) (ssize := ssize) (scells := scells) (dsize := dsize) (dcells := dcells) (people := people) (rule := rule) (believed := believed) e_6) (cwV 0 hts gX3_oneOf_X3_step rfl rfl rfl hd_X3_step ⟨Nat.le_of_ble_eq_true rfl, Nat.le_of_ble_eq_true rfl⟩) hK hP hD hS hA hE (q0 := 0) (ci := 3) rfl rfl rfl rfl hl.1 rfl (Nat.le_of_ble_eq_true rfl) dX3_oneOf_32 ⟨Nat.zero_le _, Nat.zero_le _⟩ (fun H locs hP hD hS => ?_)
      refine lv_iload_n hx hb dX3_oneOf_35 rfl (lv_at hl 0 rfl) ?_
      obtain rfl := Option.some.inj h
      exact hRet hP hD hS dX3_oneOf_36
  have h := e_2
  clear e_2
  refine lv_if_eq (tgt := 12) hx hb dX3_oneOf_5 (by decide) (fun c_2 => ?_) (fun c_2 => ?_)
  · have h := ifp c_2 h
    refine lv_aload_n hx hb dX3_oneOf_12 rfl (lv_at hl 0 rfl) ?_
    refine lv_aload_n hx hb dX3_oneOf_13 rfl (lv_at hl 2 rfl) ?_
    obtain ⟨u_3, e_3, h⟩ := bd_some h
    refine cm_Vi (As := [.ref (ev (1 + 2 * w2))]) (rest := []) ⟨hx, hb, hml, hown, hts⟩ (c_X3_isWord (ca := ca) (ev := ev) (r0 := r0) (t0 := t0) (t1 := t1) (c0 := c0) (c1 := c1) (c2 := c2) (c3 := c3) (c4 := c4) (c5 := c5) (c6 := c6) (token := token) (place := place) (behindIt := behindIt) (value := value) (tbytes := tbytes) (tlen := tlen) (bsize := bsize) (bcells := bcells) (ssize := ssize) (scells := scells) (dsize := dsize) (dcells := dcells) (people := people) (rule := rule) (believed := believed) hw2 e_3) (cwV 1 hts gX3_oneOf_X3_isWord rfl rfl rfl hd_X3_isWord ⟨Nat.le_of_ble_eq_true rfl, Nat.le_of_ble_eq_true rfl⟩) hK hP hD hS hA hE (q0 := 0) (ci := 3) rfl rfl rfl rfl hl.1 rfl (Nat.le_of_ble_eq_true rfl) dX3_oneOf_14 ⟨Nat.zero_le _, Nat.zero_le _⟩ (fun H locs hP hD hS => ?_)
    refine lv_if_eq (tgt := 24) hx hb dX3_oneOf_17 (by decide) (fun c_4 => ?_) (fun c_4 => ?_)
    · have h := ifp c_4 h
      refine lv_iconst (v := (-1 : Int32)) hx hb dX3_oneOf_24 (by decide) ?_
      obtain rfl := Option.some.inj h
      exact J_2 hP hD hS (lv_sub hl [0] rfl)
    · have h := ifn c_4 h
      refine lv_iconst (v := (1 : Int32)) hx hb dX3_oneOf_20 (by decide) ?_
      refine lv_goto (tgt := 25) hx hb dX3_oneOf_21 (by decide) ?_
      obtain rfl := Option.some.inj h
      exact J_2 hP hD hS (lv_sub hl [0] rfl)
  · have h := ifn c_2 h
    refine lv_iconst (v := (0 : Int32)) hx hb dX3_oneOf_8 (by decide) ?_
    refine lv_goto (tgt := 25) hx hb dX3_oneOf_9 (by decide) ?_
    obtain rfl := Option.some.inj h
    exact J_2 hP hD hS (lv_sub hl [0] rfl)
abbrev rm_X3_sayingItem : Room := { frames := 6, cells := 0, slots := 0, locals := 130 }
theorem hd_X3_sayingItem : yX3_sayingItem.cls = RX3 ∧ yX3_sayingItem.cls ≠ "java/lang/invoke/MethodHandle" ∧ yX3_sayingItem.cls ≠ "java/lang/invoke/VarHandle" ∧ (parseMethodDescriptor yX3_sayingItem.desc).map (fun d => d.parameters.length) = some 0 := by decide +kernel
set_option maxHeartbeats 4000000 in
set_option maxRecDepth 100000 in
theorem c_X3_sayingItem {l : Launch} {G : va_G} {ca : Nat → ClassId} {ev : Nat → Nat} {r0 t0 t1 c0 c1 c2 c3 c4 c5 c6 : Nat} {token : Int32} {place : Int32} {behindIt : Int32} {value : Int32} {tbytes : (Nat → Int32)} {tlen : Int32} {bsize : Int32} {bcells : (Nat → Int32)} {ssize : Int32} {scells : (Nat → Int32)} {dsize : Int32} {dcells : (Nat → Int32)} {people : Int32} {rule : Int32} {believed : Int32}  {N : Nat} {res : Int32 × Int32 × Int32 × Int32 × Int32 × Int32 × (Nat → Int32)} (h : f_X3_sayingItem N token place behindIt value tbytes tlen ssize scells people = some res) : CtI l yX3_sayingItem wsX3_sayingItem rm_X3_sayingItem G ca ev [.ref r0] (wRD ca ev r0 t0 t1 c0 c1 c2 c3 c4 c5 c6 token place behindIt value tbytes tlen bsize bcells ssize scells dsize dcells people rule believed) (wRD ca ev r0 t0 t1 c0 c1 c2 c3 c4 c5 c6 res.2.1 res.2.2.1 res.2.2.2.1 res.2.2.2.2.1 tbytes tlen bsize bcells res.2.2.2.2.2.1 res.2.2.2.2.2.2 dsize dcells people rule believed) res.1 := by
  unfold f_X3_sayingItem at h
  refine en_z (by decide) rfl (Nat.le_of_ble_eq_true rfl) ?_
  intro p e s m args below meth c A Q H locs ls hx hb hml hown hts hA hP hK hD hE hS hl hRet
  have hown : s.vm.findClass RX3 = some m.cls := hown
  have hl : lv_has ls 5 [(0, .ref r0)] := hl
  have hin_X0 : ∀ w ∈ u_ws RX0 TX0 6, w ∈ wsX3_sayingItem := fun w h9 => List.mem_cons_of_mem _ (List.mem_append_left _ (List.mem_append_left _ (List.mem_append_right _ h9)))
  have hin_X3 : ∀ w ∈ u_ws RX3 TX3 6, w ∈ wsX3_sayingItem := fun w h9 => List.mem_cons_of_mem _ (List.mem_append_left _ (List.mem_append_left _ (List.mem_append_left _ (List.mem_append_right _ h9))))
  have fk_28 := hts (.fieldLink RX3 28 "MaskBows$Reader" "draft" "LMaskBows$Carnival;") (by decide +kernel)
  have fk_83 := va_Nw.use (A := args) rfl (hE.1 ("MaskBows$Reader", 83, "MaskBows$Carnival", "people", "I", "MaskBows") (by decide +kernel))
  have fk_98 := va_Nw.use (A := args) rfl (hE.1 ("MaskBows$Reader", 98, "MaskBows$Carnival", "sayings", "LMaskBows$Rows;", "MaskBows") (by decide +kernel))
  refine lv_aload_n hx hb dX3_sayingItem_0 rfl (lv_at hl 0 rfl) ?_
  refine va_get (D := G) (ci := 3) (v := .ref c0) (C := RX3) (T := TX3) (N := 6) hx hb hts hin_X3 hown hK hP 0 rfl rfl 1 (by decide) fk_28 (fun _ h9 => h9) rfl dX3_sayingItem_1 ?_
  refine va_getN (D := G) (ci := 0) (v := .ref c3) (C := RX0) (T := TX0) (N := 6) hx hb hts hin_X0 hown hK hP 3 rfl rfl 1 (by decide) fk_98 (fun _ h9 => h9) rfl dX3_sayingItem_4 ?_
  obtain ⟨u_1, e_1, h⟩ := bd_some h
  refine cl_Vi (As := []) (rest := []) (Wn := (wRD ca ev r0 t0 t1 c0 c1 c2 c3 c4 c5 c6 token place behindIt value tbytes tlen bsize bcells ssize scells dsize dcells people rule believed)) ⟨hx, hb, hml, hown, hts⟩ (c_X4_isFull (ca := ca) (ev := ev) (r0 := c3) (r1 := c4) (limit := (10 : Int32)) (width := (4 : Int32)) (size := ssize) (cells := scells) (nc := 40) e_1) (cwV 0 hts gX3_sayingItem_X4_isFull rfl rfl rfl hd_X4_isFull ⟨Nat.le_of_ble_eq_true rfl, Nat.le_of_ble_eq_true rfl⟩) hK hP hD hS hA hE wp_19 (q0 := 0) (ci := 4) rfl rfl rfl rfl hl.1 rfl (Nat.le_of_ble_eq_true rfl) dX3_sayingItem_7 ⟨Nat.zero_le _, Nat.zero_le _⟩ (fun H locs hP hD hS => ?_)
  refine lv_if_eq (tgt := 15) hx hb dX3_sayingItem_10 (by decide) (fun c_2 => ?_) (fun c_2 => ?_)
  · have h := ifp c_2 h
    refine lv_aload_n hx hb dX3_sayingItem_15 rfl (lv_at hl 0 rfl) ?_
    obtain ⟨u_3, e_3, h⟩ := bd_some h
    refine cm_Vv (As := []) (rest := []) ⟨hx, hb, hml, hown, hts⟩ (c_X3_step (ca := ca) (ev := ev) (r0 := r0) (t0 := t0) (t1 := t1) (c0 := c0) (c1 := c1) (c2 := c2) (c3 := c3) (c4 := c4) (c5 := c5) (c6 := c6) (token := token) (place := place) (behindIt := behindIt) (value := value) (tbytes := tbytes) (tlen := tlen) (bsize := bsize) (bcells := bcells) (ssize := ssize) (scells := scells) (dsize := dsize) (dcells := dcells) (people := people) (rule := rule) (believed := believed) e_3) (cwV 0 hts gX3_sayingItem_X3_step rfl rfl rfl hd_X3_step ⟨Nat.le_of_ble_eq_true rfl, Nat.le_of_ble_eq_true rfl⟩) hK hP hD hS hA hE (q0 := 0) (ci := 3) rfl rfl rfl rfl hl.1 rfl (Nat.le_of_ble_eq_true rfl) dX3_sayingItem_16 ⟨Nat.zero_le _, Nat.zero_le _⟩ (fun H locs hP hD hS => ?_)
    refine lv_aload_n hx hb dX3_sayingItem_19 rfl (lv_at hl 0 rfl) ?_
    refine lv_bipush (v := (100 : Int32)) hx hb dX3_sayingItem_20 (by decide) ?_
    obtain ⟨u_4, e_4, h⟩ := bd_some h
    refine cm_Vi (As := [.int (100 : Int32)]) (rest := []) ⟨hx, hb, hml, hown, hts⟩ (c_X3_number (ca := ca) (ev := ev) (r0 := r0) (t0 := t0) (t1 := t1) (c0 := c0) (c1 := c1) (c2 := c2) (c3 := c3) (c4 := c4) (c5 := c5) (c6 := c6) (token := u_3.1) (place := u_3.2.1) (behindIt := u_3.2.2.1) (value := u_3.2.2.2) (tbytes := tbytes) (tlen := tlen) (bsize := bsize) (bcells := bcells) (ssize := ssize) (scells := scells) (dsize := dsize) (dcells := dcells) (people := people) (rule := rule) (believed := believed) e_4) (cwV 1 hts gX3_sayingItem_X3_number rfl rfl rfl hd_X3_number ⟨Nat.le_of_ble_eq_true rfl, Nat.le_of_ble_eq_true rfl⟩) hK hP hD hS hA hE (q0 := 0) (ci := 3) rfl rfl rfl rfl hl.1 rfl (Nat.le_of_ble_eq_true rfl) dX3_sayingItem_22 ⟨Nat.zero_le _, Nat.zero_le _⟩ (fun H locs hP hD hS => ?_)
    refine lv_istore_n (lv' := [(1, .int u_4.1), (0, .ref r0)]) hx hb dX3_sayingItem_25 rfl hl (by decide) rfl (fun ls hl => ?_)
    refine lv_iload_n hx hb dX3_sayingItem_26 rfl (lv_at hl 0 rfl) ?_
    refine lv_iconst (v := (-1 : Int32)) hx hb dX3_sayingItem_27 (by decide) ?_
    obtain ⟨u_5, e_5, h⟩ := bd_some h
    have J_5 : ∀ {H : Heap} {locs : List Loc} {ls : Array Slot}, va_P G vwCl (wRD ca ev r0 t0 t1 c0 c1 c2 c3 c4 c5 c6 u_5.2.1 u_5.2.2.1 u_5.2.2.2.1 u_5.2.2.2.2 tbytes tlen bsize bcells ssize scells dsize dcells people rule believed) H → va_D A (wRD ca ev r0 t0 t1 c0 c1 c2 c3 c4 c5 c6 u_5.2.1 u_5.2.2.1 u_5.2.2.2.1 u_5.2.2.2.2 tbytes tlen bsize bcells ssize scells dsize dcells people rule believed) → va_S A s.heap H locs → lv_has ls 5 [(0, .ref r0), (1, .int u_4.1)] → W p l e rm_X3_sayingItem s m args below meth c H locs 0 0 Q (F0 m 46 ls [.int u_5.1]) := by
      intro H locs ls hP hD hS hl 
      refine lv_istore_n (lv' := [(2, .int u_5.1), (0, .ref r0), (1, .int u_4.1)]) hx hb dX3_sayingItem_46 rfl hl (by decide) rfl (fun ls hl => ?_)
      refine lv_iload_n hx hb dX3_sayingItem_47 rfl (lv_at hl 0 rfl) ?_
      refine lv_iconst (v := (-1 : Int32)) hx hb dX3_sayingItem_48 (by decide) ?_
      obtain ⟨u_7, e_7, h⟩ := bd_some h
      have J_7 : ∀ {H : Heap} {locs : List Loc} {ls : Array Slot}, va_P G vwCl (wRD ca ev r0 t0 t1 c0 c1 c2 c3 c4 c5 c6 u_7.2.1 u_7.2.2.1 u_7.2.2.2.1 u_7.2.2.2.2 tbytes tlen bsize bcells ssize scells dsize dcells people rule believed) H → va_D A (wRD ca ev r0 t0 t1 c0 c1 c2 c3 c4 c5 c6 u_7.2.1 u_7.2.2.1 u_7.2.2.2.1 u_7.2.2.2.2 tbytes tlen bsize bcells ssize scells dsize dcells people rule believed) → va_S A s.heap H locs → lv_has ls 5 [(0, .ref r0), (1, .int u_4.1), (2, .int u_5.1)] → W p l e rm_X3_sayingItem s m args below meth c H locs 0 0 Q (F0 m 64 ls [.int u_7.1]) := by
        intro H locs ls hP hD hS hl 
        refine lv_istore_n (lv' := [(3, .int u_7.1), (0, .ref r0), (1, .int u_4.1), (2, .int u_5.1)]) hx hb dX3_sayingItem_64 rfl hl (by decide) rfl (fun ls hl => ?_)
        refine lv_iload_n hx hb dX3_sayingItem_65 rfl (lv_at hl 0 rfl) ?_
        refine lv_iconst (v := (-1 : Int32)) hx hb dX3_sayingItem_66 (by decide) ?_
        obtain ⟨u_9, e_9, h⟩ := bd_some h
        have J_9 : ∀ {H : Heap} {locs : List Loc} {ls : Array Slot}, va_P G vwCl (wRD ca ev r0 t0 t1 c0 c1 c2 c3 c4 c5 c6 u_9.2.1 u_9.2.2.1 u_9.2.2.2.1 u_9.2.2.2.2 tbytes tlen bsize bcells ssize scells dsize dcells people rule believed) H → va_D A (wRD ca ev r0 t0 t1 c0 c1 c2 c3 c4 c5 c6 u_9.2.1 u_9.2.2.1 u_9.2.2.2.1 u_9.2.2.2.2 tbytes tlen bsize bcells ssize scells dsize dcells people rule believed) → va_S A s.heap H locs → lv_has ls 5 [(0, .ref r0), (1, .int u_4.1), (2, .int u_5.1), (3, .int u_7.1)] → W p l e rm_X3_sayingItem s m args below meth c H locs 0 0 Q (F0 m 85 ls [.int u_9.1]) := by
          intro H locs ls hP hD hS hl 
          refine lv_istore (lv' := [(4, .int u_9.1), (0, .ref r0), (1, .int u_4.1), (2, .int u_5.1), (3, .int u_7.1)]) hx hb dX3_sayingItem_85 hl (by decide) rfl (fun ls hl => ?_)
          refine lv_iload hx hb dX3_sayingItem_87 (lv_at hl 0 rfl) ?_
          refine lv_iconst (v := (-1 : Int32)) hx hb dX3_sayingItem_89 (by decide) ?_
          refine lv_icmp_eq (tgt := 116) hx hb dX3_sayingItem_90 (by decide) (fun c_11 => ?_) (fun c_11 => ?_)
          · have h := ifp c_11 h
            refine lv_iconst (v := (0 : Int32)) hx hb dX3_sayingItem_116 (by decide) ?_
            obtain rfl := Option.some.inj h
            exact hRet hP hD hS zb_0 dX3_sayingItem_117
          · have h := ifn c_11 h
            refine lv_aload_n hx hb dX3_sayingItem_93 rfl (lv_at hl 1 rfl) ?_
            refine va_get (D := G) (ci := 3) (v := .ref c0) (C := RX3) (T := TX3) (N := 6) hx hb hts hin_X3 hown hK hP 0 rfl rfl 1 (by decide) fk_28 (fun _ h9 => h9) rfl dX3_sayingItem_94 ?_
            refine va_getN (D := G) (ci := 0) (v := .ref c3) (C := RX0) (T := TX0) (N := 6) hx hb hts hin_X0 hown hK hP 3 rfl rfl 1 (by decide) fk_98 (fun _ h9 => h9) rfl dX3_sayingItem_97 ?_
            refine lv_iload_n hx hb dX3_sayingItem_100 rfl (lv_at hl 2 rfl) ?_
            refine lv_iload_n hx hb dX3_sayingItem_101 rfl (lv_at hl 3 rfl) ?_
            refine lv_iload hx hb dX3_sayingItem_102 (lv_at hl 0 rfl) ?_
            refine lv_iload_n hx hb dX3_sayingItem_104 rfl (lv_at hl 4 rfl) ?_
            obtain ⟨u_12, e_12, h⟩ := bd_some h
            refine cl_Vi (As := [.int u_4.1, .int u_5.1, .int u_9.1, .int u_7.1]) (rest := []) (Wn := (wRD ca ev r0 t0 t1 c0 c1 c2 c3 c4 c5 c6 u_9.2.1 u_9.2.2.1 u_9.2.2.2.1 u_9.2.2.2.2 tbytes tlen bsize bcells u_12.2.1 u_12.2.2 dsize dcells people rule believed)) ⟨hx, hb, hml, hown, hts⟩ (c_X4_add (ca := ca) (ev := ev) (r0 := c3) (r1 := c4) (limit := (10 : Int32)) (width := (4 : Int32)) (size := ssize) (cells := scells) (nc := 40) e_12) (cwV 4 hts gX3_sayingItem_X4_add rfl rfl rfl hd_X4_add ⟨Nat.le_of_ble_eq_true rfl, Nat.le_of_ble_eq_true rfl⟩) hK hP hD hS hA hE wp_19 (q0 := 0) (ci := 4) rfl rfl rfl rfl hl.1 rfl (Nat.le_of_ble_eq_true rfl) dX3_sayingItem_105 ⟨Nat.zero_le _, Nat.zero_le _⟩ (fun H locs hP hD hS => ?_)
            refine lv_iconst (v := (-1 : Int32)) hx hb dX3_sayingItem_108 (by decide) ?_
            refine lv_icmp_eq (tgt := 116) hx hb dX3_sayingItem_109 (by decide) (fun c_13 => ?_) (fun c_13 => ?_)
            · have h := ifp c_13 h
              refine lv_iconst (v := (0 : Int32)) hx hb dX3_sayingItem_116 (by decide) ?_
              obtain rfl := Option.some.inj h
              exact hRet hP hD hS zb_0 dX3_sayingItem_117
            · have h := ifn c_13 h
              refine lv_iconst (v := (1 : Int32)) hx hb dX3_sayingItem_112 (by decide) ?_
              refine lv_goto (tgt := 117) hx hb dX3_sayingItem_113 (by decide) ?_
              obtain rfl := Option.some.inj h
              exact hRet hP hD hS zb_1 dX3_sayingItem_117
        have h := e_9
        clear e_9
        refine lv_icmp_ne (tgt := 74) hx hb dX3_sayingItem_67 (by decide) (fun c_9 => ?_) (fun c_9 => ?_)
        · have h := ifn c_9 h
          refine lv_aload_n hx hb dX3_sayingItem_74 rfl (lv_at hl 1 rfl) ?_
          refine lv_aload_n hx hb dX3_sayingItem_75 rfl (lv_at hl 1 rfl) ?_
          refine va_get (D := G) (ci := 3) (v := .ref c0) (C := RX3) (T := TX3) (N := 6) hx hb hts hin_X3 hown hK hP 0 rfl rfl 1 (by decide) fk_28 (fun _ h9 => h9) rfl dX3_sayingItem_76 ?_
          refine va_getN (D := G) (ci := 0) (v := .int people) (C := RX0) (T := TX0) (N := 6) hx hb hts hin_X0 hown hK hP 3 rfl rfl 3 (by decide) fk_83 (fun _ h9 => h9) rfl dX3_sayingItem_79 ?_
          obtain ⟨u_10, e_10, h⟩ := bd_some h
          refine cm_Vi (As := [.int people]) (rest := []) ⟨hx, hb, hml, hown, hts⟩ (c_X3_number (ca := ca) (ev := ev) (r0 := r0) (t0 := t0) (t1 := t1) (c0 := c0) (c1 := c1) (c2 := c2) (c3 := c3) (c4 := c4) (c5 := c5) (c6 := c6) (token := u_7.2.1) (place := u_7.2.2.1) (behindIt := u_7.2.2.2.1) (value := u_7.2.2.2.2) (tbytes := tbytes) (tlen := tlen) (bsize := bsize) (bcells := bcells) (ssize := ssize) (scells := scells) (dsize := dsize) (dcells := dcells) (people := people) (rule := rule) (believed := believed) e_10) (cwV 1 hts gX3_sayingItem_X3_number rfl rfl rfl hd_X3_number ⟨Nat.le_of_ble_eq_true rfl, Nat.le_of_ble_eq_true rfl⟩) hK hP hD hS hA hE (q0 := 0) (ci := 3) rfl rfl rfl rfl hl.1 rfl (Nat.le_of_ble_eq_true rfl) dX3_sayingItem_82 ⟨Nat.zero_le _, Nat.zero_le _⟩ (fun H locs hP hD hS => ?_)
          obtain rfl := Option.some.inj h
          exact J_9 hP hD hS (lv_sub hl [1, 2, 3, 0] rfl)
        · have h := ifp c_9 h
          refine lv_iconst (v := (-1 : Int32)) hx hb dX3_sayingItem_70 (by decide) ?_
          refine lv_goto (tgt := 85) hx hb dX3_sayingItem_71 (by decide) ?_
          obtain rfl := Option.some.inj h
          exact J_9 hP hD hS (lv_sub hl [1, 2, 3, 0] rfl)
      have h := e_7
      clear e_7
      refine lv_icmp_ne (tgt := 56) hx hb dX3_sayingItem_49 (by decide) (fun c_7 => ?_) (fun c_7 => ?_)
      · have h := ifn c_7 h
        refine lv_aload_n hx hb dX3_sayingItem_56 rfl (lv_at hl 1 rfl) ?_
        refine va_ldcS hx hb hown (hE.2.2.2.1 ("MaskBows$Reader", 101, "not", 3) (by decide +kernel)) dX3_sayingItem_57 ?_
        refine va_ldcS hx hb hown (hE.2.2.2.1 ("MaskBows$Reader", 103, "is", 4) (by decide +kernel)) dX3_sayingItem_59 ?_
        obtain ⟨u_8, e_8, h⟩ := bd_some h
        refine cm_Vi (As := [.ref (ev (1 + 2 * 3)), .ref (ev (1 + 2 * 4))]) (rest := []) ⟨hx, hb, hml, hown, hts⟩ (c_X3_oneOf (ca := ca) (ev := ev) (r0 := r0) (t0 := t0) (t1 := t1) (c0 := c0) (c1 := c1) (c2 := c2) (c3 := c3) (c4 := c4) (c5 := c5) (c6 := c6) (token := u_5.2.1) (place := u_5.2.2.1) (behindIt := u_5.2.2.2.1) (value := u_5.2.2.2.2) (tbytes := tbytes) (tlen := tlen) (bsize := bsize) (bcells := bcells) (ssize := ssize) (scells := scells) (dsize := dsize) (dcells := dcells) (people := people) (rule := rule) (believed := believed) (by decide) (by decide) e_8) (cwV 2 hts gX3_sayingItem_X3_oneOf rfl rfl rfl hd_X3_oneOf ⟨Nat.le_of_ble_eq_true rfl, Nat.le_of_ble_eq_true rfl⟩) hK hP hD hS hA hE (q0 := 0) (ci := 3) rfl rfl rfl rfl hl.1 rfl (Nat.le_of_ble_eq_true rfl) dX3_sayingItem_61 ⟨Nat.zero_le _, Nat.zero_le _⟩ (fun H locs hP hD hS => ?_)
        obtain rfl := Option.some.inj h
        exact J_7 hP hD hS (lv_sub hl [1, 2, 0] rfl)
      · have h := ifp c_7 h
        refine lv_iconst (v := (-1 : Int32)) hx hb dX3_sayingItem_52 (by decide) ?_
        refine lv_goto (tgt := 64) hx hb dX3_sayingItem_53 (by decide) ?_
        obtain rfl := Option.some.inj h
        exact J_7 hP hD hS (lv_sub hl [1, 2, 0] rfl)
    have h := e_5
    clear e_5
    refine lv_icmp_ne (tgt := 35) hx hb dX3_sayingItem_28 (by decide) (fun c_5 => ?_) (fun c_5 => ?_)
    · have h := ifn c_5 h
      refine lv_aload_n hx hb dX3_sayingItem_35 rfl (lv_at hl 1 rfl) ?_
      refine lv_aload_n hx hb dX3_sayingItem_36 rfl (lv_at hl 1 rfl) ?_
      refine va_get (D := G) (ci := 3) (v := .ref c0) (C := RX3) (T := TX3) (N := 6) hx hb hts hin_X3 hown hK hP 0 rfl rfl 1 (by decide) fk_28 (fun _ h9 => h9) rfl dX3_sayingItem_37 ?_
      refine va_getN (D := G) (ci := 0) (v := .int people) (C := RX0) (T := TX0) (N := 6) hx hb hts hin_X0 hown hK hP 3 rfl rfl 3 (by decide) fk_83 (fun _ h9 => h9) rfl dX3_sayingItem_40 ?_
      obtain ⟨u_6, e_6, h⟩ := bd_some h
      refine cm_Vi (As := [.int people]) (rest := []) ⟨hx, hb, hml, hown, hts⟩ (c_X3_number (ca := ca) (ev := ev) (r0 := r0) (t0 := t0) (t1 := t1) (c0 := c0) (c1 := c1) (c2 := c2) (c3 := c3) (c4 := c4) (c5 := c5) (c6 := c6) (token := u_4.2.1) (place := u_4.2.2.1) (behindIt := u_4.2.2.2.1) (value := u_4.2.2.2.2) (tbytes := tbytes) (tlen := tlen) (bsize := bsize) (bcells := bcells) (ssize := ssize) (scells := scells) (dsize := dsize) (dcells := dcells) (people := people) (rule := rule) (believed := believed) e_6) (cwV 1 hts gX3_sayingItem_X3_number rfl rfl rfl hd_X3_number ⟨Nat.le_of_ble_eq_true rfl, Nat.le_of_ble_eq_true rfl⟩) hK hP hD hS hA hE (q0 := 0) (ci := 3) rfl rfl rfl rfl hl.1 rfl (Nat.le_of_ble_eq_true rfl) dX3_sayingItem_43 ⟨Nat.zero_le _, Nat.zero_le _⟩ (fun H locs hP hD hS => ?_)
      obtain rfl := Option.some.inj h
      exact J_5 hP hD hS (lv_sub hl [1, 0] rfl)
    · have h := ifp c_5 h
      refine lv_iconst (v := (-1 : Int32)) hx hb dX3_sayingItem_31 (by decide) ?_
      refine lv_goto (tgt := 46) hx hb dX3_sayingItem_32 (by decide) ?_
      obtain rfl := Option.some.inj h
      exact J_5 hP hD hS (lv_sub hl [1, 0] rfl)
  · have h := ifn c_2 h
    refine lv_iconst (v := (0 : Int32)) hx hb dX3_sayingItem_13 (by decide) ?_
    obtain rfl := Option.some.inj h
    exact hRet hP hD hS zb_0 dX3_sayingItem_14
abbrev rm_X3_switchItem : Room := { frames := 6, cells := 0, slots := 0, locals := 130 }
theorem hd_X3_switchItem : yX3_switchItem.cls = RX3 ∧ yX3_switchItem.cls ≠ "java/lang/invoke/MethodHandle" ∧ yX3_switchItem.cls ≠ "java/lang/invoke/VarHandle" ∧ (parseMethodDescriptor yX3_switchItem.desc).map (fun d => d.parameters.length) = some 1 := by decide +kernel
set_option maxHeartbeats 4000000 in
set_option maxRecDepth 100000 in
theorem c_X3_switchItem {l : Launch} {G : va_G} {ca : Nat → ClassId} {ev : Nat → Nat} {r0 t0 t1 c0 c1 c2 c3 c4 c5 c6 : Nat} {token : Int32} {place : Int32} {behindIt : Int32} {value : Int32} {tbytes : (Nat → Int32)} {tlen : Int32} {bsize : Int32} {bcells : (Nat → Int32)} {ssize : Int32} {scells : (Nat → Int32)} {dsize : Int32} {dcells : (Nat → Int32)} {people : Int32} {rule : Int32} {believed : Int32} {a1 : Int32} {N : Nat} {res : Int32 × Int32 × Int32 × Int32 × Int32 × Int32 × Int32} (h : f_X3_switchItem N token place behindIt value tbytes tlen rule believed a1 = some res) : CtI l yX3_switchItem wsX3_switchItem rm_X3_switchItem G ca ev [.ref r0, .int a1] (wRD ca ev r0 t0 t1 c0 c1 c2 c3 c4 c5 c6 token place behindIt value tbytes tlen bsize bcells ssize scells dsize dcells people rule believed) (wRD ca ev r0 t0 t1 c0 c1 c2 c3 c4 c5 c6 res.2.1 res.2.2.1 res.2.2.2.1 res.2.2.2.2.1 tbytes tlen bsize bcells ssize scells dsize dcells people res.2.2.2.2.2.1 res.2.2.2.2.2.2) res.1 := by
  unfold f_X3_switchItem at h
  refine en_z (by decide) rfl (Nat.le_of_ble_eq_true rfl) ?_
  intro p e s m args below meth c A Q H locs ls hx hb hml hown hts hA hP hK hD hE hS hl hRet
  have hown : s.vm.findClass RX3 = some m.cls := hown
  have hl : lv_has ls 3 [(0, .ref r0), (1, .int a1)] := hl
  have hin_X3 : ∀ w ∈ u_ws RX3 TX3 6, w ∈ wsX3_switchItem := fun w h9 => List.mem_cons_of_mem _ (List.mem_append_left _ (List.mem_append_left _ (List.mem_append_right _ h9)))
  have fk_28 := hts (.fieldLink RX3 28 "MaskBows$Reader" "draft" "LMaskBows$Carnival;") (by decide +kernel)
  refine lv_aload_n hx hb dX3_switchItem_0 rfl (lv_at hl 0 rfl) ?_
  obtain ⟨u_1, e_1, h⟩ := bd_some h
  refine cm_Vv (As := []) (rest := []) ⟨hx, hb, hml, hown, hts⟩ (c_X3_step (ca := ca) (ev := ev) (r0 := r0) (t0 := t0) (t1 := t1) (c0 := c0) (c1 := c1) (c2 := c2) (c3 := c3) (c4 := c4) (c5 := c5) (c6 := c6) (token := token) (place := place) (behindIt := behindIt) (value := value) (tbytes := tbytes) (tlen := tlen) (bsize := bsize) (bcells := bcells) (ssize := ssize) (scells := scells) (dsize := dsize) (dcells := dcells) (people := people) (rule := rule) (believed := believed) e_1) (cwV 0 hts gX3_switchItem_X3_step rfl rfl rfl hd_X3_step ⟨Nat.le_of_ble_eq_true rfl, Nat.le_of_ble_eq_true rfl⟩) hK hP hD hS hA hE (q0 := 0) (ci := 3) rfl rfl rfl rfl hl.1 rfl (Nat.le_of_ble_eq_true rfl) dX3_switchItem_1 ⟨Nat.zero_le _, Nat.zero_le _⟩ (fun H locs hP hD hS => ?_)
  refine lv_aload_n hx hb dX3_switchItem_4 rfl (lv_at hl 0 rfl) ?_
  refine va_ldcS hx hb hown (hE.2.2.2.1 ("MaskBows$Reader", 120, "off", 6) (by decide +kernel)) dX3_switchItem_5 ?_
  refine va_ldcS hx hb hown (hE.2.2.2.1 ("MaskBows$Reader", 122, "on", 7) (by decide +kernel)) dX3_switchItem_7 ?_
  obtain ⟨u_2, e_2, h⟩ := bd_some h
  refine cm_Vi (As := [.ref (ev (1 + 2 * 6)), .ref (ev (1 + 2 * 7))]) (rest := []) ⟨hx, hb, hml, hown, hts⟩ (c_X3_oneOf (ca := ca) (ev := ev) (r0 := r0) (t0 := t0) (t1 := t1) (c0 := c0) (c1 := c1) (c2 := c2) (c3 := c3) (c4 := c4) (c5 := c5) (c6 := c6) (token := u_1.1) (place := u_1.2.1) (behindIt := u_1.2.2.1) (value := u_1.2.2.2) (tbytes := tbytes) (tlen := tlen) (bsize := bsize) (bcells := bcells) (ssize := ssize) (scells := scells) (dsize := dsize) (dcells := dcells) (people := people) (rule := rule) (believed := believed) (by decide) (by decide) e_2) (cwV 2 hts gX3_switchItem_X3_oneOf rfl rfl rfl hd_X3_oneOf ⟨Nat.le_of_ble_eq_true rfl, Nat.le_of_ble_eq_true rfl⟩) hK hP hD hS hA hE (q0 := 0) (ci := 3) rfl rfl rfl rfl hl.1 rfl (Nat.le_of_ble_eq_true rfl) dX3_switchItem_9 ⟨Nat.zero_le _, Nat.zero_le _⟩ (fun H locs hP hD hS => ?_)
  refine lv_istore_n (lv' := [(2, .int u_2.1), (0, .ref r0), (1, .int a1)]) hx hb dX3_switchItem_12 rfl hl (by decide) rfl (fun ls hl => ?_)
  refine lv_iload_n hx hb dX3_switchItem_13 rfl (lv_at hl 0 rfl) ?_
  refine lv_iconst (v := (-1 : Int32)) hx hb dX3_switchItem_14 (by decide) ?_
  refine lv_icmp_ne (tgt := 20) hx hb dX3_switchItem_15 (by decide) (fun c_3 => ?_) (fun c_3 => ?_)
  · have h := ifn c_3 h
    refine lv_aload_n hx hb dX3_switchItem_20 rfl (lv_at hl 1 rfl) ?_
    refine va_get (D := G) (ci := 3) (v := .ref c0) (C := RX3) (T := TX3) (N := 6) hx hb hts hin_X3 hown hK hP 0 rfl rfl 1 (by decide) fk_28 (fun _ h9 => h9) rfl dX3_switchItem_21 ?_
    refine lv_iload_n hx hb dX3_switchItem_24 rfl (lv_at hl 2 rfl) ?_
    refine lv_iload_n hx hb dX3_switchItem_25 rfl (lv_at hl 0 rfl) ?_
    refine lv_iconst (v := (1 : Int32)) hx hb dX3_switchItem_26 (by decide) ?_
    obtain ⟨u_4, e_4, h⟩ := bd_some h
    have J_4 : ∀ {H : Heap} {locs : List Loc} {ls : Array Slot}, va_P G vwCl (wRD ca ev r0 t0 t1 c0 c1 c2 c3 c4 c5 c6 u_2.2.1 u_2.2.2.1 u_2.2.2.2.1 u_2.2.2.2.2 tbytes tlen bsize bcells ssize scells dsize dcells people rule believed) H → va_D A (wRD ca ev r0 t0 t1 c0 c1 c2 c3 c4 c5 c6 u_2.2.1 u_2.2.2.1 u_2.2.2.2.1 u_2.2.2.2.2 tbytes tlen bsize bcells ssize scells dsize dcells people rule believed) → va_S A s.heap H locs → lv_has ls 3 [] → (u_4 = 0 ∨ u_4 = 1) → W p l e rm_X3_switchItem s m args below meth c H locs 0 0 Q (F0 m 35 ls [.int u_4, .int a1, .ref c0]) := by
      intro H locs ls hP hD hS hl zj_4_0
      obtain ⟨u_5, e_5, h⟩ := bd_some h
      refine cl_Vv (As := [.int a1, .int u_4]) (rest := []) (Wn := (wRD ca ev r0 t0 t1 c0 c1 c2 c3 c4 c5 c6 u_2.2.1 u_2.2.2.1 u_2.2.2.2.1 u_2.2.2.2.2 tbytes tlen bsize bcells ssize scells dsize dcells people u_5.1 u_5.2)) ⟨hx, hb, hml, hown, hts⟩ (c_X0_switchTo (ca := ca) (ev := ev) (c0 := c0) (c1 := c1) (c2 := c2) (c3 := c3) (c4 := c4) (c5 := c5) (c6 := c6) (bsize := bsize) (bcells := bcells) (ssize := ssize) (scells := scells) (dsize := dsize) (dcells := dcells) (people := people) (rule := rule) (believed := believed) e_5) (cwV 2 hts gX3_switchItem_X0_switchTo rfl rfl rfl hd_X0_switchTo ⟨Nat.le_of_ble_eq_true rfl, Nat.le_of_ble_eq_true rfl⟩) hK hP hD hS hA hE wp_17 (q0 := 0) (ci := 0) rfl rfl rfl rfl hl.1 rfl (Nat.le_of_ble_eq_true rfl) dX3_switchItem_35 ⟨Nat.zero_le _, Nat.zero_le _⟩ (fun H locs hP hD hS => ?_)
      refine lv_iconst (v := (1 : Int32)) hx hb dX3_switchItem_38 (by decide) ?_
      obtain rfl := Option.some.inj h
      exact hRet hP hD hS zb_1 dX3_switchItem_39
    have h := e_4
    clear e_4
    refine lv_icmp_ne (tgt := 34) hx hb dX3_switchItem_27 (by decide) (fun c_4 => ?_) (fun c_4 => ?_)
    · have h := ifn c_4 h
      refine lv_iconst (v := (0 : Int32)) hx hb dX3_switchItem_34 (by decide) ?_
      obtain rfl := Option.some.inj h
      exact J_4 hP hD hS (lv_sub hl [] rfl) zb_0
    · have h := ifp c_4 h
      refine lv_iconst (v := (1 : Int32)) hx hb dX3_switchItem_30 (by decide) ?_
      refine lv_goto (tgt := 35) hx hb dX3_switchItem_31 (by decide) ?_
      obtain rfl := Option.some.inj h
      exact J_4 hP hD hS (lv_sub hl [] rfl) zb_1
  · have h := ifp c_3 h
    refine lv_iconst (v := (0 : Int32)) hx hb dX3_switchItem_18 (by decide) ?_
    obtain rfl := Option.some.inj h
    exact hRet hP hD hS zb_0 dX3_switchItem_19
abbrev rm_X3_item : Room := { frames := 7, cells := 0, slots := 0, locals := 154 }
theorem hd_X3_item : yX3_item.cls = RX3 ∧ yX3_item.cls ≠ "java/lang/invoke/MethodHandle" ∧ yX3_item.cls ≠ "java/lang/invoke/VarHandle" ∧ (parseMethodDescriptor yX3_item.desc).map (fun d => d.parameters.length) = some 0 := by decide +kernel
set_option maxHeartbeats 4000000 in
set_option maxRecDepth 100000 in
theorem c_X3_item {l : Launch} {G : va_G} {ca : Nat → ClassId} {ev : Nat → Nat} {r0 t0 t1 c0 c1 c2 c3 c4 c5 c6 : Nat} {token : Int32} {place : Int32} {behindIt : Int32} {value : Int32} {tbytes : (Nat → Int32)} {tlen : Int32} {bsize : Int32} {bcells : (Nat → Int32)} {ssize : Int32} {scells : (Nat → Int32)} {dsize : Int32} {dcells : (Nat → Int32)} {people : Int32} {rule : Int32} {believed : Int32}  {N : Nat} {res : Int32 × Int32 × Int32 × Int32 × Int32 × Int32 × (Nat → Int32) × Int32 × (Nat → Int32) × Int32 × (Nat → Int32) × Int32 × Int32} (h : f_X3_item N token place behindIt value tbytes tlen bsize bcells ssize scells dsize dcells people rule believed = some res) : CtI l yX3_item wsX3_item rm_X3_item G ca ev [.ref r0] (wRD ca ev r0 t0 t1 c0 c1 c2 c3 c4 c5 c6 token place behindIt value tbytes tlen bsize bcells ssize scells dsize dcells people rule believed) (wRD ca ev r0 t0 t1 c0 c1 c2 c3 c4 c5 c6 res.2.1 res.2.2.1 res.2.2.2.1 res.2.2.2.2.1 tbytes tlen res.2.2.2.2.2.1 res.2.2.2.2.2.2.1 res.2.2.2.2.2.2.2.1 res.2.2.2.2.2.2.2.2.1 res.2.2.2.2.2.2.2.2.2.1 res.2.2.2.2.2.2.2.2.2.2.1 people res.2.2.2.2.2.2.2.2.2.2.2.1 res.2.2.2.2.2.2.2.2.2.2.2.2) res.1 := by
  unfold f_X3_item at h
  refine en_z (by decide) rfl (Nat.le_of_ble_eq_true rfl) ?_
  intro p e s m args below meth c A Q H locs ls hx hb hml hown hts hA hP hK hD hE hS hl hRet
  have hown : s.vm.findClass RX3 = some m.cls := hown
  have hl : lv_has ls 2 [(0, .ref r0)] := hl
  refine lv_aload_n hx hb dX3_item_0 rfl (lv_at hl 0 rfl) ?_
  refine va_ldcS hx hb hown (hE.2.2.2.1 ("MaskBows$Reader", 39, "bow", 0) (by decide +kernel)) dX3_item_1 ?_
  obtain ⟨u_1, e_1, h⟩ := bd_some h
  refine cm_Vi (As := [.ref (ev (1 + 2 * 0))]) (rest := []) ⟨hx, hb, hml, hown, hts⟩ (c_X3_isWord (ca := ca) (ev := ev) (r0 := r0) (t0 := t0) (t1 := t1) (c0 := c0) (c1 := c1) (c2 := c2) (c3 := c3) (c4 := c4) (c5 := c5) (c6 := c6) (token := token) (place := place) (behindIt := behindIt) (value := value) (tbytes := tbytes) (tlen := tlen) (bsize := bsize) (bcells := bcells) (ssize := ssize) (scells := scells) (dsize := dsize) (dcells := dcells) (people := people) (rule := rule) (believed := believed) (by decide) e_1) (cwV 1 hts gX3_item_X3_isWord rfl rfl rfl hd_X3_isWord ⟨Nat.le_of_ble_eq_true rfl, Nat.le_of_ble_eq_true rfl⟩) hK hP hD hS hA hE (q0 := 0) (ci := 3) rfl rfl rfl rfl hl.1 rfl (Nat.le_of_ble_eq_true rfl) dX3_item_3 ⟨Nat.zero_le _, Nat.zero_le _⟩ (fun H locs hP hD hS => ?_)
  refine lv_if_eq (tgt := 14) hx hb dX3_item_6 (by decide) (fun c_2 => ?_) (fun c_2 => ?_)
  · have h := ifp c_2 h
    refine lv_aload_n hx hb dX3_item_14 rfl (lv_at hl 0 rfl) ?_
    refine va_ldcS hx hb hown (hE.2.2.2.1 ("MaskBows$Reader", 48, "says", 2) (by decide +kernel)) dX3_item_15 ?_
    obtain ⟨u_3, e_3, h⟩ := bd_some h
    refine cm_Vi (As := [.ref (ev (1 + 2 * 2))]) (rest := []) ⟨hx, hb, hml, hown, hts⟩ (c_X3_isWord (ca := ca) (ev := ev) (r0 := r0) (t0 := t0) (t1 := t1) (c0 := c0) (c1 := c1) (c2 := c2) (c3 := c3) (c4 := c4) (c5 := c5) (c6 := c6) (token := token) (place := place) (behindIt := behindIt) (value := value) (tbytes := tbytes) (tlen := tlen) (bsize := bsize) (bcells := bcells) (ssize := ssize) (scells := scells) (dsize := dsize) (dcells := dcells) (people := people) (rule := rule) (believed := believed) (by decide) e_3) (cwV 1 hts gX3_item_X3_isWord rfl rfl rfl hd_X3_isWord ⟨Nat.le_of_ble_eq_true rfl, Nat.le_of_ble_eq_true rfl⟩) hK hP hD hS hA hE (q0 := 0) (ci := 3) rfl rfl rfl rfl hl.1 rfl (Nat.le_of_ble_eq_true rfl) dX3_item_17 ⟨Nat.zero_le _, Nat.zero_le _⟩ (fun H locs hP hD hS => ?_)
    refine lv_if_eq (tgt := 28) hx hb dX3_item_20 (by decide) (fun c_4 => ?_) (fun c_4 => ?_)
    · have h := ifp c_4 h
      refine lv_aload_n hx hb dX3_item_28 rfl (lv_at hl 0 rfl) ?_
      refine va_ldcS hx hb hown (hE.2.2.2.1 ("MaskBows$Reader", 53, "rule", 5) (by decide +kernel)) dX3_item_29 ?_
      obtain ⟨u_5, e_5, h⟩ := bd_some h
      refine cm_Vi (As := [.ref (ev (1 + 2 * 5))]) (rest := []) ⟨hx, hb, hml, hown, hts⟩ (c_X3_isWord (ca := ca) (ev := ev) (r0 := r0) (t0 := t0) (t1 := t1) (c0 := c0) (c1 := c1) (c2 := c2) (c3 := c3) (c4 := c4) (c5 := c5) (c6 := c6) (token := token) (place := place) (behindIt := behindIt) (value := value) (tbytes := tbytes) (tlen := tlen) (bsize := bsize) (bcells := bcells) (ssize := ssize) (scells := scells) (dsize := dsize) (dcells := dcells) (people := people) (rule := rule) (believed := believed) (by decide) e_5) (cwV 1 hts gX3_item_X3_isWord rfl rfl rfl hd_X3_isWord ⟨Nat.le_of_ble_eq_true rfl, Nat.le_of_ble_eq_true rfl⟩) hK hP hD hS hA hE (q0 := 0) (ci := 3) rfl rfl rfl rfl hl.1 rfl (Nat.le_of_ble_eq_true rfl) dX3_item_31 ⟨Nat.zero_le _, Nat.zero_le _⟩ (fun H locs hP hD hS => ?_)
      refine lv_if_eq (tgt := 43) hx hb dX3_item_34 (by decide) (fun c_6 => ?_) (fun c_6 => ?_)
      · have h := ifp c_6 h
        refine lv_aload_n hx hb dX3_item_43 rfl (lv_at hl 0 rfl) ?_
        refine va_ldcS hx hb hown (hE.2.2.2.1 ("MaskBows$Reader", 59, "believe", 8) (by decide +kernel)) dX3_item_44 ?_
        obtain ⟨u_7, e_7, h⟩ := bd_some h
        refine cm_Vi (As := [.ref (ev (1 + 2 * 8))]) (rest := []) ⟨hx, hb, hml, hown, hts⟩ (c_X3_isWord (ca := ca) (ev := ev) (r0 := r0) (t0 := t0) (t1 := t1) (c0 := c0) (c1 := c1) (c2 := c2) (c3 := c3) (c4 := c4) (c5 := c5) (c6 := c6) (token := token) (place := place) (behindIt := behindIt) (value := value) (tbytes := tbytes) (tlen := tlen) (bsize := bsize) (bcells := bcells) (ssize := ssize) (scells := scells) (dsize := dsize) (dcells := dcells) (people := people) (rule := rule) (believed := believed) (by decide) e_7) (cwV 1 hts gX3_item_X3_isWord rfl rfl rfl hd_X3_isWord ⟨Nat.le_of_ble_eq_true rfl, Nat.le_of_ble_eq_true rfl⟩) hK hP hD hS hA hE (q0 := 0) (ci := 3) rfl rfl rfl rfl hl.1 rfl (Nat.le_of_ble_eq_true rfl) dX3_item_46 ⟨Nat.zero_le _, Nat.zero_le _⟩ (fun H locs hP hD hS => ?_)
        refine lv_if_eq (tgt := 58) hx hb dX3_item_49 (by decide) (fun c_8 => ?_) (fun c_8 => ?_)
        · have h := ifp c_8 h
          refine lv_iconst (v := (0 : Int32)) hx hb dX3_item_58 (by decide) ?_
          refine lv_istore_n (lv' := [(1, .int (0 : Int32)), (0, .ref r0)]) hx hb dX3_item_59 rfl hl (by decide) rfl (fun ls hl => ?_)
          have L_60 : ∀  {token_60 : Int32} {place_60 : Int32} {behindIt_60 : Int32} {value_60 : Int32} {tbytes_60 : (Nat → Int32)} {tlen_60 : Int32} {bsize_60 : Int32} {bcells_60 : (Nat → Int32)} {ssize_60 : Int32} {scells_60 : (Nat → Int32)} {dsize_60 : Int32} {dcells_60 : (Nat → Int32)} {people_60 : Int32} {rule_60 : Int32} {believed_60 : Int32} {K_60 : Unit → Option (Int32 × Int32 × Int32 × Int32 × Int32 × Int32 × (Nat → Int32) × Int32 × (Nat → Int32) × Int32 × (Nat → Int32) × Int32 × Int32)} (n_60 : Nat) {x1_60 : Int32} {H : Heap} {locs : List Loc} {ls : Array Slot}, f_X3_item_60 N token_60 place_60 behindIt_60 value_60 tbytes_60 tlen_60 bsize_60 bcells_60 ssize_60 scells_60 dsize_60 dcells_60 people_60 rule_60 believed_60 K_60  n_60 x1_60 = some res → (∀ {H : Heap} {locs : List Loc} {pc : Nat} {ls : Array Slot}, va_P G vwCl (wRD ca ev r0 t0 t1 c0 c1 c2 c3 c4 c5 c6 res.2.1 res.2.2.1 res.2.2.2.1 res.2.2.2.2.1 tbytes_60 tlen_60 res.2.2.2.2.2.1 res.2.2.2.2.2.2.1 res.2.2.2.2.2.2.2.1 res.2.2.2.2.2.2.2.2.1 res.2.2.2.2.2.2.2.2.2.1 res.2.2.2.2.2.2.2.2.2.2.1 people_60 res.2.2.2.2.2.2.2.2.2.2.2.1 res.2.2.2.2.2.2.2.2.2.2.2.2) H → va_D A (wRD ca ev r0 t0 t1 c0 c1 c2 c3 c4 c5 c6 res.2.1 res.2.2.1 res.2.2.2.1 res.2.2.2.2.1 tbytes_60 tlen_60 res.2.2.2.2.2.1 res.2.2.2.2.2.2.1 res.2.2.2.2.2.2.2.1 res.2.2.2.2.2.2.2.2.1 res.2.2.2.2.2.2.2.2.2.1 res.2.2.2.2.2.2.2.2.2.2.1 people_60 res.2.2.2.2.2.2.2.2.2.2.2.1 res.2.2.2.2.2.2.2.2.2.2.2.2) → va_S A s.heap H locs → (res.1 = 0 ∨ res.1 = 1) → decode cX3_item pc = .ok (.ireturn, 1) → W p l e rm_X3_item s m args below meth c H locs 0 0 Q (F0 m pc ls [.int res.1])) → va_P G vwCl (wRD ca ev r0 t0 t1 c0 c1 c2 c3 c4 c5 c6 token_60 place_60 behindIt_60 value_60 tbytes_60 tlen_60 bsize_60 bcells_60 ssize_60 scells_60 dsize_60 dcells_60 people_60 rule_60 believed_60) H → va_D A (wRD ca ev r0 t0 t1 c0 c1 c2 c3 c4 c5 c6 token_60 place_60 behindIt_60 value_60 tbytes_60 tlen_60 bsize_60 bcells_60 ssize_60 scells_60 dsize_60 dcells_60 people_60 rule_60 believed_60) → va_S A s.heap H locs → lv_has ls 2 [(0, .ref r0), (1, .int x1_60)] → (∀ {uL_60 : Unit} {H : Heap} {locs : List Loc} {ls : Array Slot}, K_60 uL_60 = some res → va_P G vwCl (wRD ca ev r0 t0 t1 c0 c1 c2 c3 c4 c5 c6 token_60 place_60 behindIt_60 value_60 tbytes_60 tlen_60 bsize_60 bcells_60 ssize_60 scells_60 dsize_60 dcells_60 people_60 rule_60 believed_60) H → va_D A (wRD ca ev r0 t0 t1 c0 c1 c2 c3 c4 c5 c6 token_60 place_60 behindIt_60 value_60 tbytes_60 tlen_60 bsize_60 bcells_60 ssize_60 scells_60 dsize_60 dcells_60 people_60 rule_60 believed_60) → va_S A s.heap H locs → lv_has ls 2 [] → W p l e rm_X3_item s m args below meth c H locs 0 0 Q (F0 m 89 ls [])) → W p l e rm_X3_item s m args below meth c H locs 0 0 Q (F0 m 60 ls []) := by
            intro token_60 place_60 behindIt_60 value_60 tbytes_60 tlen_60 bsize_60 bcells_60 ssize_60 scells_60 dsize_60 dcells_60 people_60 rule_60 believed_60 K_60 n_60
            induction n_60 with
            | zero => intro x1_60 H locs ls h; exact absurd h (by rw [f_X3_item_60]; exact fun z => nomatch z)
            | succ n_60 ih =>
              intro x1_60 H locs ls h hRet hP hD hS hl JK_60
              rw [f_X3_item_60] at h
              refine lv_iload_n hx hb dX3_item_60 rfl (lv_at hl 1 rfl) ?_
              refine lv_bipush (v := (6 : Int32)) hx hb dX3_item_61 (by decide) ?_
              refine lv_icmp_ge (tgt := 89) hx hb dX3_item_63 (by decide) (fun c_9 => ?_) (fun c_9 => ?_)
              · have h := ifp c_9 h
                exact JK_60 h hP hD hS (lv_sub hl [] rfl)
              · have h := ifn c_9 h
                refine lv_aload_n hx hb dX3_item_66 rfl (lv_at hl 0 rfl) ?_
                refine lv_iload_n hx hb dX3_item_67 rfl (lv_at hl 1 rfl) ?_
                obtain ⟨u_10, e_10, h⟩ := bd_some h
                refine cn_So (As := [.int x1_60]) (rest := [.ref r0]) ⟨hx, hb, hml, hown, hts⟩ (c_X3_nameOf e_10) (va_cwS 1 hts gX3_item_X3_nameOf rfl rfl rfl hd_X3_nameOf ⟨Nat.le_of_ble_eq_true rfl, Nat.le_of_ble_eq_true rfl⟩) hK hP hD hS hA hE rfl hl.1 rfl (Nat.le_of_ble_eq_true rfl) dX3_item_68 ⟨Nat.zero_le _, Nat.zero_le _⟩ (fun H locs hP hD hS => ?_)
                obtain ⟨w_11, h⟩ := gd_some h
                obtain ⟨u_12, e_12, h⟩ := bd_some h
                refine cm_Vi (As := [.ref (ev (1 + 2 * u_10))]) (rest := []) ⟨hx, hb, hml, hown, hts⟩ (c_X3_isWord (ca := ca) (ev := ev) (r0 := r0) (t0 := t0) (t1 := t1) (c0 := c0) (c1 := c1) (c2 := c2) (c3 := c3) (c4 := c4) (c5 := c5) (c6 := c6) (token := token_60) (place := place_60) (behindIt := behindIt_60) (value := value_60) (tbytes := tbytes_60) (tlen := tlen_60) (bsize := bsize_60) (bcells := bcells_60) (ssize := ssize_60) (scells := scells_60) (dsize := dsize_60) (dcells := dcells_60) (people := people_60) (rule := rule_60) (believed := believed_60) (of_decide_eq_true w_11) e_12) (cwV 1 hts gX3_item_X3_isWord rfl rfl rfl hd_X3_isWord ⟨Nat.le_of_ble_eq_true rfl, Nat.le_of_ble_eq_true rfl⟩) hK hP hD hS hA hE (q0 := 0) (ci := 3) rfl rfl rfl rfl hl.1 rfl (Nat.le_of_ble_eq_true rfl) dX3_item_71 ⟨Nat.zero_le _, Nat.zero_le _⟩ (fun H locs hP hD hS => ?_)
                refine lv_if_eq (tgt := 83) hx hb dX3_item_74 (by decide) (fun c_13 => ?_) (fun c_13 => ?_)
                · have h := ifp c_13 h
                  refine lv_iinc (v := (x1_60 + (1 : Int32))) (lv' := [(1, .int (x1_60 + (1 : Int32))), (0, .ref r0)]) hx hb dX3_item_83 hl (k := 1) rfl rfl (by decide) rfl (fun ls hl => ?_)
                  refine lv_goto (tgt := 60) hx hb dX3_item_86 (by decide) ?_
                  exact ih h hRet hP hD hS (lv_sub hl [1, 0] rfl) JK_60
                · have h := ifn c_13 h
                  refine lv_aload_n hx hb dX3_item_77 rfl (lv_at hl 0 rfl) ?_
                  refine lv_iload_n hx hb dX3_item_78 rfl (lv_at hl 1 rfl) ?_
                  obtain ⟨u_14, e_14, h⟩ := bd_some h
                  refine cm_Vi (As := [.int x1_60]) (rest := []) ⟨hx, hb, hml, hown, hts⟩ (c_X3_deedItem (ca := ca) (ev := ev) (r0 := r0) (t0 := t0) (t1 := t1) (c0 := c0) (c1 := c1) (c2 := c2) (c3 := c3) (c4 := c4) (c5 := c5) (c6 := c6) (token := token_60) (place := place_60) (behindIt := behindIt_60) (value := value_60) (tbytes := tbytes_60) (tlen := tlen_60) (bsize := bsize_60) (bcells := bcells_60) (ssize := ssize_60) (scells := scells_60) (dsize := dsize_60) (dcells := dcells_60) (people := people_60) (rule := rule_60) (believed := believed_60) e_14) (cwV 1 hts gX3_item_X3_deedItem rfl rfl rfl hd_X3_deedItem ⟨Nat.le_of_ble_eq_true rfl, Nat.le_of_ble_eq_true rfl⟩) hK hP hD hS hA hE (q0 := 0) (ci := 3) rfl rfl rfl rfl hl.1 rfl (Nat.le_of_ble_eq_true rfl) dX3_item_79 ⟨Nat.zero_le _, Nat.zero_le _⟩ (fun H locs hP hD hS => ?_)
                  obtain ⟨z_15, h⟩ := gd_some h
                  obtain rfl := Option.some.inj h
                  exact hRet hP hD hS (isb_or z_15) dX3_item_82
          refine L_60 _ h hRet hP hD hS (lv_sub hl [1, 0] rfl) ?_
          clear h
          intro u_16 H locs ls h hP hD hS hl
          refine lv_iconst (v := (0 : Int32)) hx hb dX3_item_89 (by decide) ?_
          obtain rfl := Option.some.inj h
          exact hRet hP hD hS zb_0 dX3_item_90
        · have h := ifn c_8 h
          refine lv_aload_n hx hb dX3_item_52 rfl (lv_at hl 0 rfl) ?_
          refine lv_iconst (v := (1 : Int32)) hx hb dX3_item_53 (by decide) ?_
          obtain ⟨u_17, e_17, h⟩ := bd_some h
          refine cm_Vi (As := [.int (1 : Int32)]) (rest := []) ⟨hx, hb, hml, hown, hts⟩ (c_X3_switchItem (ca := ca) (ev := ev) (r0 := r0) (t0 := t0) (t1 := t1) (c0 := c0) (c1 := c1) (c2 := c2) (c3 := c3) (c4 := c4) (c5 := c5) (c6 := c6) (token := token) (place := place) (behindIt := behindIt) (value := value) (tbytes := tbytes) (tlen := tlen) (bsize := bsize) (bcells := bcells) (ssize := ssize) (scells := scells) (dsize := dsize) (dcells := dcells) (people := people) (rule := rule) (believed := believed) e_17) (cwV 1 hts gX3_item_X3_switchItem rfl rfl rfl hd_X3_switchItem ⟨Nat.le_of_ble_eq_true rfl, Nat.le_of_ble_eq_true rfl⟩) hK hP hD hS hA hE (q0 := 0) (ci := 3) rfl rfl rfl rfl hl.1 rfl (Nat.le_of_ble_eq_true rfl) dX3_item_54 ⟨Nat.zero_le _, Nat.zero_le _⟩ (fun H locs hP hD hS => ?_)
          obtain ⟨z_18, h⟩ := gd_some h
          obtain rfl := Option.some.inj h
          exact hRet hP hD hS (isb_or z_18) dX3_item_57
      · have h := ifn c_6 h
        refine lv_aload_n hx hb dX3_item_37 rfl (lv_at hl 0 rfl) ?_
        refine lv_iconst (v := (0 : Int32)) hx hb dX3_item_38 (by decide) ?_
        obtain ⟨u_19, e_19, h⟩ := bd_some h
        refine cm_Vi (As := [.int (0 : Int32)]) (rest := []) ⟨hx, hb, hml, hown, hts⟩ (c_X3_switchItem (ca := ca) (ev := ev) (r0 := r0) (t0 := t0) (t1 := t1) (c0 := c0) (c1 := c1) (c2 := c2) (c3 := c3) (c4 := c4) (c5 := c5) (c6 := c6) (token := token) (place := place) (behindIt := behindIt) (value := value) (tbytes := tbytes) (tlen := tlen) (bsize := bsize) (bcells := bcells) (ssize := ssize) (scells := scells) (dsize := dsize) (dcells := dcells) (people := people) (rule := rule) (believed := believed) e_19) (cwV 1 hts gX3_item_X3_switchItem rfl rfl rfl hd_X3_switchItem ⟨Nat.le_of_ble_eq_true rfl, Nat.le_of_ble_eq_true rfl⟩) hK hP hD hS hA hE (q0 := 0) (ci := 3) rfl rfl rfl rfl hl.1 rfl (Nat.le_of_ble_eq_true rfl) dX3_item_39 ⟨Nat.zero_le _, Nat.zero_le _⟩ (fun H locs hP hD hS => ?_)
        obtain ⟨z_20, h⟩ := gd_some h
        obtain rfl := Option.some.inj h
        exact hRet hP hD hS (isb_or z_20) dX3_item_42
    · have h := ifn c_4 h
      refine lv_aload_n hx hb dX3_item_23 rfl (lv_at hl 0 rfl) ?_
      obtain ⟨u_21, e_21, h⟩ := bd_some h
      refine cm_Vi (As := []) (rest := []) ⟨hx, hb, hml, hown, hts⟩ (c_X3_sayingItem (ca := ca) (ev := ev) (r0 := r0) (t0 := t0) (t1 := t1) (c0 := c0) (c1 := c1) (c2 := c2) (c3 := c3) (c4 := c4) (c5 := c5) (c6 := c6) (token := token) (place := place) (behindIt := behindIt) (value := value) (tbytes := tbytes) (tlen := tlen) (bsize := bsize) (bcells := bcells) (ssize := ssize) (scells := scells) (dsize := dsize) (dcells := dcells) (people := people) (rule := rule) (believed := believed) e_21) (cwV 0 hts gX3_item_X3_sayingItem rfl rfl rfl hd_X3_sayingItem ⟨Nat.le_of_ble_eq_true rfl, Nat.le_of_ble_eq_true rfl⟩) hK hP hD hS hA hE (q0 := 0) (ci := 3) rfl rfl rfl rfl hl.1 rfl (Nat.le_of_ble_eq_true rfl) dX3_item_24 ⟨Nat.zero_le _, Nat.zero_le _⟩ (fun H locs hP hD hS => ?_)
      obtain ⟨z_22, h⟩ := gd_some h
      obtain rfl := Option.some.inj h
      exact hRet hP hD hS (isb_or z_22) dX3_item_27
  · have h := ifn c_2 h
    refine lv_aload_n hx hb dX3_item_9 rfl (lv_at hl 0 rfl) ?_
    obtain ⟨u_23, e_23, h⟩ := bd_some h
    refine cm_Vi (As := []) (rest := []) ⟨hx, hb, hml, hown, hts⟩ (c_X3_bowItem (ca := ca) (ev := ev) (r0 := r0) (t0 := t0) (t1 := t1) (c0 := c0) (c1 := c1) (c2 := c2) (c3 := c3) (c4 := c4) (c5 := c5) (c6 := c6) (token := token) (place := place) (behindIt := behindIt) (value := value) (tbytes := tbytes) (tlen := tlen) (bsize := bsize) (bcells := bcells) (ssize := ssize) (scells := scells) (dsize := dsize) (dcells := dcells) (people := people) (rule := rule) (believed := believed) e_23) (cwV 0 hts gX3_item_X3_bowItem rfl rfl rfl hd_X3_bowItem ⟨Nat.le_of_ble_eq_true rfl, Nat.le_of_ble_eq_true rfl⟩) hK hP hD hS hA hE (q0 := 0) (ci := 3) rfl rfl rfl rfl hl.1 rfl (Nat.le_of_ble_eq_true rfl) dX3_item_10 ⟨Nat.zero_le _, Nat.zero_le _⟩ (fun H locs hP hD hS => ?_)
    obtain ⟨z_24, h⟩ := gd_some h
    obtain rfl := Option.some.inj h
    exact hRet hP hD hS (isb_or z_24) dX3_item_13
abbrev rm_X3_items : Room := { frames := 8, cells := 0, slots := 0, locals := 175 }
theorem hd_X3_items : yX3_items.cls = RX3 ∧ yX3_items.cls ≠ "java/lang/invoke/MethodHandle" ∧ yX3_items.cls ≠ "java/lang/invoke/VarHandle" ∧ (parseMethodDescriptor yX3_items.desc).map (fun d => d.parameters.length) = some 0 := by decide +kernel
set_option maxHeartbeats 4000000 in
set_option maxRecDepth 100000 in
theorem c_X3_items {l : Launch} {G : va_G} {ca : Nat → ClassId} {ev : Nat → Nat} {r0 t0 t1 c0 c1 c2 c3 c4 c5 c6 : Nat} {token : Int32} {place : Int32} {behindIt : Int32} {value : Int32} {tbytes : (Nat → Int32)} {tlen : Int32} {bsize : Int32} {bcells : (Nat → Int32)} {ssize : Int32} {scells : (Nat → Int32)} {dsize : Int32} {dcells : (Nat → Int32)} {people : Int32} {rule : Int32} {believed : Int32}  {N : Nat} {res : Int32 × Int32 × Int32 × Int32 × Int32 × Int32 × (Nat → Int32) × Int32 × (Nat → Int32) × Int32 × (Nat → Int32) × Int32 × Int32} (h : f_X3_items N token place behindIt value tbytes tlen bsize bcells ssize scells dsize dcells people rule believed = some res) : CtI l yX3_items wsX3_items rm_X3_items G ca ev [.ref r0] (wRD ca ev r0 t0 t1 c0 c1 c2 c3 c4 c5 c6 token place behindIt value tbytes tlen bsize bcells ssize scells dsize dcells people rule believed) (wRD ca ev r0 t0 t1 c0 c1 c2 c3 c4 c5 c6 res.2.1 res.2.2.1 res.2.2.2.1 res.2.2.2.2.1 tbytes tlen res.2.2.2.2.2.1 res.2.2.2.2.2.2.1 res.2.2.2.2.2.2.2.1 res.2.2.2.2.2.2.2.2.1 res.2.2.2.2.2.2.2.2.2.1 res.2.2.2.2.2.2.2.2.2.2.1 people res.2.2.2.2.2.2.2.2.2.2.2.1 res.2.2.2.2.2.2.2.2.2.2.2.2) res.1 := by
  unfold f_X3_items at h
  refine en_i (by decide) rfl (Nat.le_of_ble_eq_true rfl) ?_
  intro p e s m args below meth c A Q H locs ls hx hb hml hown hts hA hP hK hD hE hS hl hRet
  have hown : s.vm.findClass RX3 = some m.cls := hown
  have hl : lv_has ls 2 [(0, .ref r0)] := hl
  have hin_X3 : ∀ w ∈ u_ws RX3 TX3 6, w ∈ wsX3_items := fun w h9 => List.mem_cons_of_mem _ (List.mem_append_left _ (List.mem_append_left _ (List.mem_append_left _ (List.mem_append_right _ h9))))
  have fk_11 := hts (.fieldLink RX3 11 "MaskBows$Reader" "token" "I") (by decide +kernel)
  have fk_15 := hts (.fieldLink RX3 15 "MaskBows$Reader" "place" "I") (by decide +kernel)
  have fk_18 := hts (.fieldLink RX3 18 "MaskBows$Reader" "behindIt" "I") (by decide +kernel)
  refine lv_aload_n hx hb dX3_items_0 rfl (lv_at hl 0 rfl) ?_
  refine lv_iconst (v := (0 : Int32)) hx hb dX3_items_1 (by decide) ?_
  refine va_put (D := G) (ci := 3) (v := .int (0 : Int32)) (ty := .int) (C := RX3) (T := TX3) (N := 6) hx hb hts hin_X3 tyX3 tyX3_ok nmX3 hown hK hP hD hS 0 rfl rfl 4 (by decide) fk_18 (fun _ h9 => h9) rfl (tyX3_ok 4 (by decide)) rfl rfl (Nat.le_of_ble_eq_true rfl) dX3_items_2 (fun H locs hP hD hS => ?_)
  have hP : va_P G vwCl (wRD ca ev r0 t0 t1 c0 c1 c2 c3 c4 c5 c6 token place (0 : Int32) value tbytes tlen bsize bcells ssize scells dsize dcells people rule believed) H := hP
  have hD : va_D A (wRD ca ev r0 t0 t1 c0 c1 c2 c3 c4 c5 c6 token place (0 : Int32) value tbytes tlen bsize bcells ssize scells dsize dcells people rule believed) := hD
  refine lv_aload_n hx hb dX3_items_5 rfl (lv_at hl 0 rfl) ?_
  obtain ⟨u_1, e_1, h⟩ := bd_some h
  refine cm_Vv (As := []) (rest := []) ⟨hx, hb, hml, hown, hts⟩ (c_X3_step (ca := ca) (ev := ev) (r0 := r0) (t0 := t0) (t1 := t1) (c0 := c0) (c1 := c1) (c2 := c2) (c3 := c3) (c4 := c4) (c5 := c5) (c6 := c6) (token := token) (place := place) (behindIt := (0 : Int32)) (value := value) (tbytes := tbytes) (tlen := tlen) (bsize := bsize) (bcells := bcells) (ssize := ssize) (scells := scells) (dsize := dsize) (dcells := dcells) (people := people) (rule := rule) (believed := believed) e_1) (cwV 0 hts gX3_items_X3_step rfl rfl rfl hd_X3_step ⟨Nat.le_of_ble_eq_true rfl, Nat.le_of_ble_eq_true rfl⟩) hK hP hD hS hA hE (q0 := 0) (ci := 3) rfl rfl rfl rfl hl.1 rfl (Nat.le_of_ble_eq_true rfl) dX3_items_6 ⟨Nat.zero_le _, Nat.zero_le _⟩ (fun H locs hP hD hS => ?_)
  refine lv_iconst (v := (1 : Int32)) hx hb dX3_items_9 (by decide) ?_
  refine lv_istore_n (lv' := [(1, .int (1 : Int32)), (0, .ref r0)]) hx hb dX3_items_10 rfl hl (by decide) rfl (fun ls hl => ?_)
  have L_11 : ∀  {tbytes_11 : (Nat → Int32)} {tlen_11 : Int32} {people_11 : Int32} {K_11 : (Int32 × Int32 × Int32 × Int32 × Int32 × (Nat → Int32) × Int32 × (Nat → Int32) × Int32 × (Nat → Int32) × Int32 × Int32) → Option (Int32 × Int32 × Int32 × Int32 × Int32 × Int32 × (Nat → Int32) × Int32 × (Nat → Int32) × Int32 × (Nat → Int32) × Int32 × Int32)} (n_11 : Nat) {x1_11 : Int32} {token_11 : Int32} {place_11 : Int32} {behindIt_11 : Int32} {value_11 : Int32} {bsize_11 : Int32} {bcells_11 : (Nat → Int32)} {ssize_11 : Int32} {scells_11 : (Nat → Int32)} {dsize_11 : Int32} {dcells_11 : (Nat → Int32)} {rule_11 : Int32} {believed_11 : Int32} {H : Heap} {locs : List Loc} {ls : Array Slot}, f_X3_items_11 N tbytes_11 tlen_11 people_11 K_11  n_11 x1_11 token_11 place_11 behindIt_11 value_11 bsize_11 bcells_11 ssize_11 scells_11 dsize_11 dcells_11 rule_11 believed_11 = some res → (∀ {H : Heap} {locs : List Loc} {pc : Nat} {ls : Array Slot}, va_P G vwCl (wRD ca ev r0 t0 t1 c0 c1 c2 c3 c4 c5 c6 res.2.1 res.2.2.1 res.2.2.2.1 res.2.2.2.2.1 tbytes_11 tlen_11 res.2.2.2.2.2.1 res.2.2.2.2.2.2.1 res.2.2.2.2.2.2.2.1 res.2.2.2.2.2.2.2.2.1 res.2.2.2.2.2.2.2.2.2.1 res.2.2.2.2.2.2.2.2.2.2.1 people_11 res.2.2.2.2.2.2.2.2.2.2.2.1 res.2.2.2.2.2.2.2.2.2.2.2.2) H → va_D A (wRD ca ev r0 t0 t1 c0 c1 c2 c3 c4 c5 c6 res.2.1 res.2.2.1 res.2.2.2.1 res.2.2.2.2.1 tbytes_11 tlen_11 res.2.2.2.2.2.1 res.2.2.2.2.2.2.1 res.2.2.2.2.2.2.2.1 res.2.2.2.2.2.2.2.2.1 res.2.2.2.2.2.2.2.2.2.1 res.2.2.2.2.2.2.2.2.2.2.1 people_11 res.2.2.2.2.2.2.2.2.2.2.2.1 res.2.2.2.2.2.2.2.2.2.2.2.2) → va_S A s.heap H locs → decode cX3_items pc = .ok (.ireturn, 1) → W p l e rm_X3_items s m args below meth c H locs 0 0 Q (F0 m pc ls [.int res.1])) → va_P G vwCl (wRD ca ev r0 t0 t1 c0 c1 c2 c3 c4 c5 c6 token_11 place_11 behindIt_11 value_11 tbytes_11 tlen_11 bsize_11 bcells_11 ssize_11 scells_11 dsize_11 dcells_11 people_11 rule_11 believed_11) H → va_D A (wRD ca ev r0 t0 t1 c0 c1 c2 c3 c4 c5 c6 token_11 place_11 behindIt_11 value_11 tbytes_11 tlen_11 bsize_11 bcells_11 ssize_11 scells_11 dsize_11 dcells_11 people_11 rule_11 believed_11) → va_S A s.heap H locs → lv_has ls 2 [(0, .ref r0), (1, .int x1_11)] → (∀ {uL_11 : Int32 × Int32 × Int32 × Int32 × Int32 × (Nat → Int32) × Int32 × (Nat → Int32) × Int32 × (Nat → Int32) × Int32 × Int32} {H : Heap} {locs : List Loc} {ls : Array Slot}, K_11 uL_11 = some res → va_P G vwCl (wRD ca ev r0 t0 t1 c0 c1 c2 c3 c4 c5 c6 uL_11.1 uL_11.2.1 uL_11.2.2.1 uL_11.2.2.2.1 tbytes_11 tlen_11 uL_11.2.2.2.2.1 uL_11.2.2.2.2.2.1 uL_11.2.2.2.2.2.2.1 uL_11.2.2.2.2.2.2.2.1 uL_11.2.2.2.2.2.2.2.2.1 uL_11.2.2.2.2.2.2.2.2.2.1 people_11 uL_11.2.2.2.2.2.2.2.2.2.2.1 uL_11.2.2.2.2.2.2.2.2.2.2.2) H → va_D A (wRD ca ev r0 t0 t1 c0 c1 c2 c3 c4 c5 c6 uL_11.1 uL_11.2.1 uL_11.2.2.1 uL_11.2.2.2.1 tbytes_11 tlen_11 uL_11.2.2.2.2.1 uL_11.2.2.2.2.2.1 uL_11.2.2.2.2.2.2.1 uL_11.2.2.2.2.2.2.2.1 uL_11.2.2.2.2.2.2.2.2.1 uL_11.2.2.2.2.2.2.2.2.2.1 people_11 uL_11.2.2.2.2.2.2.2.2.2.2.1 uL_11.2.2.2.2.2.2.2.2.2.2.2) → va_S A s.heap H locs → lv_has ls 2 [(0, .ref r0)] → W p l e rm_X3_items s m args below meth c H locs 0 0 Q (F0 m 58 ls [])) → W p l e rm_X3_items s m args below meth c H locs 0 0 Q (F0 m 11 ls []) := by
    intro tbytes_11 tlen_11 people_11 K_11 n_11
    induction n_11 with
    | zero => intro x1_11 token_11 place_11 behindIt_11 value_11 bsize_11 bcells_11 ssize_11 scells_11 dsize_11 dcells_11 rule_11 believed_11 H locs ls h; exact absurd h (by rw [f_X3_items_11]; exact fun z => nomatch z)
    | succ n_11 ih =>
      intro x1_11 token_11 place_11 behindIt_11 value_11 bsize_11 bcells_11 ssize_11 scells_11 dsize_11 dcells_11 rule_11 believed_11 H locs ls h hRet hP hD hS hl JK_11
      rw [f_X3_items_11] at h
      refine lv_iload_n hx hb dX3_items_11 rfl (lv_at hl 1 rfl) ?_
      refine lv_bipush (v := (120 : Int32)) hx hb dX3_items_12 (by decide) ?_
      refine lv_icmp_gt (tgt := 58) hx hb dX3_items_14 (by decide) (fun c_2 => ?_) (fun c_2 => ?_)
      · have h := ifp c_2 h
        exact JK_11 h hP hD hS (lv_sub hl [0] rfl)
      · have h := ifn c_2 h
        refine lv_aload_n hx hb dX3_items_17 rfl (lv_at hl 0 rfl) ?_
        obtain ⟨u_3, e_3, h⟩ := bd_some h
        refine cm_Vi (As := []) (rest := []) ⟨hx, hb, hml, hown, hts⟩ (c_X3_item (ca := ca) (ev := ev) (r0 := r0) (t0 := t0) (t1 := t1) (c0 := c0) (c1 := c1) (c2 := c2) (c3 := c3) (c4 := c4) (c5 := c5) (c6 := c6) (token := token_11) (place := place_11) (behindIt := behindIt_11) (value := value_11) (tbytes := tbytes_11) (tlen := tlen_11) (bsize := bsize_11) (bcells := bcells_11) (ssize := ssize_11) (scells := scells_11) (dsize := dsize_11) (dcells := dcells_11) (people := people_11) (rule := rule_11) (believed := believed_11) e_3) (cwV 0 hts gX3_items_X3_item rfl rfl rfl hd_X3_item ⟨Nat.le_of_ble_eq_true rfl, Nat.le_of_ble_eq_true rfl⟩) hK hP hD hS hA hE (q0 := 0) (ci := 3) rfl rfl rfl rfl hl.1 rfl (Nat.le_of_ble_eq_true rfl) dX3_items_18 ⟨Nat.zero_le _, Nat.zero_le _⟩ (fun H locs hP hD hS => ?_)
        refine lv_if_eq (tgt := 58) hx hb dX3_items_21 (by decide) (fun c_4 => ?_) (fun c_4 => ?_)
        · have h := ifp c_4 h
          exact JK_11 h hP hD hS (lv_sub hl [0] rfl)
        · have h := ifn c_4 h
          refine lv_aload_n hx hb dX3_items_24 rfl (lv_at hl 0 rfl) ?_
          refine va_get (D := G) (ci := 3) (v := .int u_3.2.1) (C := RX3) (T := TX3) (N := 6) hx hb hts hin_X3 hown hK hP 0 rfl rfl 2 (by decide) fk_11 (fun _ h9 => h9) rfl dX3_items_25 ?_
          refine lv_if_ne (tgt := 33) hx hb dX3_items_28 (by decide) (fun c_5 => ?_) (fun c_5 => ?_)
          · have h := ifn c_5 h
            refine lv_aload_n hx hb dX3_items_33 rfl (lv_at hl 0 rfl) ?_
            refine va_get (D := G) (ci := 3) (v := .int u_3.2.1) (C := RX3) (T := TX3) (N := 6) hx hb hts hin_X3 hown hK hP 0 rfl rfl 2 (by decide) fk_11 (fun _ h9 => h9) rfl dX3_items_34 ?_
            refine lv_iconst (v := (3 : Int32)) hx hb dX3_items_37 (by decide) ?_
            refine lv_icmp_eq (tgt := 48) hx hb dX3_items_38 (by decide) (fun c_6 => ?_) (fun c_6 => ?_)
            · have h := ifp c_6 h
              refine lv_aload_n hx hb dX3_items_48 rfl (lv_at hl 0 rfl) ?_
              obtain ⟨u_7, e_7, h⟩ := bd_some h
              refine cm_Vv (As := []) (rest := []) ⟨hx, hb, hml, hown, hts⟩ (c_X3_step (ca := ca) (ev := ev) (r0 := r0) (t0 := t0) (t1 := t1) (c0 := c0) (c1 := c1) (c2 := c2) (c3 := c3) (c4 := c4) (c5 := c5) (c6 := c6) (token := u_3.2.1) (place := u_3.2.2.1) (behindIt := u_3.2.2.2.1) (value := u_3.2.2.2.2.1) (tbytes := tbytes_11) (tlen := tlen_11) (bsize := u_3.2.2.2.2.2.1) (bcells := u_3.2.2.2.2.2.2.1) (ssize := u_3.2.2.2.2.2.2.2.1) (scells := u_3.2.2.2.2.2.2.2.2.1) (dsize := u_3.2.2.2.2.2.2.2.2.2.1) (dcells := u_3.2.2.2.2.2.2.2.2.2.2.1) (people := people_11) (rule := u_3.2.2.2.2.2.2.2.2.2.2.2.1) (believed := u_3.2.2.2.2.2.2.2.2.2.2.2.2) e_7) (cwV 0 hts gX3_items_X3_step rfl rfl rfl hd_X3_step ⟨Nat.le_of_ble_eq_true rfl, Nat.le_of_ble_eq_true rfl⟩) hK hP hD hS hA hE (q0 := 0) (ci := 3) rfl rfl rfl rfl hl.1 rfl (Nat.le_of_ble_eq_true rfl) dX3_items_49 ⟨Nat.zero_le _, Nat.zero_le _⟩ (fun H locs hP hD hS => ?_)
              refine lv_iinc (v := (x1_11 + (1 : Int32))) (lv' := [(1, .int (x1_11 + (1 : Int32))), (0, .ref r0)]) hx hb dX3_items_52 hl (k := 1) rfl rfl (by decide) rfl (fun ls hl => ?_)
              refine lv_goto (tgt := 11) hx hb dX3_items_55 (by decide) ?_
              exact ih h hRet hP hD hS (lv_sub hl [1, 0] rfl) JK_11
            · have h := ifn c_6 h
              refine lv_iconst (v := (-1 : Int32)) hx hb dX3_items_41 (by decide) ?_
              refine lv_aload_n hx hb dX3_items_42 rfl (lv_at hl 0 rfl) ?_
              refine va_get (D := G) (ci := 3) (v := .int u_3.2.2.1) (C := RX3) (T := TX3) (N := 6) hx hb hts hin_X3 hown hK hP 0 rfl rfl 3 (by decide) fk_15 (fun _ h9 => h9) rfl dX3_items_43 ?_
              refine lv_isub hx hb dX3_items_46 ?_
              obtain rfl := Option.some.inj h
              exact hRet hP hD hS dX3_items_47
          · have h := ifp c_5 h
            refine lv_iload_n hx hb dX3_items_31 rfl (lv_at hl 1 rfl) ?_
            obtain rfl := Option.some.inj h
            exact hRet hP hD hS dX3_items_32
  refine L_11 _ h hRet hP hD hS (lv_sub hl [1, 0] rfl) ?_
  clear h
  intro u_8 H locs ls h hP hD hS hl
  refine lv_iconst (v := (-1 : Int32)) hx hb dX3_items_58 (by decide) ?_
  refine lv_aload_n hx hb dX3_items_59 rfl (lv_at hl 0 rfl) ?_
  refine va_get (D := G) (ci := 3) (v := .int u_8.2.1) (C := RX3) (T := TX3) (N := 6) hx hb hts hin_X3 hown hK hP 0 rfl rfl 3 (by decide) fk_15 (fun _ h9 => h9) rfl dX3_items_60 ?_
  refine lv_isub hx hb dX3_items_63 ?_
  obtain rfl := Option.some.inj h
  exact hRet hP hD hS dX3_items_64
abbrev rm_X5_takeRunSelf : Room := { frames := 1, cells := 0, slots := 0, locals := 64 }
theorem hd_X5_takeRunSelf : yX5_takeRun.cls = RX5 ∧ yX5_takeRun.cls ≠ "java/lang/invoke/MethodHandle" ∧ yX5_takeRun.cls ≠ "java/lang/invoke/VarHandle" ∧ (parseMethodDescriptor yX5_takeRun.desc).map (fun d => d.parameters.length) = some 4 := by decide +kernel
set_option maxHeartbeats 4000000 in
set_option maxRecDepth 100000 in
theorem c_X5_takeRunSelf {l : Launch} {G : va_G} {ca : Nat → ClassId} {ev : Nat → Nat} {s0 s1 : Nat} {nums : (Nat → Int64)} {bits : Int32} {len : Int32} {a2 : Int32} {a3 : Int32} {a4 : Int32} {res : (Nat → Int64)} (h : f_X5_takeRunSelf nums len a2 a3 a4 = some res) : CtV l yX5_takeRun wsX5_takeRun rm_X5_takeRunSelf G ca ev [.ref s0, .ref s0, .int a2, .int a3, .int a4] (wS ca ev s0 s1 nums bits len) (wS ca ev s0 s1 res bits len) := by
  unfold f_X5_takeRunSelf at h
  refine en_v (by decide) rfl (Nat.le_of_ble_eq_true rfl) ?_
  intro p e s m args below meth c A Q H locs ls hx hb hml hown hts hA hP hK hD hE hS hl hRet
  have hown : s.vm.findClass RX5 = some m.cls := hown
  have hl : lv_has ls 5 [(0, .ref s0), (1, .ref s0), (2, .int a2), (3, .int a3), (4, .int a4)] := hl
  have hin_X5 : ∀ w ∈ u_ws RX5 TX5 3, w ∈ wsX5_takeRun := fun w h9 => List.mem_cons_of_mem _ (List.mem_append_right _ h9)
  have fk_9 := hts (.fieldLink RX5 9 "MaskBows$Sheet" "numbers" "[J") (by decide +kernel)
  refine lv_aload_n hx hb dX5_takeRun_0 rfl (lv_at hl 1 rfl) ?_
  refine lv_iload_n hx hb dX5_takeRun_1 rfl (lv_at hl 2 rfl) ?_
  refine lv_iload hx hb dX5_takeRun_2 (lv_at hl 4 rfl) ?_
  obtain ⟨u_1, e_1, h⟩ := bd_some h
  refine cm_Vi (As := [.int a2, .int a4]) (rest := []) ⟨hx, hb, hml, hown, hts⟩ (c_X5_hasRun (ca := ca) (ev := ev) (s0 := s0) (s1 := s1) (nums := nums) (bits := bits) (len := len) e_1) (cwV 2 hts gX5_takeRun_X5_hasRun rfl rfl rfl hd_X5_hasRun ⟨Nat.le_of_ble_eq_true rfl, Nat.le_of_ble_eq_true rfl⟩) hK hP hD hS hA hE (q0 := 0) (ci := 5) rfl rfl rfl rfl hl.1 rfl (Nat.le_of_ble_eq_true rfl) dX5_takeRun_4 ⟨Nat.zero_le _, Nat.zero_le _⟩ (fun H locs hP hD hS => ?_)
  refine lv_if_eq (tgt := 35) hx hb dX5_takeRun_7 (by decide) (fun c_2 => ?_) (fun c_2 => ?_)
  · have h := ifp c_2 h
    obtain rfl := Option.some.inj h
    exact hRet hP hD hS dX5_takeRun_35
  · have h := ifn c_2 h
    refine lv_aload_n hx hb dX5_takeRun_10 rfl (lv_at hl 0 rfl) ?_
    refine lv_iload_n hx hb dX5_takeRun_11 rfl (lv_at hl 3 rfl) ?_
    refine lv_iload hx hb dX5_takeRun_12 (lv_at hl 4 rfl) ?_
    obtain ⟨u_3, e_3, h⟩ := bd_some h
    refine cm_Vi (As := [.int a3, .int a4]) (rest := []) ⟨hx, hb, hml, hown, hts⟩ (c_X5_hasRun (ca := ca) (ev := ev) (s0 := s0) (s1 := s1) (nums := nums) (bits := bits) (len := len) e_3) (cwV 2 hts gX5_takeRun_X5_hasRun rfl rfl rfl hd_X5_hasRun ⟨Nat.le_of_ble_eq_true rfl, Nat.le_of_ble_eq_true rfl⟩) hK hP hD hS hA hE (q0 := 0) (ci := 5) rfl rfl rfl rfl hl.1 rfl (Nat.le_of_ble_eq_true rfl) dX5_takeRun_14 ⟨Nat.zero_le _, Nat.zero_le _⟩ (fun H locs hP hD hS => ?_)
    refine lv_if_eq (tgt := 35) hx hb dX5_takeRun_17 (by decide) (fun c_4 => ?_) (fun c_4 => ?_)
    · have h := ifp c_4 h
      obtain rfl := Option.some.inj h
      exact hRet hP hD hS dX5_takeRun_35
    · have h := ifn c_4 h
      refine lv_aload_n hx hb dX5_takeRun_20 rfl (lv_at hl 1 rfl) ?_
      refine va_get (D := G) (ci := 5) (v := .ref s1) (C := RX5) (T := TX5) (N := 3) hx hb hts hin_X5 hown hK hP 0 rfl rfl 0 (by decide) fk_9 (fun _ h9 => h9) rfl dX5_takeRun_21 ?_
      refine lv_iload_n hx hb dX5_takeRun_24 rfl (lv_at hl 2 rfl) ?_
      refine lv_aload_n hx hb dX5_takeRun_25 rfl (lv_at hl 0 rfl) ?_
      refine va_get (D := G) (ci := 5) (v := .ref s1) (C := RX5) (T := TX5) (N := 3) hx hb hts hin_X5 hown hK hP 0 rfl rfl 0 (by decide) fk_9 (fun _ h9 => h9) rfl dX5_takeRun_26 ?_
      refine lv_iload_n hx hb dX5_takeRun_29 rfl (lv_at hl 3 rfl) ?_
      refine lv_iload hx hb dX5_takeRun_30 (lv_at hl 4 rfl) ?_
      obtain ⟨g_5, h⟩ := gd_some h
      obtain ⟨g1_5, g2_5, g3_5, g4_5, g5_5⟩ := cpg_in g_5
      refine va_copyl (rest := []) hx hb (hml.trans hl.1.symm) hown (hts (.methodLink RX5 43 arraycopyName) (by decide +kernel)) (hts (.native arraycopyName) (by decide +kernel)) (hts (.static arraycopyName) (by decide +kernel)) (hts (.initialized "java/lang/System") (by decide +kernel)) hK hP hD hS 1 1 1 1 rfl rfl rfl rfl rfl g1_5 g2_5 g3_5 g4_5 g5_5 (fun _ _ => rfl) (Nat.le_of_ble_eq_true rfl) (Nat.le_of_ble_eq_true rfl) dX5_takeRun_32 (fun H locs hP hD hS => ?_)
      have hP : va_P G vwCl (wS ca ev s0 s1 (va_cpy nums nums a2.toNatClampNeg a3.toNatClampNeg a4.toNatClampNeg) bits len) H := hP
      have hD : va_D A (wS ca ev s0 s1 (va_cpy nums nums a2.toNatClampNeg a3.toNatClampNeg a4.toNatClampNeg) bits len) := hD
      obtain rfl := Option.some.inj h
      exact hRet hP hD hS dX5_takeRun_35
abbrev rm_X7_carnival : Room := { frames := 9, cells := 0, slots := 0, locals := 196 }
theorem hd_X7_carnival : yX7_carnival.cls = RX7 ∧ yX7_carnival.cls ≠ "java/lang/invoke/MethodHandle" ∧ yX7_carnival.cls ≠ "java/lang/invoke/VarHandle" ∧ (parseMethodDescriptor yX7_carnival.desc).map (fun d => d.parameters.length) = some 0 := by decide +kernel
set_option maxHeartbeats 4000000 in
set_option maxRecDepth 100000 in
theorem c_X7_carnival {l : Launch} {G : va_G} {ca : Nat → ClassId} {ev : Nat → Nat} {m0 l0 l1 l2 l3 l4 l5 l6 k0 k1 k2 k3 k4 k5 k6 d0 d1 d2 d3 d4 d5 d6 n0 n1 n2 n3 n4 n5 n6 n7 b0 b1 b2 t0 t1 r0 sa sa0 sa1 sb0 sb1 sc0 sc1 sd0 sd1 fa : Nat} {isKept : Int32} {l_bsize : Int32} {l_bcells : (Nat → Int32)} {l_ssize : Int32} {l_scells : (Nat → Int32)} {l_dsize : Int32} {l_dcells : (Nat → Int32)} {l_people : Int32} {l_rule : Int32} {l_believed : Int32} {k_bsize : Int32} {k_bcells : (Nat → Int32)} {k_ssize : Int32} {k_scells : (Nat → Int32)} {k_dsize : Int32} {k_dcells : (Nat → Int32)} {k_people : Int32} {k_rule : Int32} {k_believed : Int32} {d_bsize : Int32} {d_bcells : (Nat → Int32)} {d_ssize : Int32} {d_scells : (Nat → Int32)} {d_dsize : Int32} {d_dcells : (Nat → Int32)} {d_people : Int32} {d_rule : Int32} {d_believed : Int32} {order : (Nat → Int32)} {stepsAt : (Nat → Int32)} {doubts : (Nat → Int32)} {weights : (Nat → Int32)} {rows : (Nat → Int32)} {metEver : (Nat → Int32)} {bowedTo : (Nat → Int32)} {isStale : Int32} {bowCount : Int32} {doubtCount : Int32} {seenBows : Int32} {likeliest : Int32} {mostSayingsSo : Int32} {doers : (Nat → Int64)} {isTelling : (Nat → Int32)} {tbytes : (Nat → Int32)} {tlen : Int32} {token : Int32} {place : Int32} {behindIt : Int32} {value : Int32} {sa_nums : (Nat → Int64)} {sa_bits : Int32} {sa_len : Int32} {sb_nums : (Nat → Int64)} {sb_bits : Int32} {sb_len : Int32} {sc_nums : (Nat → Int64)} {sc_bits : Int32} {sc_len : Int32} {sd_nums : (Nat → Int64)} {sd_bits : Int32} {sd_len : Int32} {findings : (Nat → Int32)}  {N : Nat} {res : Int32 × Int32 × (Nat → Int32) × Int32 × (Nat → Int32) × Int32 × (Nat → Int32) × Int32 × Int32 × Int32 × Int32 × (Nat → Int32) × Int32 × (Nat → Int32) × Int32 × (Nat → Int32) × Int32 × Int32 × Int32 × Int32 × Int32 × Int32 × Int32 × Int32 × Int32} (h : f_X7_carnival N l_bsize l_bcells l_ssize l_scells l_dsize l_dcells l_people l_rule l_believed d_bsize d_bcells d_ssize d_scells d_dsize d_dcells d_people d_rule d_believed isStale tbytes tlen token place behindIt value = some res) : CtI l yX7_carnival wsX7_carnival rm_X7_carnival G ca ev [.ref m0] (wX ca ev m0 l0 l1 l2 l3 l4 l5 l6 k0 k1 k2 k3 k4 k5 k6 d0 d1 d2 d3 d4 d5 d6 n0 n1 n2 n3 n4 n5 n6 n7 b0 b1 b2 t0 t1 r0 sa sa0 sa1 sb0 sb1 sc0 sc1 sd0 sd1 fa isKept l_bsize l_bcells l_ssize l_scells l_dsize l_dcells l_people l_rule l_believed k_bsize k_bcells k_ssize k_scells k_dsize k_dcells k_people k_rule k_believed d_bsize d_bcells d_ssize d_scells d_dsize d_dcells d_people d_rule d_believed order stepsAt doubts weights rows metEver bowedTo isStale bowCount doubtCount seenBows likeliest mostSayingsSo doers isTelling tbytes tlen token place behindIt value sa_nums sa_bits sa_len sb_nums sb_bits sb_len sc_nums sc_bits sc_len sd_nums sd_bits sd_len findings) (wX ca ev m0 l0 l1 l2 l3 l4 l5 l6 k0 k1 k2 k3 k4 k5 k6 d0 d1 d2 d3 d4 d5 d6 n0 n1 n2 n3 n4 n5 n6 n7 b0 b1 b2 t0 t1 r0 sa sa0 sa1 sb0 sb1 sc0 sc1 sd0 sd1 fa isKept res.2.1 res.2.2.1 res.2.2.2.1 res.2.2.2.2.1 res.2.2.2.2.2.1 res.2.2.2.2.2.2.1 res.2.2.2.2.2.2.2.1 res.2.2.2.2.2.2.2.2.1 res.2.2.2.2.2.2.2.2.2.1 k_bsize k_bcells k_ssize k_scells k_dsize k_dcells k_people k_rule k_believed res.2.2.2.2.2.2.2.2.2.2.1 res.2.2.2.2.2.2.2.2.2.2.2.1 res.2.2.2.2.2.2.2.2.2.2.2.2.1 res.2.2.2.2.2.2.2.2.2.2.2.2.2.1 res.2.2.2.2.2.2.2.2.2.2.2.2.2.2.1 res.2.2.2.2.2.2.2.2.2.2.2.2.2.2.2.1 res.2.2.2.2.2.2.2.2.2.2.2.2.2.2.2.2.1 res.2.2.2.2.2.2.2.2.2.2.2.2.2.2.2.2.2.1 res.2.2.2.2.2.2.2.2.2.2.2.2.2.2.2.2.2.2.1 order stepsAt doubts weights rows metEver bowedTo res.2.2.2.2.2.2.2.2.2.2.2.2.2.2.2.2.2.2.2.1 bowCount doubtCount seenBows likeliest mostSayingsSo doers isTelling tbytes res.2.2.2.2.2.2.2.2.2.2.2.2.2.2.2.2.2.2.2.2.1 res.2.2.2.2.2.2.2.2.2.2.2.2.2.2.2.2.2.2.2.2.2.1 res.2.2.2.2.2.2.2.2.2.2.2.2.2.2.2.2.2.2.2.2.2.2.1 res.2.2.2.2.2.2.2.2.2.2.2.2.2.2.2.2.2.2.2.2.2.2.2.1 res.2.2.2.2.2.2.2.2.2.2.2.2.2.2.2.2.2.2.2.2.2.2.2.2 sa_nums sa_bits sa_len sb_nums sb_bits sb_len sc_nums sc_bits sc_len sd_nums sd_bits sd_len findings) res.1 := by
  unfold f_X7_carnival at h
  refine en_i (by decide) rfl (Nat.le_of_ble_eq_true rfl) ?_
  intro p e s m args below meth c A Q H locs ls hx hb hml hown hts hA hP hK hD hE hS hl hRet
  have hown : s.vm.findClass RX7 = some m.cls := hown
  have hl : lv_has ls 2 [(0, .ref m0)] := hl
  have hin_X7 : ∀ w ∈ u_ws RX7 TX7 10, w ∈ wsX7_carnival := fun w h9 => List.mem_cons_of_mem _ (List.mem_append_left _ (List.mem_append_left _ (List.mem_append_left _ (List.mem_append_left _ (List.mem_append_left _ (List.mem_append_right _ h9))))))
  have fk_10 := hts (.fieldLink RX7 10 "MaskBows" "live" "LMaskBows$Carnival;") (by decide +kernel)
  have fk_19 := hts (.fieldLink RX7 19 "MaskBows" "draft" "LMaskBows$Carnival;") (by decide +kernel)
  have fk_27 := hts (.fieldLink RX7 27 "MaskBows" "table" "LMaskBows$Nights;") (by decide +kernel)
  have fk_43 := hts (.fieldLink RX7 43 "MaskBows" "tape" "LMaskBows$Tape;") (by decide +kernel)
  have fk_52 := hts (.fieldLink RX7 52 "MaskBows" "reader" "LMaskBows$Reader;") (by decide +kernel)
  refine lv_aload_n hx hb dX7_carnival_0 rfl (lv_at hl 0 rfl) ?_
  refine va_get (D := G) (ci := 7) (v := .ref d0) (C := RX7) (T := TX7) (N := 10) hx hb hts hin_X7 hown hK hP 0 rfl rfl 2 (by decide) fk_19 (fun _ h9 => h9) rfl dX7_carnival_1 ?_
  refine lv_aload_n hx hb dX7_carnival_4 rfl (lv_at hl 0 rfl) ?_
  refine va_get (D := G) (ci := 7) (v := .ref l0) (C := RX7) (T := TX7) (N := 10) hx hb hts hin_X7 hown hK hP 0 rfl rfl 0 (by decide) fk_10 (fun _ h9 => h9) rfl dX7_carnival_5 ?_
  obtain ⟨u_1, e_1, h⟩ := bd_some h
  refine cl_Vv (As := [.ref l0]) (rest := []) (Wn := (wX ca ev m0 l0 l1 l2 l3 l4 l5 l6 k0 k1 k2 k3 k4 k5 k6 d0 d1 d2 d3 d4 d5 d6 n0 n1 n2 n3 n4 n5 n6 n7 b0 b1 b2 t0 t1 r0 sa sa0 sa1 sb0 sb1 sc0 sc1 sd0 sd1 fa isKept l_bsize l_bcells l_ssize l_scells l_dsize l_dcells l_people l_rule l_believed k_bsize k_bcells k_ssize k_scells k_dsize k_dcells k_people k_rule k_believed u_1.1 u_1.2.1 u_1.2.2.1 u_1.2.2.2.1 u_1.2.2.2.2.1 u_1.2.2.2.2.2.1 u_1.2.2.2.2.2.2.1 u_1.2.2.2.2.2.2.2.1 u_1.2.2.2.2.2.2.2.2 order stepsAt doubts weights rows metEver bowedTo isStale bowCount doubtCount seenBows likeliest mostSayingsSo doers isTelling tbytes tlen token place behindIt value sa_nums sa_bits sa_len sb_nums sb_bits sb_len sc_nums sc_bits sc_len sd_nums sd_bits sd_len findings)) ⟨hx, hb, hml, hown, hts⟩ (c_X0_become (ca := ca) (ev := ev) (c0 := d0) (c1 := d1) (c2 := d2) (c3 := d3) (c4 := d4) (c5 := d5) (c6 := d6) (o0 := l0) (o1 := l1) (o2 := l2) (o3 := l3) (o4 := l4) (o5 := l5) (o6 := l6) (bsize := d_bsize) (bcells := d_bcells) (ssize := d_ssize) (scells := d_scells) (dsize := d_dsize) (dcells := d_dcells) (people := d_people) (rule := d_rule) (believed := d_believed) (o_bsize := l_bsize) (o_bcells := l_bcells) (o_ssize := l_ssize) (o_scells := l_scells) (o_dsize := l_dsize) (o_dcells := l_dcells) (o_people := l_people) (o_rule := l_rule) (o_believed := l_believed) e_1) (cwV 1 hts gX7_carnival_X0_become rfl rfl rfl hd_X0_become ⟨Nat.le_of_ble_eq_true rfl, Nat.le_of_ble_eq_true rfl⟩) hK hP hD hS hA hE wp_29 (q0 := 0) (ci := 0) rfl rfl rfl rfl hl.1 rfl (Nat.le_of_ble_eq_true rfl) dX7_carnival_8 ⟨Nat.zero_le _, Nat.zero_le _⟩ (fun H locs hP hD hS => ?_)
  refine lv_aload_n hx hb dX7_carnival_11 rfl (lv_at hl 0 rfl) ?_
  refine va_get (D := G) (ci := 7) (v := .ref r0) (C := RX7) (T := TX7) (N := 10) hx hb hts hin_X7 hown hK hP 0 rfl rfl 6 (by decide) fk_52 (fun _ h9 => h9) rfl dX7_carnival_12 ?_
  obtain ⟨u_2, e_2, h⟩ := bd_some h
  refine cl_Vi (As := []) (rest := []) (Wn := (wX ca ev m0 l0 l1 l2 l3 l4 l5 l6 k0 k1 k2 k3 k4 k5 k6 d0 d1 d2 d3 d4 d5 d6 n0 n1 n2 n3 n4 n5 n6 n7 b0 b1 b2 t0 t1 r0 sa sa0 sa1 sb0 sb1 sc0 sc1 sd0 sd1 fa isKept l_bsize l_bcells l_ssize l_scells l_dsize l_dcells l_people l_rule l_believed k_bsize k_bcells k_ssize k_scells k_dsize k_dcells k_people k_rule k_believed u_2.2.2.2.2.2.1 u_2.2.2.2.2.2.2.1 u_2.2.2.2.2.2.2.2.1 u_2.2.2.2.2.2.2.2.2.1 u_2.2.2.2.2.2.2.2.2.2.1 u_2.2.2.2.2.2.2.2.2.2.2.1 u_1.2.2.2.2.2.2.1 u_2.2.2.2.2.2.2.2.2.2.2.2.1 u_2.2.2.2.2.2.2.2.2.2.2.2.2 order stepsAt doubts weights rows metEver bowedTo isStale bowCount doubtCount seenBows likeliest mostSayingsSo doers isTelling tbytes tlen u_2.2.1 u_2.2.2.1 u_2.2.2.2.1 u_2.2.2.2.2.1 sa_nums sa_bits sa_len sb_nums sb_bits sb_len sc_nums sc_bits sc_len sd_nums sd_bits sd_len findings)) ⟨hx, hb, hml, hown, hts⟩ (c_X3_items (ca := ca) (ev := ev) (r0 := r0) (t0 := t0) (t1 := t1) (c0 := d0) (c1 := d1) (c2 := d2) (c3 := d3) (c4 := d4) (c5 := d5) (c6 := d6) (token := token) (place := place) (behindIt := behindIt) (value := value) (tbytes := tbytes) (tlen := tlen) (bsize := u_1.1) (bcells := u_1.2.1) (ssize := u_1.2.2.1) (scells := u_1.2.2.2.1) (dsize := u_1.2.2.2.2.1) (dcells := u_1.2.2.2.2.2.1) (people := u_1.2.2.2.2.2.2.1) (rule := u_1.2.2.2.2.2.2.2.1) (believed := u_1.2.2.2.2.2.2.2.2) e_2) (cwV 0 hts gX7_carnival_X3_items rfl rfl rfl hd_X3_items ⟨Nat.le_of_ble_eq_true rfl, Nat.le_of_ble_eq_true rfl⟩) hK hP hD hS hA hE wp_30 (q0 := 0) (ci := 3) rfl rfl rfl rfl hl.1 rfl (Nat.le_of_ble_eq_true rfl) dX7_carnival_15 ⟨Nat.zero_le _, Nat.zero_le _⟩ (fun H locs hP hD hS => ?_)
  refine lv_istore_n (lv' := [(1, .int u_2.1), (0, .ref m0)]) hx hb dX7_carnival_18 rfl hl (by decide) rfl (fun ls hl => ?_)
  refine lv_aload_n hx hb dX7_carnival_19 rfl (lv_at hl 1 rfl) ?_
  refine va_get (D := G) (ci := 7) (v := .ref t0) (C := RX7) (T := TX7) (N := 10) hx hb hts hin_X7 hown hK hP 0 rfl rfl 5 (by decide) fk_43 (fun _ h9 => h9) rfl dX7_carnival_20 ?_
  obtain ⟨u_3, e_3, h⟩ := bd_some h
  refine cl_Vi (As := []) (rest := []) (Wn := (wX ca ev m0 l0 l1 l2 l3 l4 l5 l6 k0 k1 k2 k3 k4 k5 k6 d0 d1 d2 d3 d4 d5 d6 n0 n1 n2 n3 n4 n5 n6 n7 b0 b1 b2 t0 t1 r0 sa sa0 sa1 sb0 sb1 sc0 sc1 sd0 sd1 fa isKept l_bsize l_bcells l_ssize l_scells l_dsize l_dcells l_people l_rule l_believed k_bsize k_bcells k_ssize k_scells k_dsize k_dcells k_people k_rule k_believed u_2.2.2.2.2.2.1 u_2.2.2.2.2.2.2.1 u_2.2.2.2.2.2.2.2.1 u_2.2.2.2.2.2.2.2.2.1 u_2.2.2.2.2.2.2.2.2.2.1 u_2.2.2.2.2.2.2.2.2.2.2.1 u_1.2.2.2.2.2.2.1 u_2.2.2.2.2.2.2.2.2.2.2.2.1 u_2.2.2.2.2.2.2.2.2.2.2.2.2 order stepsAt doubts weights rows metEver bowedTo isStale bowCount doubtCount seenBows likeliest mostSayingsSo doers isTelling tbytes u_3.2 u_2.2.1 u_2.2.2.1 u_2.2.2.2.1 u_2.2.2.2.2.1 sa_nums sa_bits sa_len sb_nums sb_bits sb_len sc_nums sc_bits sc_len sd_nums sd_bits sd_len findings)) ⟨hx, hb, hml, hown, hts⟩ (c_X6_clear (ca := ca) (ev := ev) (t0 := t0) (t1 := t1) (tbytes := tbytes) (tlen := tlen) e_3) (cwV 0 hts gX7_carnival_X6_clear rfl rfl rfl hd_X6_clear ⟨Nat.le_of_ble_eq_true rfl, Nat.le_of_ble_eq_true rfl⟩) hK hP hD hS hA hE wp_28 (q0 := 0) (ci := 6) rfl rfl rfl rfl hl.1 rfl (Nat.le_of_ble_eq_true rfl) dX7_carnival_23 ⟨Nat.zero_le _, Nat.zero_le _⟩ (fun H locs hP hD hS => ?_)
  refine lv_pop hx hb dX7_carnival_26 rfl ?_
  refine lv_iload_n hx hb dX7_carnival_27 rfl (lv_at hl 0 rfl) ?_
  refine lv_if_le (tgt := 49) hx hb dX7_carnival_28 (by decide) (fun c_4 => ?_) (fun c_4 => ?_)
  · have h := ifp c_4 h
    refine lv_iload_n hx hb dX7_carnival_49 rfl (lv_at hl 0 rfl) ?_
    obtain rfl := Option.some.inj h
    exact hRet hP hD hS dX7_carnival_50
  · have h := ifn c_4 h
    refine lv_aload_n hx hb dX7_carnival_31 rfl (lv_at hl 1 rfl) ?_
    refine va_get (D := G) (ci := 7) (v := .ref l0) (C := RX7) (T := TX7) (N := 10) hx hb hts hin_X7 hown hK hP 0 rfl rfl 0 (by decide) fk_10 (fun _ h9 => h9) rfl dX7_carnival_32 ?_
    refine lv_aload_n hx hb dX7_carnival_35 rfl (lv_at hl 1 rfl) ?_
    refine va_get (D := G) (ci := 7) (v := .ref d0) (C := RX7) (T := TX7) (N := 10) hx hb hts hin_X7 hown hK hP 0 rfl rfl 2 (by decide) fk_19 (fun _ h9 => h9) rfl dX7_carnival_36 ?_
    obtain ⟨u_5, e_5, h⟩ := bd_some h
    refine cl_Vv (As := [.ref d0]) (rest := []) (Wn := (wX ca ev m0 l0 l1 l2 l3 l4 l5 l6 k0 k1 k2 k3 k4 k5 k6 d0 d1 d2 d3 d4 d5 d6 n0 n1 n2 n3 n4 n5 n6 n7 b0 b1 b2 t0 t1 r0 sa sa0 sa1 sb0 sb1 sc0 sc1 sd0 sd1 fa isKept u_5.1 u_5.2.1 u_5.2.2.1 u_5.2.2.2.1 u_5.2.2.2.2.1 u_5.2.2.2.2.2.1 u_5.2.2.2.2.2.2.1 u_5.2.2.2.2.2.2.2.1 u_5.2.2.2.2.2.2.2.2 k_bsize k_bcells k_ssize k_scells k_dsize k_dcells k_people k_rule k_believed u_2.2.2.2.2.2.1 u_2.2.2.2.2.2.2.1 u_2.2.2.2.2.2.2.2.1 u_2.2.2.2.2.2.2.2.2.1 u_2.2.2.2.2.2.2.2.2.2.1 u_2.2.2.2.2.2.2.2.2.2.2.1 u_1.2.2.2.2.2.2.1 u_2.2.2.2.2.2.2.2.2.2.2.2.1 u_2.2.2.2.2.2.2.2.2.2.2.2.2 order stepsAt doubts weights rows metEver bowedTo isStale bowCount doubtCount seenBows likeliest mostSayingsSo doers isTelling tbytes u_3.2 u_2.2.1 u_2.2.2.1 u_2.2.2.2.1 u_2.2.2.2.2.1 sa_nums sa_bits sa_len sb_nums sb_bits sb_len sc_nums sc_bits sc_len sd_nums sd_bits sd_len findings)) ⟨hx, hb, hml, hown, hts⟩ (c_X0_become (ca := ca) (ev := ev) (c0 := l0) (c1 := l1) (c2 := l2) (c3 := l3) (c4 := l4) (c5 := l5) (c6 := l6) (o0 := d0) (o1 := d1) (o2 := d2) (o3 := d3) (o4 := d4) (o5 := d5) (o6 := d6) (bsize := l_bsize) (bcells := l_bcells) (ssize := l_ssize) (scells := l_scells) (dsize := l_dsize) (dcells := l_dcells) (people := l_people) (rule := l_rule) (believed := l_believed) (o_bsize := u_2.2.2.2.2.2.1) (o_bcells := u_2.2.2.2.2.2.2.1) (o_ssize := u_2.2.2.2.2.2.2.2.1) (o_scells := u_2.2.2.2.2.2.2.2.2.1) (o_dsize := u_2.2.2.2.2.2.2.2.2.2.1) (o_dcells := u_2.2.2.2.2.2.2.2.2.2.2.1) (o_people := u_1.2.2.2.2.2.2.1) (o_rule := u_2.2.2.2.2.2.2.2.2.2.2.2.1) (o_believed := u_2.2.2.2.2.2.2.2.2.2.2.2.2) e_5) (cwV 1 hts gX7_carnival_X0_become rfl rfl rfl hd_X0_become ⟨Nat.le_of_ble_eq_true rfl, Nat.le_of_ble_eq_true rfl⟩) hK hP hD hS hA hE wp_31 (q0 := 0) (ci := 0) rfl rfl rfl rfl hl.1 rfl (Nat.le_of_ble_eq_true rfl) dX7_carnival_39 ⟨Nat.zero_le _, Nat.zero_le _⟩ (fun H locs hP hD hS => ?_)
    refine lv_aload_n hx hb dX7_carnival_42 rfl (lv_at hl 1 rfl) ?_
    refine va_get (D := G) (ci := 7) (v := .ref n0) (C := RX7) (T := TX7) (N := 10) hx hb hts hin_X7 hown hK hP 0 rfl rfl 3 (by decide) fk_27 (fun _ h9 => h9) rfl dX7_carnival_43 ?_
    obtain ⟨u_6, e_6, h⟩ := bd_some h
    refine cl_Vv (As := []) (rest := []) (Wn := (wX ca ev m0 l0 l1 l2 l3 l4 l5 l6 k0 k1 k2 k3 k4 k5 k6 d0 d1 d2 d3 d4 d5 d6 n0 n1 n2 n3 n4 n5 n6 n7 b0 b1 b2 t0 t1 r0 sa sa0 sa1 sb0 sb1 sc0 sc1 sd0 sd1 fa isKept u_5.1 u_5.2.1 u_5.2.2.1 u_5.2.2.2.1 u_5.2.2.2.2.1 u_5.2.2.2.2.2.1 u_5.2.2.2.2.2.2.1 u_5.2.2.2.2.2.2.2.1 u_5.2.2.2.2.2.2.2.2 k_bsize k_bcells k_ssize k_scells k_dsize k_dcells k_people k_rule k_believed u_2.2.2.2.2.2.1 u_2.2.2.2.2.2.2.1 u_2.2.2.2.2.2.2.2.1 u_2.2.2.2.2.2.2.2.2.1 u_2.2.2.2.2.2.2.2.2.2.1 u_2.2.2.2.2.2.2.2.2.2.2.1 u_1.2.2.2.2.2.2.1 u_2.2.2.2.2.2.2.2.2.2.2.2.1 u_2.2.2.2.2.2.2.2.2.2.2.2.2 order stepsAt doubts weights rows metEver bowedTo u_6 bowCount doubtCount seenBows likeliest mostSayingsSo doers isTelling tbytes u_3.2 u_2.2.1 u_2.2.2.1 u_2.2.2.2.1 u_2.2.2.2.2.1 sa_nums sa_bits sa_len sb_nums sb_bits sb_len sc_nums sc_bits sc_len sd_nums sd_bits sd_len findings)) ⟨hx, hb, hml, hown, hts⟩ (c_X2_forget (ca := ca) (ev := ev) (n0 := n0) (n1 := n1) (n2 := n2) (n3 := n3) (n4 := n4) (n5 := n5) (n6 := n6) (n7 := n7) (c0 := l0) (c1 := l1) (c2 := l2) (c3 := l3) (c4 := l4) (c5 := l5) (c6 := l6) (order := order) (stepsAt := stepsAt) (doubts := doubts) (weights := weights) (rows := rows) (metEver := metEver) (bowedTo := bowedTo) (isStale := isStale) (bowCount := bowCount) (doubtCount := doubtCount) (seenBows := seenBows) (likeliest := likeliest) (mostSayingsSo := mostSayingsSo) (bsize := u_5.1) (bcells := u_5.2.1) (ssize := u_5.2.2.1) (scells := u_5.2.2.2.1) (dsize := u_5.2.2.2.2.1) (dcells := u_5.2.2.2.2.2.1) (people := u_5.2.2.2.2.2.2.1) (rule := u_5.2.2.2.2.2.2.2.1) (believed := u_5.2.2.2.2.2.2.2.2) e_6) (cwV 0 hts gX7_carnival_X2_forget rfl rfl rfl hd_X2_forget ⟨Nat.le_of_ble_eq_true rfl, Nat.le_of_ble_eq_true rfl⟩) hK hP hD hS hA hE wp_23 (q0 := 0) (ci := 2) rfl rfl rfl rfl hl.1 rfl (Nat.le_of_ble_eq_true rfl) dX7_carnival_46 ⟨Nat.zero_le _, Nat.zero_le _⟩ (fun H locs hP hD hS => ?_)
    refine lv_iload_n hx hb dX7_carnival_49 rfl (lv_at hl 0 rfl) ?_
    obtain rfl := Option.some.inj h
    exact hRet hP hD hS dX7_carnival_50
abbrev rm_X7_sheetAt : Room := { frames := 0, cells := 0, slots := 0, locals := 0 }
theorem hd_X7_sheetAt : yX7_sheetAt.cls = RX7 ∧ yX7_sheetAt.cls ≠ "java/lang/invoke/MethodHandle" ∧ yX7_sheetAt.cls ≠ "java/lang/invoke/VarHandle" ∧ (parseMethodDescriptor yX7_sheetAt.desc).map (fun d => d.parameters.length) = some 1 := by decide +kernel
theorem sh_cases {x : Int32} (h0 : ¬ x < 0) (h4 : ¬ (4 : Int32) ≤ x) (h : ¬ x = (0 : Int32) ∧ ¬ x = (1 : Int32) ∧ ¬ x = (2 : Int32) ∧ ¬ x = (3 : Int32)) : False := by
  obtain ⟨j, hj, rfl⟩ := vp_in_of (n := 4) (x := x) (vp_in_iff.mpr ⟨by have := Int32.not_lt.mp h0; simpa using Int32.le_iff_toInt_le.mp this, by have := Int32.not_le.mp h4; simpa using Int32.lt_iff_toInt_lt.mp this⟩) (by decide)
  rcases (show j = 0 ∨ j = 1 ∨ j = 2 ∨ j = 3 by omega) with rfl | rfl | rfl | rfl
  · exact h.1 rfl
  · exact h.2.1 rfl
  · exact h.2.2.1 rfl
  · exact h.2.2.2 rfl
set_option maxHeartbeats 4000000 in
set_option maxRecDepth 100000 in
theorem c_X7_sheetAt_0 {l : Launch} {G : va_G} {ca : Nat → ClassId} {ev : Nat → Nat} {m0 l0 l1 l2 l3 l4 l5 l6 k0 k1 k2 k3 k4 k5 k6 d0 d1 d2 d3 d4 d5 d6 n0 n1 n2 n3 n4 n5 n6 n7 b0 b1 b2 t0 t1 r0 sa sa0 sa1 sb0 sb1 sc0 sc1 sd0 sd1 fa : Nat} {isKept : Int32} {l_bsize : Int32} {l_bcells : (Nat → Int32)} {l_ssize : Int32} {l_scells : (Nat → Int32)} {l_dsize : Int32} {l_dcells : (Nat → Int32)} {l_people : Int32} {l_rule : Int32} {l_believed : Int32} {k_bsize : Int32} {k_bcells : (Nat → Int32)} {k_ssize : Int32} {k_scells : (Nat → Int32)} {k_dsize : Int32} {k_dcells : (Nat → Int32)} {k_people : Int32} {k_rule : Int32} {k_believed : Int32} {d_bsize : Int32} {d_bcells : (Nat → Int32)} {d_ssize : Int32} {d_scells : (Nat → Int32)} {d_dsize : Int32} {d_dcells : (Nat → Int32)} {d_people : Int32} {d_rule : Int32} {d_believed : Int32} {order : (Nat → Int32)} {stepsAt : (Nat → Int32)} {doubts : (Nat → Int32)} {weights : (Nat → Int32)} {rows : (Nat → Int32)} {metEver : (Nat → Int32)} {bowedTo : (Nat → Int32)} {isStale : Int32} {bowCount : Int32} {doubtCount : Int32} {seenBows : Int32} {likeliest : Int32} {mostSayingsSo : Int32} {doers : (Nat → Int64)} {isTelling : (Nat → Int32)} {tbytes : (Nat → Int32)} {tlen : Int32} {token : Int32} {place : Int32} {behindIt : Int32} {value : Int32} {sa_nums : (Nat → Int64)} {sa_bits : Int32} {sa_len : Int32} {sb_nums : (Nat → Int64)} {sb_bits : Int32} {sb_len : Int32} {sc_nums : (Nat → Int64)} {sc_bits : Int32} {sc_len : Int32} {sd_nums : (Nat → Int64)} {sd_bits : Int32} {sd_len : Int32} {findings : (Nat → Int32)} {a1 : Int32} (hk : a1 = (0 : Int32)) : CtO l yX7_sheetAt wsX7_sheetAt rm_X7_sheetAt G ca ev [.ref m0, .int a1] (wX ca ev m0 l0 l1 l2 l3 l4 l5 l6 k0 k1 k2 k3 k4 k5 k6 d0 d1 d2 d3 d4 d5 d6 n0 n1 n2 n3 n4 n5 n6 n7 b0 b1 b2 t0 t1 r0 sa sa0 sa1 sb0 sb1 sc0 sc1 sd0 sd1 fa isKept l_bsize l_bcells l_ssize l_scells l_dsize l_dcells l_people l_rule l_believed k_bsize k_bcells k_ssize k_scells k_dsize k_dcells k_people k_rule k_believed d_bsize d_bcells d_ssize d_scells d_dsize d_dcells d_people d_rule d_believed order stepsAt doubts weights rows metEver bowedTo isStale bowCount doubtCount seenBows likeliest mostSayingsSo doers isTelling tbytes tlen token place behindIt value sa_nums sa_bits sa_len sb_nums sb_bits sb_len sc_nums sc_bits sc_len sd_nums sd_bits sd_len findings) (wX ca ev m0 l0 l1 l2 l3 l4 l5 l6 k0 k1 k2 k3 k4 k5 k6 d0 d1 d2 d3 d4 d5 d6 n0 n1 n2 n3 n4 n5 n6 n7 b0 b1 b2 t0 t1 r0 sa sa0 sa1 sb0 sb1 sc0 sc1 sd0 sd1 fa isKept l_bsize l_bcells l_ssize l_scells l_dsize l_dcells l_people l_rule l_believed k_bsize k_bcells k_ssize k_scells k_dsize k_dcells k_people k_rule k_believed d_bsize d_bcells d_ssize d_scells d_dsize d_dcells d_people d_rule d_believed order stepsAt doubts weights rows metEver bowedTo isStale bowCount doubtCount seenBows likeliest mostSayingsSo doers isTelling tbytes tlen token place behindIt value sa_nums sa_bits sa_len sb_nums sb_bits sb_len sc_nums sc_bits sc_len sd_nums sd_bits sd_len findings) (some sa0) := by
  subst hk
  refine en_o (by decide) rfl (Nat.le_of_ble_eq_true rfl) ?_
  intro p e s m args below meth c A Q H locs ls hx hb hml hown hts hA hP hK hD hE hS hl hRet
  have hown : s.vm.findClass RX7 = some m.cls := hown
  have hl : lv_has ls 2 [(0, .ref m0), (1, .int (0 : Int32))] := hl
  have hin_X7 : ∀ w ∈ u_ws RX7 TX7 10, w ∈ wsX7_sheetAt := fun w h9 => List.mem_cons_of_mem _ (List.mem_append_right _ h9)
  refine lv_iload_n hx hb dX7_sheetAt_0 rfl (lv_at hl 1 rfl) ?_
  refine lv_if_lt (tgt := 18) hx hb dX7_sheetAt_1 (by decide) (fun c => absurd c (by decide)) (fun _ => ?_)
  refine lv_iload_n hx hb dX7_sheetAt_4 rfl (lv_at hl 1 rfl) ?_
  refine lv_iconst (v := (4 : Int32)) hx hb dX7_sheetAt_5 (by decide) ?_
  refine lv_icmp_ge (tgt := 18) hx hb dX7_sheetAt_6 (by decide) (fun c => absurd c (by decide)) (fun _ => ?_)
  refine lv_aload_n hx hb dX7_sheetAt_9 rfl (lv_at hl 0 rfl) ?_
  refine va_get (D := G) (ci := 7) (v := .ref sa) (C := RX7) (T := TX7) (N := 10) hx hb hts hin_X7 hown hK hP 0 rfl rfl 7 (by decide) (hts (.fieldLink RX7 58 "MaskBows" "sheets" "[LMaskBows$Sheet;") (by decide +kernel)) (fun _ h9 => h9) rfl dX7_sheetAt_10 ?_
  refine lv_iload_n hx hb dX7_sheetAt_13 rfl (lv_at hl 1 rfl) ?_
  refine va_aldq hx hb hK hP 36 3 rfl rfl (ix_in (by decide)) dX7_sheetAt_14 ?_
  refine lv_goto (tgt := 19) hx hb dX7_sheetAt_15 (by decide) ?_
  exact hRet hP hD hS dX7_sheetAt_19
set_option maxHeartbeats 4000000 in
set_option maxRecDepth 100000 in
theorem c_X7_sheetAt_1 {l : Launch} {G : va_G} {ca : Nat → ClassId} {ev : Nat → Nat} {m0 l0 l1 l2 l3 l4 l5 l6 k0 k1 k2 k3 k4 k5 k6 d0 d1 d2 d3 d4 d5 d6 n0 n1 n2 n3 n4 n5 n6 n7 b0 b1 b2 t0 t1 r0 sa sa0 sa1 sb0 sb1 sc0 sc1 sd0 sd1 fa : Nat} {isKept : Int32} {l_bsize : Int32} {l_bcells : (Nat → Int32)} {l_ssize : Int32} {l_scells : (Nat → Int32)} {l_dsize : Int32} {l_dcells : (Nat → Int32)} {l_people : Int32} {l_rule : Int32} {l_believed : Int32} {k_bsize : Int32} {k_bcells : (Nat → Int32)} {k_ssize : Int32} {k_scells : (Nat → Int32)} {k_dsize : Int32} {k_dcells : (Nat → Int32)} {k_people : Int32} {k_rule : Int32} {k_believed : Int32} {d_bsize : Int32} {d_bcells : (Nat → Int32)} {d_ssize : Int32} {d_scells : (Nat → Int32)} {d_dsize : Int32} {d_dcells : (Nat → Int32)} {d_people : Int32} {d_rule : Int32} {d_believed : Int32} {order : (Nat → Int32)} {stepsAt : (Nat → Int32)} {doubts : (Nat → Int32)} {weights : (Nat → Int32)} {rows : (Nat → Int32)} {metEver : (Nat → Int32)} {bowedTo : (Nat → Int32)} {isStale : Int32} {bowCount : Int32} {doubtCount : Int32} {seenBows : Int32} {likeliest : Int32} {mostSayingsSo : Int32} {doers : (Nat → Int64)} {isTelling : (Nat → Int32)} {tbytes : (Nat → Int32)} {tlen : Int32} {token : Int32} {place : Int32} {behindIt : Int32} {value : Int32} {sa_nums : (Nat → Int64)} {sa_bits : Int32} {sa_len : Int32} {sb_nums : (Nat → Int64)} {sb_bits : Int32} {sb_len : Int32} {sc_nums : (Nat → Int64)} {sc_bits : Int32} {sc_len : Int32} {sd_nums : (Nat → Int64)} {sd_bits : Int32} {sd_len : Int32} {findings : (Nat → Int32)} {a1 : Int32} (hk : a1 = (1 : Int32)) : CtO l yX7_sheetAt wsX7_sheetAt rm_X7_sheetAt G ca ev [.ref m0, .int a1] (wX ca ev m0 l0 l1 l2 l3 l4 l5 l6 k0 k1 k2 k3 k4 k5 k6 d0 d1 d2 d3 d4 d5 d6 n0 n1 n2 n3 n4 n5 n6 n7 b0 b1 b2 t0 t1 r0 sa sa0 sa1 sb0 sb1 sc0 sc1 sd0 sd1 fa isKept l_bsize l_bcells l_ssize l_scells l_dsize l_dcells l_people l_rule l_believed k_bsize k_bcells k_ssize k_scells k_dsize k_dcells k_people k_rule k_believed d_bsize d_bcells d_ssize d_scells d_dsize d_dcells d_people d_rule d_believed order stepsAt doubts weights rows metEver bowedTo isStale bowCount doubtCount seenBows likeliest mostSayingsSo doers isTelling tbytes tlen token place behindIt value sa_nums sa_bits sa_len sb_nums sb_bits sb_len sc_nums sc_bits sc_len sd_nums sd_bits sd_len findings) (wX ca ev m0 l0 l1 l2 l3 l4 l5 l6 k0 k1 k2 k3 k4 k5 k6 d0 d1 d2 d3 d4 d5 d6 n0 n1 n2 n3 n4 n5 n6 n7 b0 b1 b2 t0 t1 r0 sa sa0 sa1 sb0 sb1 sc0 sc1 sd0 sd1 fa isKept l_bsize l_bcells l_ssize l_scells l_dsize l_dcells l_people l_rule l_believed k_bsize k_bcells k_ssize k_scells k_dsize k_dcells k_people k_rule k_believed d_bsize d_bcells d_ssize d_scells d_dsize d_dcells d_people d_rule d_believed order stepsAt doubts weights rows metEver bowedTo isStale bowCount doubtCount seenBows likeliest mostSayingsSo doers isTelling tbytes tlen token place behindIt value sa_nums sa_bits sa_len sb_nums sb_bits sb_len sc_nums sc_bits sc_len sd_nums sd_bits sd_len findings) (some sb0) := by
  subst hk
  refine en_o (by decide) rfl (Nat.le_of_ble_eq_true rfl) ?_
  intro p e s m args below meth c A Q H locs ls hx hb hml hown hts hA hP hK hD hE hS hl hRet
  have hown : s.vm.findClass RX7 = some m.cls := hown
  have hl : lv_has ls 2 [(0, .ref m0), (1, .int (1 : Int32))] := hl
  have hin_X7 : ∀ w ∈ u_ws RX7 TX7 10, w ∈ wsX7_sheetAt := fun w h9 => List.mem_cons_of_mem _ (List.mem_append_right _ h9)
  refine lv_iload_n hx hb dX7_sheetAt_0 rfl (lv_at hl 1 rfl) ?_
  refine lv_if_lt (tgt := 18) hx hb dX7_sheetAt_1 (by decide) (fun c => absurd c (by decide)) (fun _ => ?_)
  refine lv_iload_n hx hb dX7_sheetAt_4 rfl (lv_at hl 1 rfl) ?_
  refine lv_iconst (v := (4 : Int32)) hx hb dX7_sheetAt_5 (by decide) ?_
  refine lv_icmp_ge (tgt := 18) hx hb dX7_sheetAt_6 (by decide) (fun c => absurd c (by decide)) (fun _ => ?_)
  refine lv_aload_n hx hb dX7_sheetAt_9 rfl (lv_at hl 0 rfl) ?_
  refine va_get (D := G) (ci := 7) (v := .ref sa) (C := RX7) (T := TX7) (N := 10) hx hb hts hin_X7 hown hK hP 0 rfl rfl 7 (by decide) (hts (.fieldLink RX7 58 "MaskBows" "sheets" "[LMaskBows$Sheet;") (by decide +kernel)) (fun _ h9 => h9) rfl dX7_sheetAt_10 ?_
  refine lv_iload_n hx hb dX7_sheetAt_13 rfl (lv_at hl 1 rfl) ?_
  refine va_aldq hx hb hK hP 36 3 rfl rfl (ix_in (by decide)) dX7_sheetAt_14 ?_
  refine lv_goto (tgt := 19) hx hb dX7_sheetAt_15 (by decide) ?_
  exact hRet hP hD hS dX7_sheetAt_19
set_option maxHeartbeats 4000000 in
set_option maxRecDepth 100000 in
theorem c_X7_sheetAt_2 {l : Launch} {G : va_G} {ca : Nat → ClassId} {ev : Nat → Nat} {m0 l0 l1 l2 l3 l4 l5 l6 k0 k1 k2 k3 k4 k5 k6 d0 d1 d2 d3 d4 d5 d6 n0 n1 n2 n3 n4 n5 n6 n7 b0 b1 b2 t0 t1 r0 sa sa0 sa1 sb0 sb1 sc0 sc1 sd0 sd1 fa : Nat} {isKept : Int32} {l_bsize : Int32} {l_bcells : (Nat → Int32)} {l_ssize : Int32} {l_scells : (Nat → Int32)} {l_dsize : Int32} {l_dcells : (Nat → Int32)} {l_people : Int32} {l_rule : Int32} {l_believed : Int32} {k_bsize : Int32} {k_bcells : (Nat → Int32)} {k_ssize : Int32} {k_scells : (Nat → Int32)} {k_dsize : Int32} {k_dcells : (Nat → Int32)} {k_people : Int32} {k_rule : Int32} {k_believed : Int32} {d_bsize : Int32} {d_bcells : (Nat → Int32)} {d_ssize : Int32} {d_scells : (Nat → Int32)} {d_dsize : Int32} {d_dcells : (Nat → Int32)} {d_people : Int32} {d_rule : Int32} {d_believed : Int32} {order : (Nat → Int32)} {stepsAt : (Nat → Int32)} {doubts : (Nat → Int32)} {weights : (Nat → Int32)} {rows : (Nat → Int32)} {metEver : (Nat → Int32)} {bowedTo : (Nat → Int32)} {isStale : Int32} {bowCount : Int32} {doubtCount : Int32} {seenBows : Int32} {likeliest : Int32} {mostSayingsSo : Int32} {doers : (Nat → Int64)} {isTelling : (Nat → Int32)} {tbytes : (Nat → Int32)} {tlen : Int32} {token : Int32} {place : Int32} {behindIt : Int32} {value : Int32} {sa_nums : (Nat → Int64)} {sa_bits : Int32} {sa_len : Int32} {sb_nums : (Nat → Int64)} {sb_bits : Int32} {sb_len : Int32} {sc_nums : (Nat → Int64)} {sc_bits : Int32} {sc_len : Int32} {sd_nums : (Nat → Int64)} {sd_bits : Int32} {sd_len : Int32} {findings : (Nat → Int32)} {a1 : Int32} (hk : a1 = (2 : Int32)) : CtO l yX7_sheetAt wsX7_sheetAt rm_X7_sheetAt G ca ev [.ref m0, .int a1] (wX ca ev m0 l0 l1 l2 l3 l4 l5 l6 k0 k1 k2 k3 k4 k5 k6 d0 d1 d2 d3 d4 d5 d6 n0 n1 n2 n3 n4 n5 n6 n7 b0 b1 b2 t0 t1 r0 sa sa0 sa1 sb0 sb1 sc0 sc1 sd0 sd1 fa isKept l_bsize l_bcells l_ssize l_scells l_dsize l_dcells l_people l_rule l_believed k_bsize k_bcells k_ssize k_scells k_dsize k_dcells k_people k_rule k_believed d_bsize d_bcells d_ssize d_scells d_dsize d_dcells d_people d_rule d_believed order stepsAt doubts weights rows metEver bowedTo isStale bowCount doubtCount seenBows likeliest mostSayingsSo doers isTelling tbytes tlen token place behindIt value sa_nums sa_bits sa_len sb_nums sb_bits sb_len sc_nums sc_bits sc_len sd_nums sd_bits sd_len findings) (wX ca ev m0 l0 l1 l2 l3 l4 l5 l6 k0 k1 k2 k3 k4 k5 k6 d0 d1 d2 d3 d4 d5 d6 n0 n1 n2 n3 n4 n5 n6 n7 b0 b1 b2 t0 t1 r0 sa sa0 sa1 sb0 sb1 sc0 sc1 sd0 sd1 fa isKept l_bsize l_bcells l_ssize l_scells l_dsize l_dcells l_people l_rule l_believed k_bsize k_bcells k_ssize k_scells k_dsize k_dcells k_people k_rule k_believed d_bsize d_bcells d_ssize d_scells d_dsize d_dcells d_people d_rule d_believed order stepsAt doubts weights rows metEver bowedTo isStale bowCount doubtCount seenBows likeliest mostSayingsSo doers isTelling tbytes tlen token place behindIt value sa_nums sa_bits sa_len sb_nums sb_bits sb_len sc_nums sc_bits sc_len sd_nums sd_bits sd_len findings) (some sc0) := by
  subst hk
  refine en_o (by decide) rfl (Nat.le_of_ble_eq_true rfl) ?_
  intro p e s m args below meth c A Q H locs ls hx hb hml hown hts hA hP hK hD hE hS hl hRet
  have hown : s.vm.findClass RX7 = some m.cls := hown
  have hl : lv_has ls 2 [(0, .ref m0), (1, .int (2 : Int32))] := hl
  have hin_X7 : ∀ w ∈ u_ws RX7 TX7 10, w ∈ wsX7_sheetAt := fun w h9 => List.mem_cons_of_mem _ (List.mem_append_right _ h9)
  refine lv_iload_n hx hb dX7_sheetAt_0 rfl (lv_at hl 1 rfl) ?_
  refine lv_if_lt (tgt := 18) hx hb dX7_sheetAt_1 (by decide) (fun c => absurd c (by decide)) (fun _ => ?_)
  refine lv_iload_n hx hb dX7_sheetAt_4 rfl (lv_at hl 1 rfl) ?_
  refine lv_iconst (v := (4 : Int32)) hx hb dX7_sheetAt_5 (by decide) ?_
  refine lv_icmp_ge (tgt := 18) hx hb dX7_sheetAt_6 (by decide) (fun c => absurd c (by decide)) (fun _ => ?_)
  refine lv_aload_n hx hb dX7_sheetAt_9 rfl (lv_at hl 0 rfl) ?_
  refine va_get (D := G) (ci := 7) (v := .ref sa) (C := RX7) (T := TX7) (N := 10) hx hb hts hin_X7 hown hK hP 0 rfl rfl 7 (by decide) (hts (.fieldLink RX7 58 "MaskBows" "sheets" "[LMaskBows$Sheet;") (by decide +kernel)) (fun _ h9 => h9) rfl dX7_sheetAt_10 ?_
  refine lv_iload_n hx hb dX7_sheetAt_13 rfl (lv_at hl 1 rfl) ?_
  refine va_aldq hx hb hK hP 36 3 rfl rfl (ix_in (by decide)) dX7_sheetAt_14 ?_
  refine lv_goto (tgt := 19) hx hb dX7_sheetAt_15 (by decide) ?_
  exact hRet hP hD hS dX7_sheetAt_19
set_option maxHeartbeats 4000000 in
set_option maxRecDepth 100000 in
theorem c_X7_sheetAt_3 {l : Launch} {G : va_G} {ca : Nat → ClassId} {ev : Nat → Nat} {m0 l0 l1 l2 l3 l4 l5 l6 k0 k1 k2 k3 k4 k5 k6 d0 d1 d2 d3 d4 d5 d6 n0 n1 n2 n3 n4 n5 n6 n7 b0 b1 b2 t0 t1 r0 sa sa0 sa1 sb0 sb1 sc0 sc1 sd0 sd1 fa : Nat} {isKept : Int32} {l_bsize : Int32} {l_bcells : (Nat → Int32)} {l_ssize : Int32} {l_scells : (Nat → Int32)} {l_dsize : Int32} {l_dcells : (Nat → Int32)} {l_people : Int32} {l_rule : Int32} {l_believed : Int32} {k_bsize : Int32} {k_bcells : (Nat → Int32)} {k_ssize : Int32} {k_scells : (Nat → Int32)} {k_dsize : Int32} {k_dcells : (Nat → Int32)} {k_people : Int32} {k_rule : Int32} {k_believed : Int32} {d_bsize : Int32} {d_bcells : (Nat → Int32)} {d_ssize : Int32} {d_scells : (Nat → Int32)} {d_dsize : Int32} {d_dcells : (Nat → Int32)} {d_people : Int32} {d_rule : Int32} {d_believed : Int32} {order : (Nat → Int32)} {stepsAt : (Nat → Int32)} {doubts : (Nat → Int32)} {weights : (Nat → Int32)} {rows : (Nat → Int32)} {metEver : (Nat → Int32)} {bowedTo : (Nat → Int32)} {isStale : Int32} {bowCount : Int32} {doubtCount : Int32} {seenBows : Int32} {likeliest : Int32} {mostSayingsSo : Int32} {doers : (Nat → Int64)} {isTelling : (Nat → Int32)} {tbytes : (Nat → Int32)} {tlen : Int32} {token : Int32} {place : Int32} {behindIt : Int32} {value : Int32} {sa_nums : (Nat → Int64)} {sa_bits : Int32} {sa_len : Int32} {sb_nums : (Nat → Int64)} {sb_bits : Int32} {sb_len : Int32} {sc_nums : (Nat → Int64)} {sc_bits : Int32} {sc_len : Int32} {sd_nums : (Nat → Int64)} {sd_bits : Int32} {sd_len : Int32} {findings : (Nat → Int32)} {a1 : Int32} (hk : a1 = (3 : Int32)) : CtO l yX7_sheetAt wsX7_sheetAt rm_X7_sheetAt G ca ev [.ref m0, .int a1] (wX ca ev m0 l0 l1 l2 l3 l4 l5 l6 k0 k1 k2 k3 k4 k5 k6 d0 d1 d2 d3 d4 d5 d6 n0 n1 n2 n3 n4 n5 n6 n7 b0 b1 b2 t0 t1 r0 sa sa0 sa1 sb0 sb1 sc0 sc1 sd0 sd1 fa isKept l_bsize l_bcells l_ssize l_scells l_dsize l_dcells l_people l_rule l_believed k_bsize k_bcells k_ssize k_scells k_dsize k_dcells k_people k_rule k_believed d_bsize d_bcells d_ssize d_scells d_dsize d_dcells d_people d_rule d_believed order stepsAt doubts weights rows metEver bowedTo isStale bowCount doubtCount seenBows likeliest mostSayingsSo doers isTelling tbytes tlen token place behindIt value sa_nums sa_bits sa_len sb_nums sb_bits sb_len sc_nums sc_bits sc_len sd_nums sd_bits sd_len findings) (wX ca ev m0 l0 l1 l2 l3 l4 l5 l6 k0 k1 k2 k3 k4 k5 k6 d0 d1 d2 d3 d4 d5 d6 n0 n1 n2 n3 n4 n5 n6 n7 b0 b1 b2 t0 t1 r0 sa sa0 sa1 sb0 sb1 sc0 sc1 sd0 sd1 fa isKept l_bsize l_bcells l_ssize l_scells l_dsize l_dcells l_people l_rule l_believed k_bsize k_bcells k_ssize k_scells k_dsize k_dcells k_people k_rule k_believed d_bsize d_bcells d_ssize d_scells d_dsize d_dcells d_people d_rule d_believed order stepsAt doubts weights rows metEver bowedTo isStale bowCount doubtCount seenBows likeliest mostSayingsSo doers isTelling tbytes tlen token place behindIt value sa_nums sa_bits sa_len sb_nums sb_bits sb_len sc_nums sc_bits sc_len sd_nums sd_bits sd_len findings) (some sd0) := by
  subst hk
  refine en_o (by decide) rfl (Nat.le_of_ble_eq_true rfl) ?_
  intro p e s m args below meth c A Q H locs ls hx hb hml hown hts hA hP hK hD hE hS hl hRet
  have hown : s.vm.findClass RX7 = some m.cls := hown
  have hl : lv_has ls 2 [(0, .ref m0), (1, .int (3 : Int32))] := hl
  have hin_X7 : ∀ w ∈ u_ws RX7 TX7 10, w ∈ wsX7_sheetAt := fun w h9 => List.mem_cons_of_mem _ (List.mem_append_right _ h9)
  refine lv_iload_n hx hb dX7_sheetAt_0 rfl (lv_at hl 1 rfl) ?_
  refine lv_if_lt (tgt := 18) hx hb dX7_sheetAt_1 (by decide) (fun c => absurd c (by decide)) (fun _ => ?_)
  refine lv_iload_n hx hb dX7_sheetAt_4 rfl (lv_at hl 1 rfl) ?_
  refine lv_iconst (v := (4 : Int32)) hx hb dX7_sheetAt_5 (by decide) ?_
  refine lv_icmp_ge (tgt := 18) hx hb dX7_sheetAt_6 (by decide) (fun c => absurd c (by decide)) (fun _ => ?_)
  refine lv_aload_n hx hb dX7_sheetAt_9 rfl (lv_at hl 0 rfl) ?_
  refine va_get (D := G) (ci := 7) (v := .ref sa) (C := RX7) (T := TX7) (N := 10) hx hb hts hin_X7 hown hK hP 0 rfl rfl 7 (by decide) (hts (.fieldLink RX7 58 "MaskBows" "sheets" "[LMaskBows$Sheet;") (by decide +kernel)) (fun _ h9 => h9) rfl dX7_sheetAt_10 ?_
  refine lv_iload_n hx hb dX7_sheetAt_13 rfl (lv_at hl 1 rfl) ?_
  refine va_aldq hx hb hK hP 36 3 rfl rfl (ix_in (by decide)) dX7_sheetAt_14 ?_
  refine lv_goto (tgt := 19) hx hb dX7_sheetAt_15 (by decide) ?_
  exact hRet hP hD hS dX7_sheetAt_19
set_option maxHeartbeats 4000000 in
set_option maxRecDepth 100000 in
theorem c_X7_sheetAt_n {l : Launch} {G : va_G} {ca : Nat → ClassId} {ev : Nat → Nat} {m0 l0 l1 l2 l3 l4 l5 l6 k0 k1 k2 k3 k4 k5 k6 d0 d1 d2 d3 d4 d5 d6 n0 n1 n2 n3 n4 n5 n6 n7 b0 b1 b2 t0 t1 r0 sa sa0 sa1 sb0 sb1 sc0 sc1 sd0 sd1 fa : Nat} {isKept : Int32} {l_bsize : Int32} {l_bcells : (Nat → Int32)} {l_ssize : Int32} {l_scells : (Nat → Int32)} {l_dsize : Int32} {l_dcells : (Nat → Int32)} {l_people : Int32} {l_rule : Int32} {l_believed : Int32} {k_bsize : Int32} {k_bcells : (Nat → Int32)} {k_ssize : Int32} {k_scells : (Nat → Int32)} {k_dsize : Int32} {k_dcells : (Nat → Int32)} {k_people : Int32} {k_rule : Int32} {k_believed : Int32} {d_bsize : Int32} {d_bcells : (Nat → Int32)} {d_ssize : Int32} {d_scells : (Nat → Int32)} {d_dsize : Int32} {d_dcells : (Nat → Int32)} {d_people : Int32} {d_rule : Int32} {d_believed : Int32} {order : (Nat → Int32)} {stepsAt : (Nat → Int32)} {doubts : (Nat → Int32)} {weights : (Nat → Int32)} {rows : (Nat → Int32)} {metEver : (Nat → Int32)} {bowedTo : (Nat → Int32)} {isStale : Int32} {bowCount : Int32} {doubtCount : Int32} {seenBows : Int32} {likeliest : Int32} {mostSayingsSo : Int32} {doers : (Nat → Int64)} {isTelling : (Nat → Int32)} {tbytes : (Nat → Int32)} {tlen : Int32} {token : Int32} {place : Int32} {behindIt : Int32} {value : Int32} {sa_nums : (Nat → Int64)} {sa_bits : Int32} {sa_len : Int32} {sb_nums : (Nat → Int64)} {sb_bits : Int32} {sb_len : Int32} {sc_nums : (Nat → Int64)} {sc_bits : Int32} {sc_len : Int32} {sd_nums : (Nat → Int64)} {sd_bits : Int32} {sd_len : Int32} {findings : (Nat → Int32)} {a1 : Int32} (hk : ¬ a1 = (0 : Int32) ∧ ¬ a1 = (1 : Int32) ∧ ¬ a1 = (2 : Int32) ∧ ¬ a1 = (3 : Int32)) : CtO l yX7_sheetAt wsX7_sheetAt rm_X7_sheetAt G ca ev [.ref m0, .int a1] (wX ca ev m0 l0 l1 l2 l3 l4 l5 l6 k0 k1 k2 k3 k4 k5 k6 d0 d1 d2 d3 d4 d5 d6 n0 n1 n2 n3 n4 n5 n6 n7 b0 b1 b2 t0 t1 r0 sa sa0 sa1 sb0 sb1 sc0 sc1 sd0 sd1 fa isKept l_bsize l_bcells l_ssize l_scells l_dsize l_dcells l_people l_rule l_believed k_bsize k_bcells k_ssize k_scells k_dsize k_dcells k_people k_rule k_believed d_bsize d_bcells d_ssize d_scells d_dsize d_dcells d_people d_rule d_believed order stepsAt doubts weights rows metEver bowedTo isStale bowCount doubtCount seenBows likeliest mostSayingsSo doers isTelling tbytes tlen token place behindIt value sa_nums sa_bits sa_len sb_nums sb_bits sb_len sc_nums sc_bits sc_len sd_nums sd_bits sd_len findings) (wX ca ev m0 l0 l1 l2 l3 l4 l5 l6 k0 k1 k2 k3 k4 k5 k6 d0 d1 d2 d3 d4 d5 d6 n0 n1 n2 n3 n4 n5 n6 n7 b0 b1 b2 t0 t1 r0 sa sa0 sa1 sb0 sb1 sc0 sc1 sd0 sd1 fa isKept l_bsize l_bcells l_ssize l_scells l_dsize l_dcells l_people l_rule l_believed k_bsize k_bcells k_ssize k_scells k_dsize k_dcells k_people k_rule k_believed d_bsize d_bcells d_ssize d_scells d_dsize d_dcells d_people d_rule d_believed order stepsAt doubts weights rows metEver bowedTo isStale bowCount doubtCount seenBows likeliest mostSayingsSo doers isTelling tbytes tlen token place behindIt value sa_nums sa_bits sa_len sb_nums sb_bits sb_len sc_nums sc_bits sc_len sd_nums sd_bits sd_len findings) none := by
  refine en_o (by decide) rfl (Nat.le_of_ble_eq_true rfl) ?_
  intro p e s m args below meth c A Q H locs ls hx hb hml hown hts hA hP hK hD hE hS hl hRet
  have hown : s.vm.findClass RX7 = some m.cls := hown
  have hl : lv_has ls 2 [(0, .ref m0), (1, .int a1)] := hl
  refine lv_iload_n hx hb dX7_sheetAt_0 rfl (lv_at hl 1 rfl) ?_
  refine lv_if_lt (tgt := 18) hx hb dX7_sheetAt_1 (by decide) (fun c0 => ?_) (fun c0 => ?_)
  · refine lv_null hx hb dX7_sheetAt_18 ?_
    exact hRet hP hD hS dX7_sheetAt_19
  · refine lv_iload_n hx hb dX7_sheetAt_4 rfl (lv_at hl 1 rfl) ?_
    refine lv_iconst (v := (4 : Int32)) hx hb dX7_sheetAt_5 (by decide) ?_
    refine lv_icmp_ge (tgt := 18) hx hb dX7_sheetAt_6 (by decide) (fun c1 => ?_) (fun c1 => (sh_cases c0 c1 hk).elim)
    refine lv_null hx hb dX7_sheetAt_18 ?_
    exact hRet hP hD hS dX7_sheetAt_19
