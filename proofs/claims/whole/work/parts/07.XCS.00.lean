abbrev rm_X3_isNumber : Room := { frames := 0, cells := 0, slots := 0, locals := 0 }
theorem hd_X3_isNumber : yX3_isNumber.cls = RX3 ∧ yX3_isNumber.cls ≠ "java/lang/invoke/MethodHandle" ∧ yX3_isNumber.cls ≠ "java/lang/invoke/VarHandle" ∧ (parseMethodDescriptor yX3_isNumber.desc).map (fun d => d.parameters.length) = some 1 := by decide +kernel
set_option maxHeartbeats 4000000 in
set_option maxRecDepth 100000 in
theorem c_X3_isNumber {l : Launch} {G : va_G} {ca : Nat → ClassId} {ev : Nat → Nat} {r0 t0 t1 c0 c1 c2 c3 c4 c5 c6 : Nat} {token : Int32} {place : Int32} {behindIt : Int32} {value : Int32} {tbytes : (Nat → Int32)} {tlen : Int32} {bsize : Int32} {bcells : (Nat → Int32)} {ssize : Int32} {scells : (Nat → Int32)} {dsize : Int32} {dcells : (Nat → Int32)} {people : Int32} {rule : Int32} {believed : Int32} {a1 : Int32} {res : Int32} (h : f_X3_isNumber token value a1 = some res) : CtI l yX3_isNumber wsX3_isNumber rm_X3_isNumber G ca ev [.ref r0, .int a1] (wRD ca ev r0 t0 t1 c0 c1 c2 c3 c4 c5 c6 token place behindIt value tbytes tlen bsize bcells ssize scells dsize dcells people rule believed) (wRD ca ev r0 t0 t1 c0 c1 c2 c3 c4 c5 c6 token place behindIt value tbytes tlen bsize bcells ssize scells dsize dcells people rule believed) res := by
  unfold f_X3_isNumber at h
  refine en_z (by decide) rfl (Nat.le_of_ble_eq_true rfl) ?_
  intro p e s m args below meth c A Q H locs ls hx hb hml hown hts hA hP hK hD hE hS hl hRet
  have hown : s.vm.findClass RX3 = some m.cls := hown
  have hl : lv_has ls 2 [(0, .ref r0), (1, .int a1)] := hl
  have hin_X3 : ∀ w ∈ u_ws RX3 TX3 6, w ∈ wsX3_isNumber := fun w h9 => List.mem_cons_of_mem _ (List.mem_append_right _ h9)
  have fk_11 := hts (.fieldLink RX3 11 "MaskBows$Reader" "token" "I") (by decide +kernel)
  have fk_21 := hts (.fieldLink RX3 21 "MaskBows$Reader" "value" "I") (by decide +kernel)
  refine lv_aload_n hx hb dX3_isNumber_0 rfl (lv_at hl 0 rfl) ?_
  refine va_get (D := G) (ci := 3) (v := .int token) (C := RX3) (T := TX3) (N := 6) hx hb hts hin_X3 hown hK hP 0 rfl rfl 2 (by decide) fk_11 (fun _ h9 => h9) rfl dX3_isNumber_1 ?_
  refine lv_iconst (v := (2 : Int32)) hx hb dX3_isNumber_4 (by decide) ?_
  refine lv_icmp_ne (tgt := 20) hx hb dX3_isNumber_5 (by decide) (fun c_1 => ?_) (fun c_1 => ?_)
  · have h := ifn c_1 h
    refine lv_iconst (v := (0 : Int32)) hx hb dX3_isNumber_20 (by decide) ?_
    obtain rfl := Option.some.inj h
    exact hRet hP hD hS zb_0 dX3_isNumber_21
  · have h := ifp c_1 h
    refine lv_aload_n hx hb dX3_isNumber_8 rfl (lv_at hl 0 rfl) ?_
    refine va_get (D := G) (ci := 3) (v := .int value) (C := RX3) (T := TX3) (N := 6) hx hb hts hin_X3 hown hK hP 0 rfl rfl 5 (by decide) fk_21 (fun _ h9 => h9) rfl dX3_isNumber_9 ?_
    refine lv_iload_n hx hb dX3_isNumber_12 rfl (lv_at hl 1 rfl) ?_
    refine lv_icmp_ne (tgt := 20) hx hb dX3_isNumber_13 (by decide) (fun c_2 => ?_) (fun c_2 => ?_)
    · have h := ifn c_2 h
      refine lv_iconst (v := (0 : Int32)) hx hb dX3_isNumber_20 (by decide) ?_
      obtain rfl := Option.some.inj h
      exact hRet hP hD hS zb_0 dX3_isNumber_21
    · have h := ifp c_2 h
      refine lv_iconst (v := (1 : Int32)) hx hb dX3_isNumber_16 (by decide) ?_
      refine lv_goto (tgt := 21) hx hb dX3_isNumber_17 (by decide) ?_
      obtain rfl := Option.some.inj h
      exact hRet hP hD hS zb_1 dX3_isNumber_21
abbrev rm_X3_isWord : Room := { frames := 4, cells := 0, slots := 0, locals := 85 }
theorem hd_X3_isWord : yX3_isWord.cls = RX3 ∧ yX3_isWord.cls ≠ "java/lang/invoke/MethodHandle" ∧ yX3_isWord.cls ≠ "java/lang/invoke/VarHandle" ∧ (parseMethodDescriptor yX3_isWord.desc).map (fun d => d.parameters.length) = some 1 := by decide +kernel
set_option maxHeartbeats 4000000 in
set_option maxRecDepth 100000 in
theorem c_X3_isWord {l : Launch} {G : va_G} {ca : Nat → ClassId} {ev : Nat → Nat} {r0 t0 t1 c0 c1 c2 c3 c4 c5 c6 : Nat} {token : Int32} {place : Int32} {behindIt : Int32} {value : Int32} {tbytes : (Nat → Int32)} {tlen : Int32} {bsize : Int32} {bcells : (Nat → Int32)} {ssize : Int32} {scells : (Nat → Int32)} {dsize : Int32} {dcells : (Nat → Int32)} {people : Int32} {rule : Int32} {believed : Int32} {w1 : Nat} {N : Nat} {res : Int32} (hw1 : w1 < 17) (h : f_X3_isWord N token place behindIt tbytes tlen w1 = some res) : CtI l yX3_isWord wsX3_isWord rm_X3_isWord G ca ev [.ref r0, .ref (ev (1 + 2 * w1))] (wRD ca ev r0 t0 t1 c0 c1 c2 c3 c4 c5 c6 token place behindIt value tbytes tlen bsize bcells ssize scells dsize dcells people rule believed) (wRD ca ev r0 t0 t1 c0 c1 c2 c3 c4 c5 c6 token place behindIt value tbytes tlen bsize bcells ssize scells dsize dcells people rule believed) res := by
  unfold f_X3_isWord at h
  refine en_z (by decide) rfl (Nat.le_of_ble_eq_true rfl) ?_
  intro p e s m args below meth c A Q H locs ls hx hb hml hown hts hA hP hK hD hE hS hl hRet
  have hown : s.vm.findClass RX3 = some m.cls := hown
  have hl : lv_has ls 3 [(0, .ref r0), (1, .ref (ev (1 + 2 * w1)))] := hl
  have hin_X3 : ∀ w ∈ u_ws RX3 TX3 6, w ∈ wsX3_isWord := fun w h9 => List.mem_cons_of_mem _ (List.mem_append_left _ (List.mem_append_right _ h9))
  have fk_11 := hts (.fieldLink RX3 11 "MaskBows$Reader" "token" "I") (by decide +kernel)
  have fk_15 := hts (.fieldLink RX3 15 "MaskBows$Reader" "place" "I") (by decide +kernel)
  have fk_18 := hts (.fieldLink RX3 18 "MaskBows$Reader" "behindIt" "I") (by decide +kernel)
  have fk_24 := hts (.fieldLink RX3 24 "MaskBows$Reader" "tape" "LMaskBows$Tape;") (by decide +kernel)
  refine lv_aload_n hx hb dX3_isWord_0 rfl (lv_at hl 0 rfl) ?_
  refine va_get (D := G) (ci := 3) (v := .int token) (C := RX3) (T := TX3) (N := 6) hx hb hts hin_X3 hown hK hP 0 rfl rfl 2 (by decide) fk_11 (fun _ h9 => h9) rfl dX3_isWord_1 ?_
  refine lv_iconst (v := (1 : Int32)) hx hb dX3_isWord_4 (by decide) ?_
  refine lv_icmp_ne (tgt := 24) hx hb dX3_isWord_5 (by decide) (fun c_1 => ?_) (fun c_1 => ?_)
  · have h := ifn c_1 h
    refine lv_iconst (v := (0 : Int32)) hx hb dX3_isWord_24 (by decide) ?_
    obtain rfl := Option.some.inj h
    exact hRet hP hD hS zb_0 dX3_isWord_25
  · have h := ifp c_1 h
    refine lv_aload_n hx hb dX3_isWord_8 rfl (lv_at hl 0 rfl) ?_
    refine va_get (D := G) (ci := 3) (v := .int behindIt) (C := RX3) (T := TX3) (N := 6) hx hb hts hin_X3 hown hK hP 0 rfl rfl 4 (by decide) fk_18 (fun _ h9 => h9) rfl dX3_isWord_9 ?_
    refine lv_aload_n hx hb dX3_isWord_12 rfl (lv_at hl 0 rfl) ?_
    refine va_get (D := G) (ci := 3) (v := .int place) (C := RX3) (T := TX3) (N := 6) hx hb hts hin_X3 hown hK hP 0 rfl rfl 3 (by decide) fk_15 (fun _ h9 => h9) rfl dX3_isWord_13 ?_
    refine lv_isub hx hb dX3_isWord_16 ?_
    refine lv_aload_n hx hb dX3_isWord_17 rfl (lv_at hl 1 rfl) ?_
    refine cn_Vi (As := []) (rest := [.int (behindIt - place)]) ⟨hx, hb, hml, hown, hts⟩ (c_J0_length hw1) (cwV 0 hts gX3_isWord_J0_length_8abf5 rfl rfl rfl hd_J0_length ⟨Nat.le_of_ble_eq_true rfl, Nat.le_of_ble_eq_true rfl⟩) hK hP hD hS hA hE (recv_S hE hw1 hS) rfl hl.1 rfl (Nat.le_of_ble_eq_true rfl) dX3_isWord_18 ⟨Nat.zero_le _, Nat.zero_le _⟩ (fun H locs hP hD hS => ?_)
    refine lv_icmp_eq (tgt := 26) hx hb dX3_isWord_21 (by decide) (fun c_2 => ?_) (fun c_2 => ?_)
    · have h := ifp c_2 h
      refine lv_iconst (v := (0 : Int32)) hx hb dX3_isWord_26 (by decide) ?_
      refine lv_istore_n (lv' := [(2, .int (0 : Int32)), (0, .ref r0), (1, .ref (ev (1 + 2 * w1)))]) hx hb dX3_isWord_27 rfl hl (by decide) rfl (fun ls hl => ?_)
      have L_28 : ∀  {place_28 : Int32} {tbytes_28 : (Nat → Int32)} {tlen_28 : Int32} {K_28 : Unit → Option (Int32)} (n_28 : Nat) {x2_28 : Int32} {H : Heap} {locs : List Loc} {ls : Array Slot}, f_X3_isWord_28 w1 place_28 tbytes_28 tlen_28 K_28  n_28 x2_28 = some res → (∀ {H : Heap} {locs : List Loc} {pc : Nat} {ls : Array Slot}, va_P G vwCl (wRD ca ev r0 t0 t1 c0 c1 c2 c3 c4 c5 c6 token place_28 behindIt value tbytes_28 tlen_28 bsize bcells ssize scells dsize dcells people rule believed) H → va_D A (wRD ca ev r0 t0 t1 c0 c1 c2 c3 c4 c5 c6 token place_28 behindIt value tbytes_28 tlen_28 bsize bcells ssize scells dsize dcells people rule believed) → va_S A s.heap H locs → (res = 0 ∨ res = 1) → decode cX3_isWord pc = .ok (.ireturn, 1) → W p l e rm_X3_isWord s m args below meth c H locs 0 0 Q (F0 m pc ls [.int res])) → va_P G vwCl (wRD ca ev r0 t0 t1 c0 c1 c2 c3 c4 c5 c6 token place_28 behindIt value tbytes_28 tlen_28 bsize bcells ssize scells dsize dcells people rule believed) H → va_D A (wRD ca ev r0 t0 t1 c0 c1 c2 c3 c4 c5 c6 token place_28 behindIt value tbytes_28 tlen_28 bsize bcells ssize scells dsize dcells people rule believed) → va_S A s.heap H locs → lv_has ls 3 [(0, .ref r0), (1, .ref (ev (1 + 2 * w1))), (2, .int x2_28)] → (∀ {uL_28 : Unit} {H : Heap} {locs : List Loc} {ls : Array Slot}, K_28 uL_28 = some res → va_P G vwCl (wRD ca ev r0 t0 t1 c0 c1 c2 c3 c4 c5 c6 token place_28 behindIt value tbytes_28 tlen_28 bsize bcells ssize scells dsize dcells people rule believed) H → va_D A (wRD ca ev r0 t0 t1 c0 c1 c2 c3 c4 c5 c6 token place_28 behindIt value tbytes_28 tlen_28 bsize bcells ssize scells dsize dcells people rule believed) → va_S A s.heap H locs → lv_has ls 3 [] → W p l e rm_X3_isWord s m args below meth c H locs 0 0 Q (F0 m 65 ls [])) → W p l e rm_X3_isWord s m args below meth c H locs 0 0 Q (F0 m 28 ls []) := by
        intro place_28 tbytes_28 tlen_28 K_28 n_28
        induction n_28 with
        | zero => intro x2_28 H locs ls h; exact absurd h (by rw [f_X3_isWord_28]; exact fun z => nomatch z)
        | succ n_28 ih =>
          intro x2_28 H locs ls h hRet hP hD hS hl JK_28
          rw [f_X3_isWord_28] at h
          refine lv_iload_n hx hb dX3_isWord_28 rfl (lv_at hl 2 rfl) ?_
          refine lv_aload_n hx hb dX3_isWord_29 rfl (lv_at hl 1 rfl) ?_
          refine cn_Vi (As := []) (rest := [.int x2_28]) ⟨hx, hb, hml, hown, hts⟩ (c_J0_length hw1) (cwV 0 hts gX3_isWord_J0_length_8abf5 rfl rfl rfl hd_J0_length ⟨Nat.le_of_ble_eq_true rfl, Nat.le_of_ble_eq_true rfl⟩) hK hP hD hS hA hE (recv_S hE hw1 hS) rfl hl.1 rfl (Nat.le_of_ble_eq_true rfl) dX3_isWord_30 ⟨Nat.zero_le _, Nat.zero_le _⟩ (fun H locs hP hD hS => ?_)
          refine lv_icmp_ge (tgt := 65) hx hb dX3_isWord_33 (by decide) (fun c_3 => ?_) (fun c_3 => ?_)
          · have h := ifp c_3 h
            exact JK_28 h hP hD hS (lv_sub hl [] rfl)
          · have h := ifn c_3 h
            refine lv_aload_n hx hb dX3_isWord_36 rfl (lv_at hl 0 rfl) ?_
            refine va_get (D := G) (ci := 3) (v := .ref t0) (C := RX3) (T := TX3) (N := 6) hx hb hts hin_X3 hown hK hP 0 rfl rfl 0 (by decide) fk_24 (fun _ h9 => h9) rfl dX3_isWord_37 ?_
            refine lv_aload_n hx hb dX3_isWord_40 rfl (lv_at hl 0 rfl) ?_
            refine va_get (D := G) (ci := 3) (v := .int place_28) (C := RX3) (T := TX3) (N := 6) hx hb hts hin_X3 hown hK hP 0 rfl rfl 3 (by decide) fk_15 (fun _ h9 => h9) rfl dX3_isWord_41 ?_
            refine lv_iload_n hx hb dX3_isWord_44 rfl (lv_at hl 2 rfl) ?_
            refine lv_iadd hx hb dX3_isWord_45 ?_
            obtain ⟨u_4, e_4, h⟩ := bd_some h
            refine cl_Vi (As := [.int (place_28 + x2_28)]) (rest := []) (Wn := (wRD ca ev r0 t0 t1 c0 c1 c2 c3 c4 c5 c6 token place_28 behindIt value tbytes_28 tlen_28 bsize bcells ssize scells dsize dcells people rule believed)) ⟨hx, hb, hml, hown, hts⟩ (c_X6_at (ca := ca) (ev := ev) (t0 := t0) (t1 := t1) (tbytes := tbytes_28) (tlen := tlen_28) e_4) (cwV 1 hts gX3_isWord_X6_at rfl rfl rfl hd_X6_at ⟨Nat.le_of_ble_eq_true rfl, Nat.le_of_ble_eq_true rfl⟩) hK hP hD hS hA hE wp_15 (q0 := 0) (ci := 6) rfl rfl rfl rfl hl.1 rfl (Nat.le_of_ble_eq_true rfl) dX3_isWord_46 ⟨Nat.zero_le _, Nat.zero_le _⟩ (fun H locs hP hD hS => ?_)
            refine lv_aload_n hx hb dX3_isWord_49 rfl (lv_at hl 1 rfl) ?_
            refine lv_iload_n hx hb dX3_isWord_50 rfl (lv_at hl 2 rfl) ?_
            obtain ⟨i_5, h⟩ := gd_some h
            refine cn_Vi (As := [.int x2_28]) (rest := [.int u_4]) ⟨hx, hb, hml, hown, hts⟩ (c_J0_charAt hw1 i_5) (cwV 1 hts gX3_isWord_J0_charAt_5068e rfl rfl rfl hd_J0_charAt ⟨Nat.le_of_ble_eq_true rfl, Nat.le_of_ble_eq_true rfl⟩) hK hP hD hS hA hE (recv_S hE hw1 hS) rfl hl.1 rfl (Nat.le_of_ble_eq_true rfl) dX3_isWord_51 ⟨Nat.zero_le _, Nat.zero_le _⟩ (fun H locs hP hD hS => ?_)
            refine lv_icmp_eq (tgt := 59) hx hb dX3_isWord_54 (by decide) (fun c_6 => ?_) (fun c_6 => ?_)
            · have h := ifp c_6 h
              refine lv_iinc (v := (x2_28 + (1 : Int32))) (lv' := [(2, .int (x2_28 + (1 : Int32))), (0, .ref r0), (1, .ref (ev (1 + 2 * w1)))]) hx hb dX3_isWord_59 hl (k := 2) rfl rfl (by decide) rfl (fun ls hl => ?_)
              refine lv_goto (tgt := 28) hx hb dX3_isWord_62 (by decide) ?_
              exact ih h hRet hP hD hS (lv_sub hl [1, 2, 0] rfl) JK_28
            · have h := ifn c_6 h
              refine lv_iconst (v := (0 : Int32)) hx hb dX3_isWord_57 (by decide) ?_
              obtain rfl := Option.some.inj h
              exact hRet hP hD hS zb_0 dX3_isWord_58
      refine L_28 _ h hRet hP hD hS (lv_sub hl [1, 2, 0] rfl) ?_
      clear h
      intro u_7 H locs ls h hP hD hS hl
      refine lv_iconst (v := (1 : Int32)) hx hb dX3_isWord_65 (by decide) ?_
      obtain rfl := Option.some.inj h
      exact hRet hP hD hS zb_1 dX3_isWord_66
    · have h := ifn c_2 h
      refine lv_iconst (v := (0 : Int32)) hx hb dX3_isWord_24 (by decide) ?_
      obtain rfl := Option.some.inj h
      exact hRet hP hD hS zb_0 dX3_isWord_25
abbrev rm_X3_tokenOf : Room := { frames := 0, cells := 0, slots := 0, locals := 0 }
theorem hd_X3_tokenOf : yX3_tokenOf.cls ≠ "java/lang/invoke/MethodHandle" ∧ yX3_tokenOf.cls ≠ "java/lang/invoke/VarHandle" ∧ (parseMethodDescriptor yX3_tokenOf.desc).map (fun d => d.parameters.length) = some 1 := by decide +kernel
set_option maxHeartbeats 4000000 in
set_option maxRecDepth 100000 in
theorem c_X3_tokenOf {l : Launch} {G : va_G} {ca : Nat → ClassId} {ev : Nat → Nat}  {a0 : Int32} {res : Int32} (h : f_X3_tokenOf a0 = some res) : CtI l yX3_tokenOf wsX3_tokenOf rm_X3_tokenOf G ca ev [.int a0] [] [] res := by
  unfold f_X3_tokenOf at h
  refine en_i (by decide) rfl (Nat.le_of_ble_eq_true rfl) ?_
  intro p e s m args below meth c A Q H locs ls hx hb hml hown hts hA hP hK hD hE hS hl hRet
  have hown : s.vm.findClass RX3 = some m.cls := hown
  have hl : lv_has ls 1 [(0, .int a0)] := hl
  refine lv_iload_n hx hb dX3_tokenOf_0 rfl (lv_at hl 0 rfl) ?_
  refine lv_iconst (v := (-1 : Int32)) hx hb dX3_tokenOf_1 (by decide) ?_
  refine lv_icmp_ne (tgt := 7) hx hb dX3_tokenOf_2 (by decide) (fun c_1 => ?_) (fun c_1 => ?_)
  · have h := ifn c_1 h
    refine lv_iload_n hx hb dX3_tokenOf_7 rfl (lv_at hl 0 rfl) ?_
    refine lv_bipush (v := (97 : Int32)) hx hb dX3_tokenOf_8 (by decide) ?_
    obtain ⟨K_3, eK_3, h⟩ := jn_some h
    have J_3 : ∀ {u_3 : Unit} {H : Heap} {locs : List Loc} {ls : Array Slot}, K_3 u_3 = some res → va_P G vwCl [] H → va_D A [] → va_S A s.heap H locs → lv_has ls 1 [(0, .int a0)] → W p l e rm_X3_tokenOf s m args below meth c H locs 0 0 Q (F0 m 21 ls []) := by
      intro u_3 H locs ls h hP hD hS hl
      rw [eK_3] at h
      refine lv_iload_n hx hb dX3_tokenOf_21 rfl (lv_at hl 0 rfl) ?_
      refine lv_bipush (v := (48 : Int32)) hx hb dX3_tokenOf_22 (by decide) ?_
      refine lv_icmp_lt (tgt := 35) hx hb dX3_tokenOf_24 (by decide) (fun c_6 => ?_) (fun c_6 => ?_)
      · have h := ifp c_6 h
        refine lv_iload_n hx hb dX3_tokenOf_35 rfl (lv_at hl 0 rfl) ?_
        refine lv_bipush (v := (59 : Int32)) hx hb dX3_tokenOf_36 (by decide) ?_
        refine lv_icmp_ne (tgt := 45) hx hb dX3_tokenOf_38 (by decide) (fun c_7 => ?_) (fun c_7 => ?_)
        · have h := ifn c_7 h
          refine lv_iconst (v := (4 : Int32)) hx hb dX3_tokenOf_45 (by decide) ?_
          obtain rfl := Option.some.inj h
          exact hRet hP hD hS dX3_tokenOf_46
        · have h := ifp c_7 h
          refine lv_iconst (v := (3 : Int32)) hx hb dX3_tokenOf_41 (by decide) ?_
          refine lv_goto (tgt := 46) hx hb dX3_tokenOf_42 (by decide) ?_
          obtain rfl := Option.some.inj h
          exact hRet hP hD hS dX3_tokenOf_46
      · have h := ifn c_6 h
        refine lv_iload_n hx hb dX3_tokenOf_27 rfl (lv_at hl 0 rfl) ?_
        refine lv_bipush (v := (57 : Int32)) hx hb dX3_tokenOf_28 (by decide) ?_
        refine lv_icmp_gt (tgt := 35) hx hb dX3_tokenOf_30 (by decide) (fun c_8 => ?_) (fun c_8 => ?_)
        · have h := ifp c_8 h
          refine lv_iload_n hx hb dX3_tokenOf_35 rfl (lv_at hl 0 rfl) ?_
          refine lv_bipush (v := (59 : Int32)) hx hb dX3_tokenOf_36 (by decide) ?_
          refine lv_icmp_ne (tgt := 45) hx hb dX3_tokenOf_38 (by decide) (fun c_9 => ?_) (fun c_9 => ?_)
          · have h := ifn c_9 h
            refine lv_iconst (v := (4 : Int32)) hx hb dX3_tokenOf_45 (by decide) ?_
            obtain rfl := Option.some.inj h
            exact hRet hP hD hS dX3_tokenOf_46
          · have h := ifp c_9 h
            refine lv_iconst (v := (3 : Int32)) hx hb dX3_tokenOf_41 (by decide) ?_
            refine lv_goto (tgt := 46) hx hb dX3_tokenOf_42 (by decide) ?_
            obtain rfl := Option.some.inj h
            exact hRet hP hD hS dX3_tokenOf_46
        · have h := ifn c_8 h
          refine lv_iconst (v := (2 : Int32)) hx hb dX3_tokenOf_33 (by decide) ?_
          obtain rfl := Option.some.inj h
          exact hRet hP hD hS dX3_tokenOf_34
    clear eK_3
    refine lv_icmp_lt (tgt := 21) hx hb dX3_tokenOf_10 (by decide) (fun c_4 => ?_) (fun c_4 => ?_)
    · have h := ifp c_4 h
      exact J_3 h hP hD hS (lv_sub hl [0] rfl)
    · have h := ifn c_4 h
      refine lv_iload_n hx hb dX3_tokenOf_13 rfl (lv_at hl 0 rfl) ?_
      refine lv_bipush (v := (122 : Int32)) hx hb dX3_tokenOf_14 (by decide) ?_
      refine lv_icmp_gt (tgt := 21) hx hb dX3_tokenOf_16 (by decide) (fun c_5 => ?_) (fun c_5 => ?_)
      · have h := ifp c_5 h
        exact J_3 h hP hD hS (lv_sub hl [0] rfl)
      · have h := ifn c_5 h
        refine lv_iconst (v := (1 : Int32)) hx hb dX3_tokenOf_19 (by decide) ?_
        obtain rfl := Option.some.inj h
        exact hRet hP hD hS dX3_tokenOf_20
  · have h := ifp c_1 h
    refine lv_iconst (v := (0 : Int32)) hx hb dX3_tokenOf_5 (by decide) ?_
    obtain rfl := Option.some.inj h
    exact hRet hP hD hS dX3_tokenOf_6
abbrev rm_X3_step : Room := { frames := 1, cells := 0, slots := 0, locals := 23 }
theorem hd_X3_step : yX3_step.cls = RX3 ∧ yX3_step.cls ≠ "java/lang/invoke/MethodHandle" ∧ yX3_step.cls ≠ "java/lang/invoke/VarHandle" ∧ (parseMethodDescriptor yX3_step.desc).map (fun d => d.parameters.length) = some 0 := by decide +kernel
set_option maxHeartbeats 4000000 in
set_option maxRecDepth 100000 in
theorem c_X3_step {l : Launch} {G : va_G} {ca : Nat → ClassId} {ev : Nat → Nat} {r0 t0 t1 c0 c1 c2 c3 c4 c5 c6 : Nat} {token : Int32} {place : Int32} {behindIt : Int32} {value : Int32} {tbytes : (Nat → Int32)} {tlen : Int32} {bsize : Int32} {bcells : (Nat → Int32)} {ssize : Int32} {scells : (Nat → Int32)} {dsize : Int32} {dcells : (Nat → Int32)} {people : Int32} {rule : Int32} {believed : Int32}  {N : Nat} {res : Int32 × Int32 × Int32 × Int32} (h : f_X3_step N token place behindIt value tbytes tlen = some res) : CtV l yX3_step wsX3_step rm_X3_step G ca ev [.ref r0] (wRD ca ev r0 t0 t1 c0 c1 c2 c3 c4 c5 c6 token place behindIt value tbytes tlen bsize bcells ssize scells dsize dcells people rule believed) (wRD ca ev r0 t0 t1 c0 c1 c2 c3 c4 c5 c6 res.1 res.2.1 res.2.2.1 res.2.2.2 tbytes tlen bsize bcells ssize scells dsize dcells people rule believed) := by
  unfold f_X3_step at h
  refine en_v (by decide) rfl (Nat.le_of_ble_eq_true rfl) ?_
  intro p e s m args below meth c A Q H locs ls hx hb hml hown hts hA hP hK hD hE hS hl hRet
  have hown : s.vm.findClass RX3 = some m.cls := hown
  have hl : lv_has ls 2 [(0, .ref r0)] := hl
  have hin_X3 : ∀ w ∈ u_ws RX3 TX3 6, w ∈ wsX3_step := fun w h9 => List.mem_cons_of_mem _ (List.mem_append_left _ (List.mem_append_right _ h9))
  have fk_11 := hts (.fieldLink RX3 11 "MaskBows$Reader" "token" "I") (by decide +kernel)
  have fk_15 := hts (.fieldLink RX3 15 "MaskBows$Reader" "place" "I") (by decide +kernel)
  have fk_18 := hts (.fieldLink RX3 18 "MaskBows$Reader" "behindIt" "I") (by decide +kernel)
  have fk_21 := hts (.fieldLink RX3 21 "MaskBows$Reader" "value" "I") (by decide +kernel)
  have fk_24 := hts (.fieldLink RX3 24 "MaskBows$Reader" "tape" "LMaskBows$Tape;") (by decide +kernel)
  refine lv_aload_n hx hb dX3_step_0 rfl (lv_at hl 0 rfl) ?_
  refine lv_aload_n hx hb dX3_step_1 rfl (lv_at hl 0 rfl) ?_
  refine va_get (D := G) (ci := 3) (v := .int behindIt) (C := RX3) (T := TX3) (N := 6) hx hb hts hin_X3 hown hK hP 0 rfl rfl 4 (by decide) fk_18 (fun _ h9 => h9) rfl dX3_step_2 ?_
  refine va_put (D := G) (ci := 3) (v := .int behindIt) (ty := .int) (C := RX3) (T := TX3) (N := 6) hx hb hts hin_X3 tyX3 tyX3_ok nmX3 hown hK hP hD hS 0 rfl rfl 3 (by decide) fk_15 (fun _ h9 => h9) rfl (tyX3_ok 3 (by decide)) rfl rfl (Nat.le_of_ble_eq_true rfl) dX3_step_5 (fun H locs hP hD hS => ?_)
  have hP : va_P G vwCl (wRD ca ev r0 t0 t1 c0 c1 c2 c3 c4 c5 c6 token behindIt behindIt value tbytes tlen bsize bcells ssize scells dsize dcells people rule believed) H := hP
  have hD : va_D A (wRD ca ev r0 t0 t1 c0 c1 c2 c3 c4 c5 c6 token behindIt behindIt value tbytes tlen bsize bcells ssize scells dsize dcells people rule believed) := hD
  have L_8 : ∀  {tbytes_8 : (Nat → Int32)} {tlen_8 : Int32} (n_8 : Nat) {place_8 : Int32} {uL_8 : Int32} {H : Heap} {locs : List Loc} {ls : Array Slot}, f_X3_step_8 tbytes_8 tlen_8  n_8 place_8 = some uL_8 → va_P G vwCl (wRD ca ev r0 t0 t1 c0 c1 c2 c3 c4 c5 c6 token place_8 behindIt value tbytes_8 tlen_8 bsize bcells ssize scells dsize dcells people rule believed) H → va_D A (wRD ca ev r0 t0 t1 c0 c1 c2 c3 c4 c5 c6 token place_8 behindIt value tbytes_8 tlen_8 bsize bcells ssize scells dsize dcells people rule believed) → va_S A s.heap H locs → lv_has ls 2 [(0, .ref r0)] → (∀ {H : Heap} {locs : List Loc} {ls : Array Slot}, va_P G vwCl (wRD ca ev r0 t0 t1 c0 c1 c2 c3 c4 c5 c6 token uL_8 behindIt value tbytes_8 tlen_8 bsize bcells ssize scells dsize dcells people rule believed) H → va_D A (wRD ca ev r0 t0 t1 c0 c1 c2 c3 c4 c5 c6 token uL_8 behindIt value tbytes_8 tlen_8 bsize bcells ssize scells dsize dcells people rule believed) → va_S A s.heap H locs → lv_has ls 2 [(0, .ref r0)] → W p l e rm_X3_step s m args below meth c H locs 0 0 Q (F0 m 51 ls [])) → W p l e rm_X3_step s m args below meth c H locs 0 0 Q (F0 m 8 ls []) := by
    intro tbytes_8 tlen_8 n_8
    induction n_8 with
    | zero => intro place_8 uL_8 H locs ls h; exact absurd h (by rw [f_X3_step_8]; exact fun z => nomatch z)
    | succ n_8 ih =>
      intro place_8 uL_8 H locs ls h hP hD hS hl JK_8
      rw [f_X3_step_8] at h
      refine lv_aload_n hx hb dX3_step_8 rfl (lv_at hl 0 rfl) ?_
      refine va_get (D := G) (ci := 3) (v := .int place_8) (C := RX3) (T := TX3) (N := 6) hx hb hts hin_X3 hown hK hP 0 rfl rfl 3 (by decide) fk_15 (fun _ h9 => h9) rfl dX3_step_9 ?_
      refine lv_aload_n hx hb dX3_step_12 rfl (lv_at hl 0 rfl) ?_
      refine va_get (D := G) (ci := 3) (v := .ref t0) (C := RX3) (T := TX3) (N := 6) hx hb hts hin_X3 hown hK hP 0 rfl rfl 0 (by decide) fk_24 (fun _ h9 => h9) rfl dX3_step_13 ?_
      obtain ⟨u_1, e_1, h⟩ := bd_some h
      refine cl_Vi (As := []) (rest := [.int place_8]) (Wn := (wRD ca ev r0 t0 t1 c0 c1 c2 c3 c4 c5 c6 token place_8 behindIt value tbytes_8 tlen_8 bsize bcells ssize scells dsize dcells people rule believed)) ⟨hx, hb, hml, hown, hts⟩ (c_X6_length (ca := ca) (ev := ev) (t0 := t0) (t1 := t1) (tbytes := tbytes_8) (tlen := tlen_8) e_1) (cwV 0 hts gX3_step_X6_length rfl rfl rfl hd_X6_length ⟨Nat.le_of_ble_eq_true rfl, Nat.le_of_ble_eq_true rfl⟩) hK hP hD hS hA hE wp_15 (q0 := 0) (ci := 6) rfl rfl rfl rfl hl.1 rfl (Nat.le_of_ble_eq_true rfl) dX3_step_16 ⟨Nat.zero_le _, Nat.zero_le _⟩ (fun H locs hP hD hS => ?_)
      refine lv_icmp_ge (tgt := 51) hx hb dX3_step_19 (by decide) (fun c_2 => ?_) (fun c_2 => ?_)
      · have h := ifp c_2 h
        obtain rfl := Option.some.inj h
        exact JK_8 hP hD hS (lv_sub hl [0] rfl)
      · have h := ifn c_2 h
        refine lv_aload_n hx hb dX3_step_22 rfl (lv_at hl 0 rfl) ?_
        refine va_get (D := G) (ci := 3) (v := .ref t0) (C := RX3) (T := TX3) (N := 6) hx hb hts hin_X3 hown hK hP 0 rfl rfl 0 (by decide) fk_24 (fun _ h9 => h9) rfl dX3_step_23 ?_
        refine lv_aload_n hx hb dX3_step_26 rfl (lv_at hl 0 rfl) ?_
        refine va_get (D := G) (ci := 3) (v := .int place_8) (C := RX3) (T := TX3) (N := 6) hx hb hts hin_X3 hown hK hP 0 rfl rfl 3 (by decide) fk_15 (fun _ h9 => h9) rfl dX3_step_27 ?_
        obtain ⟨u_3, e_3, h⟩ := bd_some h
        refine cl_Vi (As := [.int place_8]) (rest := []) (Wn := (wRD ca ev r0 t0 t1 c0 c1 c2 c3 c4 c5 c6 token place_8 behindIt value tbytes_8 tlen_8 bsize bcells ssize scells dsize dcells people rule believed)) ⟨hx, hb, hml, hown, hts⟩ (c_X6_at (ca := ca) (ev := ev) (t0 := t0) (t1 := t1) (tbytes := tbytes_8) (tlen := tlen_8) e_3) (cwV 1 hts gX3_step_X6_at rfl rfl rfl hd_X6_at ⟨Nat.le_of_ble_eq_true rfl, Nat.le_of_ble_eq_true rfl⟩) hK hP hD hS hA hE wp_15 (q0 := 0) (ci := 6) rfl rfl rfl rfl hl.1 rfl (Nat.le_of_ble_eq_true rfl) dX3_step_30 ⟨Nat.zero_le _, Nat.zero_le _⟩ (fun H locs hP hD hS => ?_)
        refine lv_bipush (v := (32 : Int32)) hx hb dX3_step_33 (by decide) ?_
        refine lv_icmp_ne (tgt := 51) hx hb dX3_step_35 (by decide) (fun c_4 => ?_) (fun c_4 => ?_)
        · have h := ifn c_4 h
          obtain rfl := Option.some.inj h
          exact JK_8 hP hD hS (lv_sub hl [0] rfl)
        · have h := ifp c_4 h
          refine lv_aload_n hx hb dX3_step_38 rfl (lv_at hl 0 rfl) ?_
          refine lv_dup hx hb dX3_step_39 rfl ?_
          refine va_get (D := G) (ci := 3) (v := .int place_8) (C := RX3) (T := TX3) (N := 6) hx hb hts hin_X3 hown hK hP 0 rfl rfl 3 (by decide) fk_15 (fun _ h9 => h9) rfl dX3_step_40 ?_
          refine lv_iconst (v := (1 : Int32)) hx hb dX3_step_43 (by decide) ?_
          refine lv_iadd hx hb dX3_step_44 ?_
          refine va_put (D := G) (ci := 3) (v := .int (place_8 + (1 : Int32))) (ty := .int) (C := RX3) (T := TX3) (N := 6) hx hb hts hin_X3 tyX3 tyX3_ok nmX3 hown hK hP hD hS 0 rfl rfl 3 (by decide) fk_15 (fun _ h9 => h9) rfl (tyX3_ok 3 (by decide)) rfl rfl (Nat.le_of_ble_eq_true rfl) dX3_step_45 (fun H locs hP hD hS => ?_)
          have hP : va_P G vwCl (wRD ca ev r0 t0 t1 c0 c1 c2 c3 c4 c5 c6 token (place_8 + (1 : Int32)) behindIt value tbytes_8 tlen_8 bsize bcells ssize scells dsize dcells people rule believed) H := hP
          have hD : va_D A (wRD ca ev r0 t0 t1 c0 c1 c2 c3 c4 c5 c6 token (place_8 + (1 : Int32)) behindIt value tbytes_8 tlen_8 bsize bcells ssize scells dsize dcells people rule believed) := hD
          refine lv_goto (tgt := 8) hx hb dX3_step_48 (by decide) ?_
          exact ih h hP hD hS (lv_sub hl [0] rfl) JK_8
  obtain ⟨u_5, e_5, h⟩ := bd_some h
  refine L_8 _ e_5 hP hD hS (lv_sub hl [0] rfl) ?_
  intro H locs ls hP hD hS hl
  refine lv_aload_n hx hb dX3_step_51 rfl (lv_at hl 0 rfl) ?_
  refine lv_aload_n hx hb dX3_step_52 rfl (lv_at hl 0 rfl) ?_
  refine va_get (D := G) (ci := 3) (v := .ref t0) (C := RX3) (T := TX3) (N := 6) hx hb hts hin_X3 hown hK hP 0 rfl rfl 0 (by decide) fk_24 (fun _ h9 => h9) rfl dX3_step_53 ?_
  refine lv_aload_n hx hb dX3_step_56 rfl (lv_at hl 0 rfl) ?_
  refine va_get (D := G) (ci := 3) (v := .int u_5) (C := RX3) (T := TX3) (N := 6) hx hb hts hin_X3 hown hK hP 0 rfl rfl 3 (by decide) fk_15 (fun _ h9 => h9) rfl dX3_step_57 ?_
  obtain ⟨u_6, e_6, h⟩ := bd_some h
  refine cl_Vi (As := [.int u_5]) (rest := [.ref r0]) (Wn := (wRD ca ev r0 t0 t1 c0 c1 c2 c3 c4 c5 c6 token u_5 behindIt value tbytes tlen bsize bcells ssize scells dsize dcells people rule believed)) ⟨hx, hb, hml, hown, hts⟩ (c_X6_at (ca := ca) (ev := ev) (t0 := t0) (t1 := t1) (tbytes := tbytes) (tlen := tlen) e_6) (cwV 1 hts gX3_step_X6_at rfl rfl rfl hd_X6_at ⟨Nat.le_of_ble_eq_true rfl, Nat.le_of_ble_eq_true rfl⟩) hK hP hD hS hA hE wp_15 (q0 := 0) (ci := 6) rfl rfl rfl rfl hl.1 rfl (Nat.le_of_ble_eq_true rfl) dX3_step_60 ⟨Nat.zero_le _, Nat.zero_le _⟩ (fun H locs hP hD hS => ?_)
  obtain ⟨u_7, e_7, h⟩ := bd_some h
  refine cn_Si (As := [.int u_6]) (rest := [.ref r0]) ⟨hx, hb, hml, hown, hts⟩ (c_X3_tokenOf e_7) (va_cwS 1 hts gX3_step_X3_tokenOf rfl rfl rfl hd_X3_tokenOf ⟨Nat.le_of_ble_eq_true rfl, Nat.le_of_ble_eq_true rfl⟩) hK hP hD hS hA hE rfl hl.1 rfl (Nat.le_of_ble_eq_true rfl) dX3_step_63 ⟨Nat.zero_le _, Nat.zero_le _⟩ (fun H locs hP hD hS => ?_)
  refine va_put (D := G) (ci := 3) (v := .int u_7) (ty := .int) (C := RX3) (T := TX3) (N := 6) hx hb hts hin_X3 tyX3 tyX3_ok nmX3 hown hK hP hD hS 0 rfl rfl 2 (by decide) fk_11 (fun _ h9 => h9) rfl (tyX3_ok 2 (by decide)) rfl rfl (Nat.le_of_ble_eq_true rfl) dX3_step_66 (fun H locs hP hD hS => ?_)
  have hP : va_P G vwCl (wRD ca ev r0 t0 t1 c0 c1 c2 c3 c4 c5 c6 u_7 u_5 behindIt value tbytes tlen bsize bcells ssize scells dsize dcells people rule believed) H := hP
  have hD : va_D A (wRD ca ev r0 t0 t1 c0 c1 c2 c3 c4 c5 c6 u_7 u_5 behindIt value tbytes tlen bsize bcells ssize scells dsize dcells people rule believed) := hD
  refine lv_aload_n hx hb dX3_step_69 rfl (lv_at hl 0 rfl) ?_
  refine va_get (D := G) (ci := 3) (v := .int u_7) (C := RX3) (T := TX3) (N := 6) hx hb hts hin_X3 hown hK hP 0 rfl rfl 2 (by decide) fk_11 (fun _ h9 => h9) rfl dX3_step_70 ?_
  refine lv_iconst (v := (1 : Int32)) hx hb dX3_step_73 (by decide) ?_
  obtain ⟨u_8, e_8, h⟩ := bd_some h
  have J_8 : ∀ {H : Heap} {locs : List Loc} {ls : Array Slot}, va_P G vwCl (wRD ca ev r0 t0 t1 c0 c1 c2 c3 c4 c5 c6 u_7 u_5 behindIt value tbytes tlen bsize bcells ssize scells dsize dcells people rule believed) H → va_D A (wRD ca ev r0 t0 t1 c0 c1 c2 c3 c4 c5 c6 u_7 u_5 behindIt value tbytes tlen bsize bcells ssize scells dsize dcells people rule believed) → va_S A s.heap H locs → lv_has ls 2 [(0, .ref r0)] → (u_8 = 0 ∨ u_8 = 1) → W p l e rm_X3_step s m args below meth c H locs 0 0 Q (F0 m 90 ls [.int u_8]) := by
    intro H locs ls hP hD hS hl zj_8_0
    refine lv_istore_n (lv' := [(1, .int u_8), (0, .ref r0)]) hx hb dX3_step_90 rfl hl (by decide) rfl (fun ls hl => ?_)
    refine lv_aload_n hx hb dX3_step_91 rfl (lv_at hl 1 rfl) ?_
    refine lv_iconst (v := (0 : Int32)) hx hb dX3_step_92 (by decide) ?_
    refine va_put (D := G) (ci := 3) (v := .int (0 : Int32)) (ty := .int) (C := RX3) (T := TX3) (N := 6) hx hb hts hin_X3 tyX3 tyX3_ok nmX3 hown hK hP hD hS 0 rfl rfl 5 (by decide) fk_21 (fun _ h9 => h9) rfl (tyX3_ok 5 (by decide)) rfl rfl (Nat.le_of_ble_eq_true rfl) dX3_step_93 (fun H locs hP hD hS => ?_)
    have hP : va_P G vwCl (wRD ca ev r0 t0 t1 c0 c1 c2 c3 c4 c5 c6 u_7 u_5 behindIt (0 : Int32) tbytes tlen bsize bcells ssize scells dsize dcells people rule believed) H := hP
    have hD : va_D A (wRD ca ev r0 t0 t1 c0 c1 c2 c3 c4 c5 c6 u_7 u_5 behindIt (0 : Int32) tbytes tlen bsize bcells ssize scells dsize dcells people rule believed) := hD
    refine lv_aload_n hx hb dX3_step_96 rfl (lv_at hl 1 rfl) ?_
    refine lv_aload_n hx hb dX3_step_97 rfl (lv_at hl 1 rfl) ?_
    refine va_get (D := G) (ci := 3) (v := .int u_5) (C := RX3) (T := TX3) (N := 6) hx hb hts hin_X3 hown hK hP 0 rfl rfl 3 (by decide) fk_15 (fun _ h9 => h9) rfl dX3_step_98 ?_
    refine va_put (D := G) (ci := 3) (v := .int u_5) (ty := .int) (C := RX3) (T := TX3) (N := 6) hx hb hts hin_X3 tyX3 tyX3_ok nmX3 hown hK hP hD hS 0 rfl rfl 4 (by decide) fk_18 (fun _ h9 => h9) rfl (tyX3_ok 4 (by decide)) rfl rfl (Nat.le_of_ble_eq_true rfl) dX3_step_101 (fun H locs hP hD hS => ?_)
    have hP : va_P G vwCl (wRD ca ev r0 t0 t1 c0 c1 c2 c3 c4 c5 c6 u_7 u_5 u_5 (0 : Int32) tbytes tlen bsize bcells ssize scells dsize dcells people rule believed) H := hP
    have hD : va_D A (wRD ca ev r0 t0 t1 c0 c1 c2 c3 c4 c5 c6 u_7 u_5 u_5 (0 : Int32) tbytes tlen bsize bcells ssize scells dsize dcells people rule believed) := hD
    have L_104 : ∀ {x1_104 : Int32} {token_104 : Int32} {place_104 : Int32} {tbytes_104 : (Nat → Int32)} {tlen_104 : Int32} (n_104 : Nat) {behindIt_104 : Int32} {value_104 : Int32} {uL_104 : Int32 × Int32} {H : Heap} {locs : List Loc} {ls : Array Slot}, f_X3_step_104 x1_104 token_104 place_104 tbytes_104 tlen_104  n_104 behindIt_104 value_104 = some uL_104 → va_P G vwCl (wRD ca ev r0 t0 t1 c0 c1 c2 c3 c4 c5 c6 token_104 place_104 behindIt_104 value_104 tbytes_104 tlen_104 bsize bcells ssize scells dsize dcells people rule believed) H → va_D A (wRD ca ev r0 t0 t1 c0 c1 c2 c3 c4 c5 c6 token_104 place_104 behindIt_104 value_104 tbytes_104 tlen_104 bsize bcells ssize scells dsize dcells people rule believed) → va_S A s.heap H locs → lv_has ls 2 [(0, .ref r0), (1, .int x1_104)] → (∀ {H : Heap} {locs : List Loc} {ls : Array Slot}, va_P G vwCl (wRD ca ev r0 t0 t1 c0 c1 c2 c3 c4 c5 c6 token_104 place_104 uL_104.1 uL_104.2 tbytes_104 tlen_104 bsize bcells ssize scells dsize dcells people rule believed) H → va_D A (wRD ca ev r0 t0 t1 c0 c1 c2 c3 c4 c5 c6 token_104 place_104 uL_104.1 uL_104.2 tbytes_104 tlen_104 bsize bcells ssize scells dsize dcells people rule believed) → va_S A s.heap H locs → lv_has ls 2 [] → W p l e rm_X3_step s m args below meth c H locs 0 0 Q (F0 m 199 ls [])) → W p l e rm_X3_step s m args below meth c H locs 0 0 Q (F0 m 104 ls []) := by
      intro x1_104 token_104 place_104 tbytes_104 tlen_104 n_104
      induction n_104 with
      | zero => intro behindIt_104 value_104 uL_104 H locs ls h; exact absurd h (by rw [f_X3_step_104]; exact fun z => nomatch z)
      | succ n_104 ih =>
        intro behindIt_104 value_104 uL_104 H locs ls h hP hD hS hl JK_104
        rw [f_X3_step_104] at h
        refine lv_aload_n hx hb dX3_step_104 rfl (lv_at hl 0 rfl) ?_
        refine va_get (D := G) (ci := 3) (v := .int behindIt_104) (C := RX3) (T := TX3) (N := 6) hx hb hts hin_X3 hown hK hP 0 rfl rfl 4 (by decide) fk_18 (fun _ h9 => h9) rfl dX3_step_105 ?_
        refine lv_aload_n hx hb dX3_step_108 rfl (lv_at hl 0 rfl) ?_
        refine va_get (D := G) (ci := 3) (v := .ref t0) (C := RX3) (T := TX3) (N := 6) hx hb hts hin_X3 hown hK hP 0 rfl rfl 0 (by decide) fk_24 (fun _ h9 => h9) rfl dX3_step_109 ?_
        obtain ⟨u_10, e_10, h⟩ := bd_some h
        refine cl_Vi (As := []) (rest := [.int behindIt_104]) (Wn := (wRD ca ev r0 t0 t1 c0 c1 c2 c3 c4 c5 c6 token_104 place_104 behindIt_104 value_104 tbytes_104 tlen_104 bsize bcells ssize scells dsize dcells people rule believed)) ⟨hx, hb, hml, hown, hts⟩ (c_X6_length (ca := ca) (ev := ev) (t0 := t0) (t1 := t1) (tbytes := tbytes_104) (tlen := tlen_104) e_10) (cwV 0 hts gX3_step_X6_length rfl rfl rfl hd_X6_length ⟨Nat.le_of_ble_eq_true rfl, Nat.le_of_ble_eq_true rfl⟩) hK hP hD hS hA hE wp_15 (q0 := 0) (ci := 6) rfl rfl rfl rfl hl.1 rfl (Nat.le_of_ble_eq_true rfl) dX3_step_112 ⟨Nat.zero_le _, Nat.zero_le _⟩ (fun H locs hP hD hS => ?_)
        refine lv_icmp_ge (tgt := 199) hx hb dX3_step_115 (by decide) (fun c_11 => ?_) (fun c_11 => ?_)
        · have h := ifp c_11 h
          obtain rfl := Option.some.inj h
          exact JK_104 hP hD hS (lv_sub hl [] rfl)
        · have h := ifn c_11 h
          refine lv_aload_n hx hb dX3_step_118 rfl (lv_at hl 0 rfl) ?_
          refine va_get (D := G) (ci := 3) (v := .int behindIt_104) (C := RX3) (T := TX3) (N := 6) hx hb hts hin_X3 hown hK hP 0 rfl rfl 4 (by decide) fk_18 (fun _ h9 => h9) rfl dX3_step_119 ?_
          refine lv_aload_n hx hb dX3_step_122 rfl (lv_at hl 0 rfl) ?_
          refine va_get (D := G) (ci := 3) (v := .int place_104) (C := RX3) (T := TX3) (N := 6) hx hb hts hin_X3 hown hK hP 0 rfl rfl 3 (by decide) fk_15 (fun _ h9 => h9) rfl dX3_step_123 ?_
          obtain ⟨K_13, eK_13, h⟩ := jn_some h
          have J_13 : ∀ {u_13 : Unit} {H : Heap} {locs : List Loc} {ls : Array Slot}, K_13 u_13 = some uL_104 → va_P G vwCl (wRD ca ev r0 t0 t1 c0 c1 c2 c3 c4 c5 c6 token_104 place_104 behindIt_104 value_104 tbytes_104 tlen_104 bsize bcells ssize scells dsize dcells people rule believed) H → va_D A (wRD ca ev r0 t0 t1 c0 c1 c2 c3 c4 c5 c6 token_104 place_104 behindIt_104 value_104 tbytes_104 tlen_104 bsize bcells ssize scells dsize dcells people rule believed) → va_S A s.heap H locs → lv_has ls 2 [(0, .ref r0), (1, .int x1_104)] → W p l e rm_X3_step s m args below meth c H locs 0 0 Q (F0 m 154 ls []) := by
            intro u_13 H locs ls h hP hD hS hl
            rw [eK_13] at h
            refine lv_aload_n hx hb dX3_step_154 rfl (lv_at hl 0 rfl) ?_
            refine lv_sipush (v := (1000 : Int32)) hx hb dX3_step_155 (by decide) ?_
            refine lv_bipush (v := (10 : Int32)) hx hb dX3_step_158 (by decide) ?_
            refine lv_aload_n hx hb dX3_step_160 rfl (lv_at hl 0 rfl) ?_
            refine va_get (D := G) (ci := 3) (v := .int value_104) (C := RX3) (T := TX3) (N := 6) hx hb hts hin_X3 hown hK hP 0 rfl rfl 5 (by decide) fk_21 (fun _ h9 => h9) rfl dX3_step_161 ?_
            refine lv_imul hx hb dX3_step_164 ?_
            refine lv_aload_n hx hb dX3_step_165 rfl (lv_at hl 0 rfl) ?_
            refine va_get (D := G) (ci := 3) (v := .ref t0) (C := RX3) (T := TX3) (N := 6) hx hb hts hin_X3 hown hK hP 0 rfl rfl 0 (by decide) fk_24 (fun _ h9 => h9) rfl dX3_step_166 ?_
            refine lv_aload_n hx hb dX3_step_169 rfl (lv_at hl 0 rfl) ?_
            refine va_get (D := G) (ci := 3) (v := .int behindIt_104) (C := RX3) (T := TX3) (N := 6) hx hb hts hin_X3 hown hK hP 0 rfl rfl 4 (by decide) fk_18 (fun _ h9 => h9) rfl dX3_step_170 ?_
            obtain ⟨u_19, e_19, h⟩ := bd_some h
            refine cl_Vi (As := [.int behindIt_104]) (rest := [.int ((10 : Int32) * value_104), .int (1000 : Int32), .ref r0]) (Wn := (wRD ca ev r0 t0 t1 c0 c1 c2 c3 c4 c5 c6 token_104 place_104 behindIt_104 value_104 tbytes_104 tlen_104 bsize bcells ssize scells dsize dcells people rule believed)) ⟨hx, hb, hml, hown, hts⟩ (c_X6_at (ca := ca) (ev := ev) (t0 := t0) (t1 := t1) (tbytes := tbytes_104) (tlen := tlen_104) e_19) (cwV 1 hts gX3_step_X6_at rfl rfl rfl hd_X6_at ⟨Nat.le_of_ble_eq_true rfl, Nat.le_of_ble_eq_true rfl⟩) hK hP hD hS hA hE wp_15 (q0 := 0) (ci := 6) rfl rfl rfl rfl hl.1 rfl (Nat.le_of_ble_eq_true rfl) dX3_step_173 ⟨Nat.zero_le _, Nat.zero_le _⟩ (fun H locs hP hD hS => ?_)
            refine lv_iadd hx hb dX3_step_176 ?_
            refine lv_bipush (v := (48 : Int32)) hx hb dX3_step_177 (by decide) ?_
            refine lv_isub hx hb dX3_step_179 ?_
            refine va_mmin hx hb (hml.trans hl.1.symm) hown (hts (.methodLink RX3 147 Lib.Math.min.name) (by decide +kernel)) (hts (.static Lib.Math.min.name) (by decide +kernel)) (hts (.initialized "java/lang/Math") (by decide +kernel)) (hts (.code Lib.Math.min.name Lib.Math.min.code 2 (some .int)) (by decide +kernel)) (Nat.le_of_ble_eq_true rfl) (Nat.le_of_ble_eq_true rfl) (Nat.zero_le _) (Nat.zero_le _) dX3_step_180 ?_
            refine va_put (D := G) (ci := 3) (v := .int (if ((((10 : Int32) * value_104) + u_19) - (48 : Int32)) < (1000 : Int32) then ((((10 : Int32) * value_104) + u_19) - (48 : Int32)) else (1000 : Int32))) (ty := .int) (C := RX3) (T := TX3) (N := 6) hx hb hts hin_X3 tyX3 tyX3_ok nmX3 hown hK hP hD hS 0 rfl rfl 5 (by decide) fk_21 (fun _ h9 => h9) rfl (tyX3_ok 5 (by decide)) rfl rfl (Nat.le_of_ble_eq_true rfl) dX3_step_183 (fun H locs hP hD hS => ?_)
            have hP : va_P G vwCl (wRD ca ev r0 t0 t1 c0 c1 c2 c3 c4 c5 c6 token_104 place_104 behindIt_104 (if ((((10 : Int32) * value_104) + u_19) - (48 : Int32)) < (1000 : Int32) then ((((10 : Int32) * value_104) + u_19) - (48 : Int32)) else (1000 : Int32)) tbytes_104 tlen_104 bsize bcells ssize scells dsize dcells people rule believed) H := hP
            have hD : va_D A (wRD ca ev r0 t0 t1 c0 c1 c2 c3 c4 c5 c6 token_104 place_104 behindIt_104 (if ((((10 : Int32) * value_104) + u_19) - (48 : Int32)) < (1000 : Int32) then ((((10 : Int32) * value_104) + u_19) - (48 : Int32)) else (1000 : Int32)) tbytes_104 tlen_104 bsize bcells ssize scells dsize dcells people rule believed) := hD
            refine lv_aload_n hx hb dX3_step_186 rfl (lv_at hl 0 rfl) ?_
            refine lv_dup hx hb dX3_step_187 rfl ?_
            refine va_get (D := G) (ci := 3) (v := .int behindIt_104) (C := RX3) (T := TX3) (N := 6) hx hb hts hin_X3 hown hK hP 0 rfl rfl 4 (by decide) fk_18 (fun _ h9 => h9) rfl dX3_step_188 ?_
            refine lv_iconst (v := (1 : Int32)) hx hb dX3_step_191 (by decide) ?_
            refine lv_iadd hx hb dX3_step_192 ?_
            refine va_put (D := G) (ci := 3) (v := .int (behindIt_104 + (1 : Int32))) (ty := .int) (C := RX3) (T := TX3) (N := 6) hx hb hts hin_X3 tyX3 tyX3_ok nmX3 hown hK hP hD hS 0 rfl rfl 4 (by decide) fk_18 (fun _ h9 => h9) rfl (tyX3_ok 4 (by decide)) rfl rfl (Nat.le_of_ble_eq_true rfl) dX3_step_193 (fun H locs hP hD hS => ?_)
            have hP : va_P G vwCl (wRD ca ev r0 t0 t1 c0 c1 c2 c3 c4 c5 c6 token_104 place_104 (behindIt_104 + (1 : Int32)) (if ((((10 : Int32) * value_104) + u_19) - (48 : Int32)) < (1000 : Int32) then ((((10 : Int32) * value_104) + u_19) - (48 : Int32)) else (1000 : Int32)) tbytes_104 tlen_104 bsize bcells ssize scells dsize dcells people rule believed) H := hP
            have hD : va_D A (wRD ca ev r0 t0 t1 c0 c1 c2 c3 c4 c5 c6 token_104 place_104 (behindIt_104 + (1 : Int32)) (if ((((10 : Int32) * value_104) + u_19) - (48 : Int32)) < (1000 : Int32) then ((((10 : Int32) * value_104) + u_19) - (48 : Int32)) else (1000 : Int32)) tbytes_104 tlen_104 bsize bcells ssize scells dsize dcells people rule believed) := hD
            refine lv_goto (tgt := 104) hx hb dX3_step_196 (by decide) ?_
            exact ih h hP hD hS (lv_sub hl [0, 1] rfl) JK_104
          clear eK_13
          refine lv_icmp_eq (tgt := 154) hx hb dX3_step_126 (by decide) (fun c_14 => ?_) (fun c_14 => ?_)
          · have h := ifp c_14 h
            exact J_13 h hP hD hS (lv_sub hl [0, 1] rfl)
          · have h := ifn c_14 h
            refine lv_iload_n hx hb dX3_step_129 rfl (lv_at hl 1 rfl) ?_
            refine lv_if_eq (tgt := 199) hx hb dX3_step_130 (by decide) (fun c_15 => ?_) (fun c_15 => ?_)
            · have h := ifp c_15 h
              obtain rfl := Option.some.inj h
              exact JK_104 hP hD hS (lv_sub hl [] rfl)
            · have h := ifn c_15 h
              refine lv_aload_n hx hb dX3_step_133 rfl (lv_at hl 0 rfl) ?_
              refine va_get (D := G) (ci := 3) (v := .ref t0) (C := RX3) (T := TX3) (N := 6) hx hb hts hin_X3 hown hK hP 0 rfl rfl 0 (by decide) fk_24 (fun _ h9 => h9) rfl dX3_step_134 ?_
              refine lv_aload_n hx hb dX3_step_137 rfl (lv_at hl 0 rfl) ?_
              refine va_get (D := G) (ci := 3) (v := .int behindIt_104) (C := RX3) (T := TX3) (N := 6) hx hb hts hin_X3 hown hK hP 0 rfl rfl 4 (by decide) fk_18 (fun _ h9 => h9) rfl dX3_step_138 ?_
              obtain ⟨u_16, e_16, h⟩ := bd_some h
              refine cl_Vi (As := [.int behindIt_104]) (rest := []) (Wn := (wRD ca ev r0 t0 t1 c0 c1 c2 c3 c4 c5 c6 token_104 place_104 behindIt_104 value_104 tbytes_104 tlen_104 bsize bcells ssize scells dsize dcells people rule believed)) ⟨hx, hb, hml, hown, hts⟩ (c_X6_at (ca := ca) (ev := ev) (t0 := t0) (t1 := t1) (tbytes := tbytes_104) (tlen := tlen_104) e_16) (cwV 1 hts gX3_step_X6_at rfl rfl rfl hd_X6_at ⟨Nat.le_of_ble_eq_true rfl, Nat.le_of_ble_eq_true rfl⟩) hK hP hD hS hA hE wp_15 (q0 := 0) (ci := 6) rfl rfl rfl rfl hl.1 rfl (Nat.le_of_ble_eq_true rfl) dX3_step_141 ⟨Nat.zero_le _, Nat.zero_le _⟩ (fun H locs hP hD hS => ?_)
              obtain ⟨u_17, e_17, h⟩ := bd_some h
              refine cn_Si (As := [.int u_16]) (rest := []) ⟨hx, hb, hml, hown, hts⟩ (c_X3_tokenOf e_17) (va_cwS 1 hts gX3_step_X3_tokenOf rfl rfl rfl hd_X3_tokenOf ⟨Nat.le_of_ble_eq_true rfl, Nat.le_of_ble_eq_true rfl⟩) hK hP hD hS hA hE rfl hl.1 rfl (Nat.le_of_ble_eq_true rfl) dX3_step_144 ⟨Nat.zero_le _, Nat.zero_le _⟩ (fun H locs hP hD hS => ?_)
              refine lv_aload_n hx hb dX3_step_147 rfl (lv_at hl 0 rfl) ?_
              refine va_get (D := G) (ci := 3) (v := .int token_104) (C := RX3) (T := TX3) (N := 6) hx hb hts hin_X3 hown hK hP 0 rfl rfl 2 (by decide) fk_11 (fun _ h9 => h9) rfl dX3_step_148 ?_
              refine lv_icmp_ne (tgt := 199) hx hb dX3_step_151 (by decide) (fun c_18 => ?_) (fun c_18 => ?_)
              · have h := ifn c_18 h
                obtain rfl := Option.some.inj h
                exact JK_104 hP hD hS (lv_sub hl [] rfl)
              · have h := ifp c_18 h
                exact J_13 h hP hD hS (lv_sub hl [0, 1] rfl)
    obtain ⟨u_20, e_20, h⟩ := bd_some h
    refine L_104 _ e_20 hP hD hS (lv_sub hl [1, 0] rfl) ?_
    intro H locs ls hP hD hS hl
    obtain rfl := Option.some.inj h
    exact hRet hP hD hS dX3_step_199
  have h := e_8
  clear e_8
  refine lv_icmp_eq (tgt := 85) hx hb dX3_step_74 (by decide) (fun c_8 => ?_) (fun c_8 => ?_)
  · have h := ifp c_8 h
    refine lv_iconst (v := (1 : Int32)) hx hb dX3_step_85 (by decide) ?_
    refine lv_goto (tgt := 90) hx hb dX3_step_86 (by decide) ?_
    obtain rfl := Option.some.inj h
    exact J_8 hP hD hS (lv_sub hl [0] rfl) zb_1
  · have h := ifn c_8 h
    refine lv_aload_n hx hb dX3_step_77 rfl (lv_at hl 0 rfl) ?_
    refine va_get (D := G) (ci := 3) (v := .int u_7) (C := RX3) (T := TX3) (N := 6) hx hb hts hin_X3 hown hK hP 0 rfl rfl 2 (by decide) fk_11 (fun _ h9 => h9) rfl dX3_step_78 ?_
    refine lv_iconst (v := (2 : Int32)) hx hb dX3_step_81 (by decide) ?_
    refine lv_icmp_ne (tgt := 89) hx hb dX3_step_82 (by decide) (fun c_9 => ?_) (fun c_9 => ?_)
    · have h := ifn c_9 h
      refine lv_iconst (v := (0 : Int32)) hx hb dX3_step_89 (by decide) ?_
      obtain rfl := Option.some.inj h
      exact J_8 hP hD hS (lv_sub hl [0] rfl) zb_0
    · have h := ifp c_9 h
      refine lv_iconst (v := (1 : Int32)) hx hb dX3_step_85 (by decide) ?_
      refine lv_goto (tgt := 90) hx hb dX3_step_86 (by decide) ?_
      obtain rfl := Option.some.inj h
      exact J_8 hP hD hS (lv_sub hl [0] rfl) zb_1
abbrev rm_X3_number : Room := { frames := 2, cells := 0, slots := 0, locals := 44 }
theorem hd_X3_number : yX3_number.cls = RX3 ∧ yX3_number.cls ≠ "java/lang/invoke/MethodHandle" ∧ yX3_number.cls ≠ "java/lang/invoke/VarHandle" ∧ (parseMethodDescriptor yX3_number.desc).map (fun d => d.parameters.length) = some 1 := by decide +kernel
set_option maxHeartbeats 4000000 in
set_option maxRecDepth 100000 in
theorem c_X3_number {l : Launch} {G : va_G} {ca : Nat → ClassId} {ev : Nat → Nat} {r0 t0 t1 c0 c1 c2 c3 c4 c5 c6 : Nat} {token : Int32} {place : Int32} {behindIt : Int32} {value : Int32} {tbytes : (Nat → Int32)} {tlen : Int32} {bsize : Int32} {bcells : (Nat → Int32)} {ssize : Int32} {scells : (Nat → Int32)} {dsize : Int32} {dcells : (Nat → Int32)} {people : Int32} {rule : Int32} {believed : Int32} {a1 : Int32} {N : Nat} {res : Int32 × Int32 × Int32 × Int32 × Int32} (h : f_X3_number N token place behindIt value tbytes tlen a1 = some res) : CtI l yX3_number wsX3_number rm_X3_number G ca ev [.ref r0, .int a1] (wRD ca ev r0 t0 t1 c0 c1 c2 c3 c4 c5 c6 token place behindIt value tbytes tlen bsize bcells ssize scells dsize dcells people rule believed) (wRD ca ev r0 t0 t1 c0 c1 c2 c3 c4 c5 c6 res.2.1 res.2.2.1 res.2.2.2.1 res.2.2.2.2 tbytes tlen bsize bcells ssize scells dsize dcells people rule believed) res.1 := by
  unfold f_X3_number at h
  refine en_i (by decide) rfl (Nat.le_of_ble_eq_true rfl) ?_
  intro p e s m args below meth c A Q H locs ls hx hb hml hown hts hA hP hK hD hE hS hl hRet
  have hown : s.vm.findClass RX3 = some m.cls := hown
  have hl : lv_has ls 3 [(0, .ref r0), (1, .int a1)] := hl
  have hin_X3 : ∀ w ∈ u_ws RX3 TX3 6, w ∈ wsX3_number := fun w h9 => List.mem_cons_of_mem _ (List.mem_append_left _ (List.mem_append_right _ h9))
  have fk_11 := hts (.fieldLink RX3 11 "MaskBows$Reader" "token" "I") (by decide +kernel)
  have fk_21 := hts (.fieldLink RX3 21 "MaskBows$Reader" "value" "I") (by decide +kernel)
  refine lv_aload_n hx hb dX3_number_0 rfl (lv_at hl 0 rfl) ?_
  refine va_get (D := G) (ci := 3) (v := .int token) (C := RX3) (T := TX3) (N := 6) hx hb hts hin_X3 hown hK hP 0 rfl rfl 2 (by decide) fk_11 (fun _ h9 => h9) rfl dX3_number_1 ?_
  refine lv_iconst (v := (2 : Int32)) hx hb dX3_number_4 (by decide) ?_
  refine lv_icmp_ne (tgt := 16) hx hb dX3_number_5 (by decide) (fun c_1 => ?_) (fun c_1 => ?_)
  · have h := ifn c_1 h
    refine lv_iconst (v := (-1 : Int32)) hx hb dX3_number_16 (by decide) ?_
    obtain rfl := Option.some.inj h
    exact hRet hP hD hS dX3_number_17
  · have h := ifp c_1 h
    refine lv_aload_n hx hb dX3_number_8 rfl (lv_at hl 0 rfl) ?_
    refine va_get (D := G) (ci := 3) (v := .int value) (C := RX3) (T := TX3) (N := 6) hx hb hts hin_X3 hown hK hP 0 rfl rfl 5 (by decide) fk_21 (fun _ h9 => h9) rfl dX3_number_9 ?_
    refine lv_iload_n hx hb dX3_number_12 rfl (lv_at hl 1 rfl) ?_
    refine lv_icmp_lt (tgt := 18) hx hb dX3_number_13 (by decide) (fun c_2 => ?_) (fun c_2 => ?_)
    · have h := ifp c_2 h
      refine lv_aload_n hx hb dX3_number_18 rfl (lv_at hl 0 rfl) ?_
      refine va_get (D := G) (ci := 3) (v := .int value) (C := RX3) (T := TX3) (N := 6) hx hb hts hin_X3 hown hK hP 0 rfl rfl 5 (by decide) fk_21 (fun _ h9 => h9) rfl dX3_number_19 ?_
      refine lv_istore_n (lv' := [(2, .int value), (0, .ref r0), (1, .int a1)]) hx hb dX3_number_22 rfl hl (by decide) rfl (fun ls hl => ?_)
      refine lv_aload_n hx hb dX3_number_23 rfl (lv_at hl 1 rfl) ?_
      obtain ⟨u_3, e_3, h⟩ := bd_some h
      refine cm_Vv (As := []) (rest := []) ⟨hx, hb, hml, hown, hts⟩ (c_X3_step (ca := ca) (ev := ev) (r0 := r0) (t0 := t0) (t1 := t1) (c0 := c0) (c1 := c1) (c2 := c2) (c3 := c3) (c4 := c4) (c5 := c5) (c6 := c6) (token := token) (place := place) (behindIt := behindIt) (value := value) (tbytes := tbytes) (tlen := tlen) (bsize := bsize) (bcells := bcells) (ssize := ssize) (scells := scells) (dsize := dsize) (dcells := dcells) (people := people) (rule := rule) (believed := believed) e_3) (cwV 0 hts gX3_number_X3_step rfl rfl rfl hd_X3_step ⟨Nat.le_of_ble_eq_true rfl, Nat.le_of_ble_eq_true rfl⟩) hK hP hD hS hA hE (q0 := 0) (ci := 3) rfl rfl rfl rfl hl.1 rfl (Nat.le_of_ble_eq_true rfl) dX3_number_24 ⟨Nat.zero_le _, Nat.zero_le _⟩ (fun H locs hP hD hS => ?_)
      refine lv_iload_n hx hb dX3_number_27 rfl (lv_at hl 0 rfl) ?_
      obtain rfl := Option.some.inj h
      exact hRet hP hD hS dX3_number_28
    · have h := ifn c_2 h
      refine lv_iconst (v := (-1 : Int32)) hx hb dX3_number_16 (by decide) ?_
      obtain rfl := Option.some.inj h
      exact hRet hP hD hS dX3_number_17
abbrev rm_X3_bowItem : Room := { frames := 5, cells := 0, slots := 0, locals := 107 }
theorem hd_X3_bowItem : yX3_bowItem.cls = RX3 ∧ yX3_bowItem.cls ≠ "java/lang/invoke/MethodHandle" ∧ yX3_bowItem.cls ≠ "java/lang/invoke/VarHandle" ∧ (parseMethodDescriptor yX3_bowItem.desc).map (fun d => d.parameters.length) = some 0 := by decide +kernel
set_option maxHeartbeats 4000000 in
set_option maxRecDepth 100000 in
theorem c_X3_bowItem {l : Launch} {G : va_G} {ca : Nat → ClassId} {ev : Nat → Nat} {r0 t0 t1 c0 c1 c2 c3 c4 c5 c6 : Nat} {token : Int32} {place : Int32} {behindIt : Int32} {value : Int32} {tbytes : (Nat → Int32)} {tlen : Int32} {bsize : Int32} {bcells : (Nat → Int32)} {ssize : Int32} {scells : (Nat → Int32)} {dsize : Int32} {dcells : (Nat → Int32)} {people : Int32} {rule : Int32} {believed : Int32}  {N : Nat} {res : Int32 × Int32 × Int32 × Int32 × Int32 × Int32 × (Nat → Int32)} (h : f_X3_bowItem N token place behindIt value tbytes tlen bsize bcells people = some res) : CtI l yX3_bowItem wsX3_bowItem rm_X3_bowItem G ca ev [.ref r0] (wRD ca ev r0 t0 t1 c0 c1 c2 c3 c4 c5 c6 token place behindIt value tbytes tlen bsize bcells ssize scells dsize dcells people rule believed) (wRD ca ev r0 t0 t1 c0 c1 c2 c3 c4 c5 c6 res.2.1 res.2.2.1 res.2.2.2.1 res.2.2.2.2.1 tbytes tlen res.2.2.2.2.2.1 res.2.2.2.2.2.2 ssize scells dsize dcells people rule believed) res.1 := by
  unfold f_X3_bowItem at h
  refine en_z (by decide) rfl (Nat.le_of_ble_eq_true rfl) ?_
  intro p e s m args below meth c A Q H locs ls hx hb hml hown hts hA hP hK hD hE hS hl hRet
  have hown : s.vm.findClass RX3 = some m.cls := hown
  have hl : lv_has ls 5 [(0, .ref r0)] := hl
  have hin_X0 : ∀ w ∈ u_ws RX0 TX0 6, w ∈ wsX3_bowItem := fun w h9 => List.mem_cons_of_mem _ (List.mem_append_left _ (List.mem_append_left _ (List.mem_append_right _ h9)))
  have hin_X3 : ∀ w ∈ u_ws RX3 TX3 6, w ∈ wsX3_bowItem := fun w h9 => List.mem_cons_of_mem _ (List.mem_append_left _ (List.mem_append_left _ (List.mem_append_left _ (List.mem_append_right _ h9))))
  have fk_28 := hts (.fieldLink RX3 28 "MaskBows$Reader" "draft" "LMaskBows$Carnival;") (by decide +kernel)
  have fk_68 := va_Nw.use (A := args) rfl (hE.1 ("MaskBows$Reader", 68, "MaskBows$Carnival", "bows", "LMaskBows$Rows;", "MaskBows") (by decide +kernel))
  have fk_83 := va_Nw.use (A := args) rfl (hE.1 ("MaskBows$Reader", 83, "MaskBows$Carnival", "people", "I", "MaskBows") (by decide +kernel))
  refine lv_aload_n hx hb dX3_bowItem_0 rfl (lv_at hl 0 rfl) ?_
  refine va_get (D := G) (ci := 3) (v := .ref c0) (C := RX3) (T := TX3) (N := 6) hx hb hts hin_X3 hown hK hP 0 rfl rfl 1 (by decide) fk_28 (fun _ h9 => h9) rfl dX3_bowItem_1 ?_
  refine va_getN (D := G) (ci := 0) (v := .ref c1) (C := RX0) (T := TX0) (N := 6) hx hb hts hin_X0 hown hK hP 3 rfl rfl 0 (by decide) fk_68 (fun _ h9 => h9) rfl dX3_bowItem_4 ?_
  obtain ⟨u_1, e_1, h⟩ := bd_some h
  refine cl_Vi (As := []) (rest := []) (Wn := (wRD ca ev r0 t0 t1 c0 c1 c2 c3 c4 c5 c6 token place behindIt value tbytes tlen bsize bcells ssize scells dsize dcells people rule believed)) ⟨hx, hb, hml, hown, hts⟩ (c_X4_isFull (ca := ca) (ev := ev) (r0 := c1) (r1 := c2) (limit := (20 : Int32)) (width := (4 : Int32)) (size := bsize) (cells := bcells) (nc := 80) e_1) (cwV 0 hts gX3_bowItem_X4_isFull rfl rfl rfl hd_X4_isFull ⟨Nat.le_of_ble_eq_true rfl, Nat.le_of_ble_eq_true rfl⟩) hK hP hD hS hA hE wp_16 (q0 := 0) (ci := 4) rfl rfl rfl rfl hl.1 rfl (Nat.le_of_ble_eq_true rfl) dX3_bowItem_7 ⟨Nat.zero_le _, Nat.zero_le _⟩ (fun H locs hP hD hS => ?_)
  refine lv_if_eq (tgt := 15) hx hb dX3_bowItem_10 (by decide) (fun c_2 => ?_) (fun c_2 => ?_)
  · have h := ifp c_2 h
    refine lv_aload_n hx hb dX3_bowItem_15 rfl (lv_at hl 0 rfl) ?_
    obtain ⟨u_3, e_3, h⟩ := bd_some h
    refine cm_Vv (As := []) (rest := []) ⟨hx, hb, hml, hown, hts⟩ (c_X3_step (ca := ca) (ev := ev) (r0 := r0) (t0 := t0) (t1 := t1) (c0 := c0) (c1 := c1) (c2 := c2) (c3 := c3) (c4 := c4) (c5 := c5) (c6 := c6) (token := token) (place := place) (behindIt := behindIt) (value := value) (tbytes := tbytes) (tlen := tlen) (bsize := bsize) (bcells := bcells) (ssize := ssize) (scells := scells) (dsize := dsize) (dcells := dcells) (people := people) (rule := rule) (believed := believed) e_3) (cwV 0 hts gX3_bowItem_X3_step rfl rfl rfl hd_X3_step ⟨Nat.le_of_ble_eq_true rfl, Nat.le_of_ble_eq_true rfl⟩) hK hP hD hS hA hE (q0 := 0) (ci := 3) rfl rfl rfl rfl hl.1 rfl (Nat.le_of_ble_eq_true rfl) dX3_bowItem_16 ⟨Nat.zero_le _, Nat.zero_le _⟩ (fun H locs hP hD hS => ?_)
    refine lv_aload_n hx hb dX3_bowItem_19 rfl (lv_at hl 0 rfl) ?_
    refine lv_bipush (v := (100 : Int32)) hx hb dX3_bowItem_20 (by decide) ?_
    obtain ⟨u_4, e_4, h⟩ := bd_some h
    refine cm_Vi (As := [.int (100 : Int32)]) (rest := []) ⟨hx, hb, hml, hown, hts⟩ (c_X3_number (ca := ca) (ev := ev) (r0 := r0) (t0 := t0) (t1 := t1) (c0 := c0) (c1 := c1) (c2 := c2) (c3 := c3) (c4 := c4) (c5 := c5) (c6 := c6) (token := u_3.1) (place := u_3.2.1) (behindIt := u_3.2.2.1) (value := u_3.2.2.2) (tbytes := tbytes) (tlen := tlen) (bsize := bsize) (bcells := bcells) (ssize := ssize) (scells := scells) (dsize := dsize) (dcells := dcells) (people := people) (rule := rule) (believed := believed) e_4) (cwV 1 hts gX3_bowItem_X3_number rfl rfl rfl hd_X3_number ⟨Nat.le_of_ble_eq_true rfl, Nat.le_of_ble_eq_true rfl⟩) hK hP hD hS hA hE (q0 := 0) (ci := 3) rfl rfl rfl rfl hl.1 rfl (Nat.le_of_ble_eq_true rfl) dX3_bowItem_22 ⟨Nat.zero_le _, Nat.zero_le _⟩ (fun H locs hP hD hS => ?_)
    refine lv_istore_n (lv' := [(1, .int u_4.1), (0, .ref r0)]) hx hb dX3_bowItem_25 rfl hl (by decide) rfl (fun ls hl => ?_)
    refine lv_iload_n hx hb dX3_bowItem_26 rfl (lv_at hl 0 rfl) ?_
    refine lv_iconst (v := (-1 : Int32)) hx hb dX3_bowItem_27 (by decide) ?_
    obtain ⟨u_5, e_5, h⟩ := bd_some h
    have J_5 : ∀ {H : Heap} {locs : List Loc} {ls : Array Slot}, va_P G vwCl (wRD ca ev r0 t0 t1 c0 c1 c2 c3 c4 c5 c6 u_5.2.1 u_5.2.2.1 u_5.2.2.2.1 u_5.2.2.2.2 tbytes tlen bsize bcells ssize scells dsize dcells people rule believed) H → va_D A (wRD ca ev r0 t0 t1 c0 c1 c2 c3 c4 c5 c6 u_5.2.1 u_5.2.2.1 u_5.2.2.2.1 u_5.2.2.2.2 tbytes tlen bsize bcells ssize scells dsize dcells people rule believed) → va_S A s.heap H locs → lv_has ls 5 [(0, .ref r0), (1, .int u_4.1)] → W p l e rm_X3_bowItem s m args below meth c H locs 0 0 Q (F0 m 46 ls [.int u_5.1]) := by
      intro H locs ls hP hD hS hl 
      refine lv_istore_n (lv' := [(2, .int u_5.1), (0, .ref r0), (1, .int u_4.1)]) hx hb dX3_bowItem_46 rfl hl (by decide) rfl (fun ls hl => ?_)
      refine lv_iload_n hx hb dX3_bowItem_47 rfl (lv_at hl 0 rfl) ?_
      refine lv_iconst (v := (-1 : Int32)) hx hb dX3_bowItem_48 (by decide) ?_
      obtain ⟨u_7, e_7, h⟩ := bd_some h
      have J_7 : ∀ {H : Heap} {locs : List Loc} {ls : Array Slot}, va_P G vwCl (wRD ca ev r0 t0 t1 c0 c1 c2 c3 c4 c5 c6 u_7.2.1 u_7.2.2.1 u_7.2.2.2.1 u_7.2.2.2.2 tbytes tlen bsize bcells ssize scells dsize dcells people rule believed) H → va_D A (wRD ca ev r0 t0 t1 c0 c1 c2 c3 c4 c5 c6 u_7.2.1 u_7.2.2.1 u_7.2.2.2.1 u_7.2.2.2.2 tbytes tlen bsize bcells ssize scells dsize dcells people rule believed) → va_S A s.heap H locs → lv_has ls 5 [(0, .ref r0), (1, .int u_4.1), (2, .int u_5.1)] → W p l e rm_X3_bowItem s m args below meth c H locs 0 0 Q (F0 m 75 ls [.int u_7.1]) := by
        intro H locs ls hP hD hS hl 
        refine lv_istore_n (lv' := [(3, .int u_7.1), (0, .ref r0), (1, .int u_4.1), (2, .int u_5.1)]) hx hb dX3_bowItem_75 rfl hl (by decide) rfl (fun ls hl => ?_)
        refine lv_iload_n hx hb dX3_bowItem_76 rfl (lv_at hl 0 rfl) ?_
        refine lv_iconst (v := (-1 : Int32)) hx hb dX3_bowItem_77 (by decide) ?_
        refine lv_icmp_ne (tgt := 83) hx hb dX3_bowItem_78 (by decide) (fun c_11 => ?_) (fun c_11 => ?_)
        · have h := ifn c_11 h
          refine lv_bipush (v := (10 : Int32)) hx hb dX3_bowItem_83 (by decide) ?_
          refine lv_istore (lv' := [(4, .int (10 : Int32)), (3, .int u_7.1), (0, .ref r0), (1, .int u_4.1), (2, .int u_5.1)]) hx hb dX3_bowItem_85 hl (by decide) rfl (fun ls hl => ?_)
          refine lv_aload_n hx hb dX3_bowItem_87 rfl (lv_at hl 2 rfl) ?_
          refine va_ldcS hx hb hown (hE.2.2.2.1 ("MaskBows$Reader", 89, "doubt", 1) (by decide +kernel)) dX3_bowItem_88 ?_
          obtain ⟨u_12, e_12, h⟩ := bd_some h
          refine cm_Vi (As := [.ref (ev (1 + 2 * 1))]) (rest := []) ⟨hx, hb, hml, hown, hts⟩ (c_X3_isWord (ca := ca) (ev := ev) (r0 := r0) (t0 := t0) (t1 := t1) (c0 := c0) (c1 := c1) (c2 := c2) (c3 := c3) (c4 := c4) (c5 := c5) (c6 := c6) (token := u_7.2.1) (place := u_7.2.2.1) (behindIt := u_7.2.2.2.1) (value := u_7.2.2.2.2) (tbytes := tbytes) (tlen := tlen) (bsize := bsize) (bcells := bcells) (ssize := ssize) (scells := scells) (dsize := dsize) (dcells := dcells) (people := people) (rule := rule) (believed := believed) (by decide) e_12) (cwV 1 hts gX3_bowItem_X3_isWord rfl rfl rfl hd_X3_isWord ⟨Nat.le_of_ble_eq_true rfl, Nat.le_of_ble_eq_true rfl⟩) hK hP hD hS hA hE (q0 := 0) (ci := 3) rfl rfl rfl rfl hl.1 rfl (Nat.le_of_ble_eq_true rfl) dX3_bowItem_90 ⟨Nat.zero_le _, Nat.zero_le _⟩ (fun H locs hP hD hS => ?_)
          obtain ⟨K_14, eK_14, h⟩ := jn_some h
          have J_14 : ∀ {u_14 : Int32 × Int32 × Int32 × Int32 × Int32} {H : Heap} {locs : List Loc} {ls : Array Slot}, K_14 u_14 = some res → va_P G vwCl (wRD ca ev r0 t0 t1 c0 c1 c2 c3 c4 c5 c6 u_14.2.1 u_14.2.2.1 u_14.2.2.2.1 u_14.2.2.2.2 tbytes tlen bsize bcells ssize scells dsize dcells people rule believed) H → va_D A (wRD ca ev r0 t0 t1 c0 c1 c2 c3 c4 c5 c6 u_14.2.1 u_14.2.2.1 u_14.2.2.2.1 u_14.2.2.2.2 tbytes tlen bsize bcells ssize scells dsize dcells people rule believed) → va_S A s.heap H locs → lv_has ls 5 [(0, .ref r0), (1, .int u_4.1), (2, .int u_5.1), (3, .int u_7.1), (4, .int u_14.1)] → W p l e rm_X3_bowItem s m args below meth c H locs 0 0 Q (F0 m 120 ls []) := by
            intro u_14 H locs ls h hP hD hS hl
            rw [eK_14] at h
            refine lv_iload hx hb dX3_bowItem_120 (lv_at hl 4 rfl) ?_
            refine lv_iconst (v := (-1 : Int32)) hx hb dX3_bowItem_122 (by decide) ?_
            refine lv_icmp_eq (tgt := 149) hx hb dX3_bowItem_123 (by decide) (fun c_20 => ?_) (fun c_20 => ?_)
            · have h := ifp c_20 h
              refine lv_iconst (v := (0 : Int32)) hx hb dX3_bowItem_149 (by decide) ?_
              obtain rfl := Option.some.inj h
              exact hRet hP hD hS zb_0 dX3_bowItem_150
            · have h := ifn c_20 h
              refine lv_aload_n hx hb dX3_bowItem_126 rfl (lv_at hl 0 rfl) ?_
              refine va_get (D := G) (ci := 3) (v := .ref c0) (C := RX3) (T := TX3) (N := 6) hx hb hts hin_X3 hown hK hP 0 rfl rfl 1 (by decide) fk_28 (fun _ h9 => h9) rfl dX3_bowItem_127 ?_
              refine va_getN (D := G) (ci := 0) (v := .ref c1) (C := RX0) (T := TX0) (N := 6) hx hb hts hin_X0 hown hK hP 3 rfl rfl 0 (by decide) fk_68 (fun _ h9 => h9) rfl dX3_bowItem_130 ?_
              refine lv_iload_n hx hb dX3_bowItem_133 rfl (lv_at hl 1 rfl) ?_
              refine lv_iload_n hx hb dX3_bowItem_134 rfl (lv_at hl 2 rfl) ?_
              refine lv_iload_n hx hb dX3_bowItem_135 rfl (lv_at hl 3 rfl) ?_
              refine lv_iload hx hb dX3_bowItem_136 (lv_at hl 4 rfl) ?_
              obtain ⟨u_21, e_21, h⟩ := bd_some h
              refine cl_Vi (As := [.int u_4.1, .int u_5.1, .int u_7.1, .int u_14.1]) (rest := []) (Wn := (wRD ca ev r0 t0 t1 c0 c1 c2 c3 c4 c5 c6 u_14.2.1 u_14.2.2.1 u_14.2.2.2.1 u_14.2.2.2.2 tbytes tlen u_21.2.1 u_21.2.2 ssize scells dsize dcells people rule believed)) ⟨hx, hb, hml, hown, hts⟩ (c_X4_add (ca := ca) (ev := ev) (r0 := c1) (r1 := c2) (limit := (20 : Int32)) (width := (4 : Int32)) (size := bsize) (cells := bcells) (nc := 80) e_21) (cwV 4 hts gX3_bowItem_X4_add rfl rfl rfl hd_X4_add ⟨Nat.le_of_ble_eq_true rfl, Nat.le_of_ble_eq_true rfl⟩) hK hP hD hS hA hE wp_16 (q0 := 0) (ci := 4) rfl rfl rfl rfl hl.1 rfl (Nat.le_of_ble_eq_true rfl) dX3_bowItem_138 ⟨Nat.zero_le _, Nat.zero_le _⟩ (fun H locs hP hD hS => ?_)
              refine lv_iconst (v := (-1 : Int32)) hx hb dX3_bowItem_141 (by decide) ?_
              refine lv_icmp_eq (tgt := 149) hx hb dX3_bowItem_142 (by decide) (fun c_22 => ?_) (fun c_22 => ?_)
              · have h := ifp c_22 h
                refine lv_iconst (v := (0 : Int32)) hx hb dX3_bowItem_149 (by decide) ?_
                obtain rfl := Option.some.inj h
                exact hRet hP hD hS zb_0 dX3_bowItem_150
              · have h := ifn c_22 h
                refine lv_iconst (v := (1 : Int32)) hx hb dX3_bowItem_145 (by decide) ?_
                refine lv_goto (tgt := 150) hx hb dX3_bowItem_146 (by decide) ?_
                obtain rfl := Option.some.inj h
                exact hRet hP hD hS zb_1 dX3_bowItem_150
          clear eK_14
          refine lv_if_eq (tgt := 120) hx hb dX3_bowItem_93 (by decide) (fun c_15 => ?_) (fun c_15 => ?_)
          · have h := ifp c_15 h
            exact J_14 h hP hD hS (lv_sub hl [2, 3, 4, 1, 0] rfl)
          · have h := ifn c_15 h
            refine lv_aload_n hx hb dX3_bowItem_96 rfl (lv_at hl 2 rfl) ?_
            refine va_get (D := G) (ci := 3) (v := .ref c0) (C := RX3) (T := TX3) (N := 6) hx hb hts hin_X3 hown hK hP 0 rfl rfl 1 (by decide) fk_28 (fun _ h9 => h9) rfl dX3_bowItem_97 ?_
            obtain ⟨u_16, e_16, h⟩ := bd_some h
            refine cl_Vi (As := []) (rest := []) (Wn := (wRD ca ev r0 t0 t1 c0 c1 c2 c3 c4 c5 c6 u_7.2.1 u_7.2.2.1 u_7.2.2.2.1 u_7.2.2.2.2 tbytes tlen bsize bcells ssize scells dsize dcells people rule believed)) ⟨hx, hb, hml, hown, hts⟩ (c_X0_hasRoomForDoubt (ca := ca) (ev := ev) (c0 := c0) (c1 := c1) (c2 := c2) (c3 := c3) (c4 := c4) (c5 := c5) (c6 := c6) (bsize := bsize) (bcells := bcells) (ssize := ssize) (scells := scells) (dsize := dsize) (dcells := dcells) (people := people) (rule := rule) (believed := believed) e_16) (cwV 0 hts gX3_bowItem_X0_hasRoomForDoubt rfl rfl rfl hd_X0_hasRoomForDoubt ⟨Nat.le_of_ble_eq_true rfl, Nat.le_of_ble_eq_true rfl⟩) hK hP hD hS hA hE wp_17 (q0 := 0) (ci := 0) rfl rfl rfl rfl hl.1 rfl (Nat.le_of_ble_eq_true rfl) dX3_bowItem_100 ⟨Nat.zero_le _, Nat.zero_le _⟩ (fun H locs hP hD hS => ?_)
            refine lv_if_ne (tgt := 108) hx hb dX3_bowItem_103 (by decide) (fun c_17 => ?_) (fun c_17 => ?_)
            · have h := ifn c_17 h
              refine lv_aload_n hx hb dX3_bowItem_108 rfl (lv_at hl 2 rfl) ?_
              obtain ⟨u_18, e_18, h⟩ := bd_some h
              refine cm_Vv (As := []) (rest := []) ⟨hx, hb, hml, hown, hts⟩ (c_X3_step (ca := ca) (ev := ev) (r0 := r0) (t0 := t0) (t1 := t1) (c0 := c0) (c1 := c1) (c2 := c2) (c3 := c3) (c4 := c4) (c5 := c5) (c6 := c6) (token := u_7.2.1) (place := u_7.2.2.1) (behindIt := u_7.2.2.2.1) (value := u_7.2.2.2.2) (tbytes := tbytes) (tlen := tlen) (bsize := bsize) (bcells := bcells) (ssize := ssize) (scells := scells) (dsize := dsize) (dcells := dcells) (people := people) (rule := rule) (believed := believed) e_18) (cwV 0 hts gX3_bowItem_X3_step rfl rfl rfl hd_X3_step ⟨Nat.le_of_ble_eq_true rfl, Nat.le_of_ble_eq_true rfl⟩) hK hP hD hS hA hE (q0 := 0) (ci := 3) rfl rfl rfl rfl hl.1 rfl (Nat.le_of_ble_eq_true rfl) dX3_bowItem_109 ⟨Nat.zero_le _, Nat.zero_le _⟩ (fun H locs hP hD hS => ?_)
              refine lv_aload_n hx hb dX3_bowItem_112 rfl (lv_at hl 2 rfl) ?_
              refine lv_bipush (v := (10 : Int32)) hx hb dX3_bowItem_113 (by decide) ?_
              obtain ⟨u_19, e_19, h⟩ := bd_some h
              refine cm_Vi (As := [.int (10 : Int32)]) (rest := []) ⟨hx, hb, hml, hown, hts⟩ (c_X3_number (ca := ca) (ev := ev) (r0 := r0) (t0 := t0) (t1 := t1) (c0 := c0) (c1 := c1) (c2 := c2) (c3 := c3) (c4 := c4) (c5 := c5) (c6 := c6) (token := u_18.1) (place := u_18.2.1) (behindIt := u_18.2.2.1) (value := u_18.2.2.2) (tbytes := tbytes) (tlen := tlen) (bsize := bsize) (bcells := bcells) (ssize := ssize) (scells := scells) (dsize := dsize) (dcells := dcells) (people := people) (rule := rule) (believed := believed) e_19) (cwV 1 hts gX3_bowItem_X3_number rfl rfl rfl hd_X3_number ⟨Nat.le_of_ble_eq_true rfl, Nat.le_of_ble_eq_true rfl⟩) hK hP hD hS hA hE (q0 := 0) (ci := 3) rfl rfl rfl rfl hl.1 rfl (Nat.le_of_ble_eq_true rfl) dX3_bowItem_115 ⟨Nat.zero_le _, Nat.zero_le _⟩ (fun H locs hP hD hS => ?_)
              refine lv_istore (lv' := [(4, .int u_19.1), (3, .int u_7.1), (0, .ref r0), (1, .int u_4.1), (2, .int u_5.1)]) hx hb dX3_bowItem_118 hl (by decide) rfl (fun ls hl => ?_)
              exact J_14 h hP hD hS (lv_sub hl [2, 3, 4, 1, 0] rfl)
            · have h := ifp c_17 h
              refine lv_iconst (v := (0 : Int32)) hx hb dX3_bowItem_106 (by decide) ?_
              obtain rfl := Option.some.inj h
              exact hRet hP hD hS zb_0 dX3_bowItem_107
        · have h := ifp c_11 h
          refine lv_iconst (v := (0 : Int32)) hx hb dX3_bowItem_81 (by decide) ?_
          obtain rfl := Option.some.inj h
          exact hRet hP hD hS zb_0 dX3_bowItem_82
      have h := e_7
      clear e_7
      refine lv_icmp_eq (tgt := 60) hx hb dX3_bowItem_49 (by decide) (fun c_7 => ?_) (fun c_7 => ?_)
      · have h := ifp c_7 h
        refine lv_iconst (v := (-1 : Int32)) hx hb dX3_bowItem_60 (by decide) ?_
        refine lv_goto (tgt := 75) hx hb dX3_bowItem_61 (by decide) ?_
        obtain rfl := Option.some.inj h
        exact J_7 hP hD hS (lv_sub hl [1, 2, 0] rfl)
      · have h := ifn c_7 h
        refine lv_aload_n hx hb dX3_bowItem_52 rfl (lv_at hl 1 rfl) ?_
        refine lv_iload_n hx hb dX3_bowItem_53 rfl (lv_at hl 0 rfl) ?_
        obtain ⟨u_8, e_8, h⟩ := bd_some h
        refine cm_Vi (As := [.int u_5.1]) (rest := []) ⟨hx, hb, hml, hown, hts⟩ (c_X3_isNumber (ca := ca) (ev := ev) (r0 := r0) (t0 := t0) (t1 := t1) (c0 := c0) (c1 := c1) (c2 := c2) (c3 := c3) (c4 := c4) (c5 := c5) (c6 := c6) (token := u_5.2.1) (place := u_5.2.2.1) (behindIt := u_5.2.2.2.1) (value := u_5.2.2.2.2) (tbytes := tbytes) (tlen := tlen) (bsize := bsize) (bcells := bcells) (ssize := ssize) (scells := scells) (dsize := dsize) (dcells := dcells) (people := people) (rule := rule) (believed := believed) e_8) (cwV 1 hts gX3_bowItem_X3_isNumber rfl rfl rfl hd_X3_isNumber ⟨Nat.le_of_ble_eq_true rfl, Nat.le_of_ble_eq_true rfl⟩) hK hP hD hS hA hE (q0 := 0) (ci := 3) rfl rfl rfl rfl hl.1 rfl (Nat.le_of_ble_eq_true rfl) dX3_bowItem_54 ⟨Nat.zero_le _, Nat.zero_le _⟩ (fun H locs hP hD hS => ?_)
        refine lv_if_eq (tgt := 64) hx hb dX3_bowItem_57 (by decide) (fun c_9 => ?_) (fun c_9 => ?_)
        · have h := ifp c_9 h
          refine lv_aload_n hx hb dX3_bowItem_64 rfl (lv_at hl 1 rfl) ?_
          refine lv_aload_n hx hb dX3_bowItem_65 rfl (lv_at hl 1 rfl) ?_
          refine va_get (D := G) (ci := 3) (v := .ref c0) (C := RX3) (T := TX3) (N := 6) hx hb hts hin_X3 hown hK hP 0 rfl rfl 1 (by decide) fk_28 (fun _ h9 => h9) rfl dX3_bowItem_66 ?_
          refine va_getN (D := G) (ci := 0) (v := .int people) (C := RX0) (T := TX0) (N := 6) hx hb hts hin_X0 hown hK hP 3 rfl rfl 3 (by decide) fk_83 (fun _ h9 => h9) rfl dX3_bowItem_69 ?_
          obtain ⟨u_10, e_10, h⟩ := bd_some h
          refine cm_Vi (As := [.int people]) (rest := []) ⟨hx, hb, hml, hown, hts⟩ (c_X3_number (ca := ca) (ev := ev) (r0 := r0) (t0 := t0) (t1 := t1) (c0 := c0) (c1 := c1) (c2 := c2) (c3 := c3) (c4 := c4) (c5 := c5) (c6 := c6) (token := u_5.2.1) (place := u_5.2.2.1) (behindIt := u_5.2.2.2.1) (value := u_5.2.2.2.2) (tbytes := tbytes) (tlen := tlen) (bsize := bsize) (bcells := bcells) (ssize := ssize) (scells := scells) (dsize := dsize) (dcells := dcells) (people := people) (rule := rule) (believed := believed) e_10) (cwV 1 hts gX3_bowItem_X3_number rfl rfl rfl hd_X3_number ⟨Nat.le_of_ble_eq_true rfl, Nat.le_of_ble_eq_true rfl⟩) hK hP hD hS hA hE (q0 := 0) (ci := 3) rfl rfl rfl rfl hl.1 rfl (Nat.le_of_ble_eq_true rfl) dX3_bowItem_72 ⟨Nat.zero_le _, Nat.zero_le _⟩ (fun H locs hP hD hS => ?_)
          obtain rfl := Option.some.inj h
          exact J_7 hP hD hS (lv_sub hl [1, 2, 0] rfl)
        · have h := ifn c_9 h
          refine lv_iconst (v := (-1 : Int32)) hx hb dX3_bowItem_60 (by decide) ?_
          refine lv_goto (tgt := 75) hx hb dX3_bowItem_61 (by decide) ?_
          obtain rfl := Option.some.inj h
          exact J_7 hP hD hS (lv_sub hl [1, 2, 0] rfl)
    have h := e_5
    clear e_5
    refine lv_icmp_ne (tgt := 35) hx hb dX3_bowItem_28 (by decide) (fun c_5 => ?_) (fun c_5 => ?_)
    · have h := ifn c_5 h
      refine lv_aload_n hx hb dX3_bowItem_35 rfl (lv_at hl 1 rfl) ?_
      refine lv_aload_n hx hb dX3_bowItem_36 rfl (lv_at hl 1 rfl) ?_
      refine va_get (D := G) (ci := 3) (v := .ref c0) (C := RX3) (T := TX3) (N := 6) hx hb hts hin_X3 hown hK hP 0 rfl rfl 1 (by decide) fk_28 (fun _ h9 => h9) rfl dX3_bowItem_37 ?_
      refine va_getN (D := G) (ci := 0) (v := .int people) (C := RX0) (T := TX0) (N := 6) hx hb hts hin_X0 hown hK hP 3 rfl rfl 3 (by decide) fk_83 (fun _ h9 => h9) rfl dX3_bowItem_40 ?_
      obtain ⟨u_6, e_6, h⟩ := bd_some h
      refine cm_Vi (As := [.int people]) (rest := []) ⟨hx, hb, hml, hown, hts⟩ (c_X3_number (ca := ca) (ev := ev) (r0 := r0) (t0 := t0) (t1 := t1) (c0 := c0) (c1 := c1) (c2 := c2) (c3 := c3) (c4 := c4) (c5 := c5) (c6 := c6) (token := u_4.2.1) (place := u_4.2.2.1) (behindIt := u_4.2.2.2.1) (value := u_4.2.2.2.2) (tbytes := tbytes) (tlen := tlen) (bsize := bsize) (bcells := bcells) (ssize := ssize) (scells := scells) (dsize := dsize) (dcells := dcells) (people := people) (rule := rule) (believed := believed) e_6) (cwV 1 hts gX3_bowItem_X3_number rfl rfl rfl hd_X3_number ⟨Nat.le_of_ble_eq_true rfl, Nat.le_of_ble_eq_true rfl⟩) hK hP hD hS hA hE (q0 := 0) (ci := 3) rfl rfl rfl rfl hl.1 rfl (Nat.le_of_ble_eq_true rfl) dX3_bowItem_43 ⟨Nat.zero_le _, Nat.zero_le _⟩ (fun H locs hP hD hS => ?_)
      obtain rfl := Option.some.inj h
      exact J_5 hP hD hS (lv_sub hl [1, 0] rfl)
    · have h := ifp c_5 h
      refine lv_iconst (v := (-1 : Int32)) hx hb dX3_bowItem_31 (by decide) ?_
      refine lv_goto (tgt := 46) hx hb dX3_bowItem_32 (by decide) ?_
      obtain rfl := Option.some.inj h
      exact J_5 hP hD hS (lv_sub hl [1, 0] rfl)
  · have h := ifn c_2 h
    refine lv_iconst (v := (0 : Int32)) hx hb dX3_bowItem_13 (by decide) ?_
    obtain rfl := Option.some.inj h
    exact hRet hP hD hS zb_0 dX3_bowItem_14
abbrev rm_X3_deedItem : Room := { frames := 5, cells := 0, slots := 0, locals := 107 }
theorem hd_X3_deedItem : yX3_deedItem.cls = RX3 ∧ yX3_deedItem.cls ≠ "java/lang/invoke/MethodHandle" ∧ yX3_deedItem.cls ≠ "java/lang/invoke/VarHandle" ∧ (parseMethodDescriptor yX3_deedItem.desc).map (fun d => d.parameters.length) = some 1 := by decide +kernel
set_option maxHeartbeats 4000000 in
set_option maxRecDepth 100000 in
theorem c_X3_deedItem {l : Launch} {G : va_G} {ca : Nat → ClassId} {ev : Nat → Nat} {r0 t0 t1 c0 c1 c2 c3 c4 c5 c6 : Nat} {token : Int32} {place : Int32} {behindIt : Int32} {value : Int32} {tbytes : (Nat → Int32)} {tlen : Int32} {bsize : Int32} {bcells : (Nat → Int32)} {ssize : Int32} {scells : (Nat → Int32)} {dsize : Int32} {dcells : (Nat → Int32)} {people : Int32} {rule : Int32} {believed : Int32} {a1 : Int32} {N : Nat} {res : Int32 × Int32 × Int32 × Int32 × Int32 × Int32 × (Nat → Int32)} (h : f_X3_deedItem N token place behindIt value tbytes tlen dsize dcells people a1 = some res) : CtI l yX3_deedItem wsX3_deedItem rm_X3_deedItem G ca ev [.ref r0, .int a1] (wRD ca ev r0 t0 t1 c0 c1 c2 c3 c4 c5 c6 token place behindIt value tbytes tlen bsize bcells ssize scells dsize dcells people rule believed) (wRD ca ev r0 t0 t1 c0 c1 c2 c3 c4 c5 c6 res.2.1 res.2.2.1 res.2.2.2.1 res.2.2.2.2.1 tbytes tlen bsize bcells ssize scells res.2.2.2.2.2.1 res.2.2.2.2.2.2 people rule believed) res.1 := by
  unfold f_X3_deedItem at h
  refine en_z (by decide) rfl (Nat.le_of_ble_eq_true rfl) ?_
  intro p e s m args below meth c A Q H locs ls hx hb hml hown hts hA hP hK hD hE hS hl hRet
  have hown : s.vm.findClass RX3 = some m.cls := hown
  have hl : lv_has ls 6 [(0, .ref r0), (1, .int a1)] := hl
  have hin_X0 : ∀ w ∈ u_ws RX0 TX0 6, w ∈ wsX3_deedItem := fun w h9 => List.mem_cons_of_mem _ (List.mem_append_left _ (List.mem_append_left _ (List.mem_append_right _ h9)))
  have hin_X3 : ∀ w ∈ u_ws RX3 TX3 6, w ∈ wsX3_deedItem := fun w h9 => List.mem_cons_of_mem _ (List.mem_append_left _ (List.mem_append_left _ (List.mem_append_left _ (List.mem_append_right _ h9))))
  have fk_109 := va_Nw.use (A := args) rfl (hE.1 ("MaskBows$Reader", 109, "MaskBows$Carnival", "deeds", "LMaskBows$Rows;", "MaskBows") (by decide +kernel))
  have fk_28 := hts (.fieldLink RX3 28 "MaskBows$Reader" "draft" "LMaskBows$Carnival;") (by decide +kernel)
  have fk_83 := va_Nw.use (A := args) rfl (hE.1 ("MaskBows$Reader", 83, "MaskBows$Carnival", "people", "I", "MaskBows") (by decide +kernel))
  refine lv_aload_n hx hb dX3_deedItem_0 rfl (lv_at hl 0 rfl) ?_
  refine va_get (D := G) (ci := 3) (v := .ref c0) (C := RX3) (T := TX3) (N := 6) hx hb hts hin_X3 hown hK hP 0 rfl rfl 1 (by decide) fk_28 (fun _ h9 => h9) rfl dX3_deedItem_1 ?_
  refine va_getN (D := G) (ci := 0) (v := .ref c5) (C := RX0) (T := TX0) (N := 6) hx hb hts hin_X0 hown hK hP 3 rfl rfl 2 (by decide) fk_109 (fun _ h9 => h9) rfl dX3_deedItem_4 ?_
  obtain ⟨u_1, e_1, h⟩ := bd_some h
  refine cl_Vi (As := []) (rest := []) (Wn := (wRD ca ev r0 t0 t1 c0 c1 c2 c3 c4 c5 c6 token place behindIt value tbytes tlen bsize bcells ssize scells dsize dcells people rule believed)) ⟨hx, hb, hml, hown, hts⟩ (c_X4_isFull (ca := ca) (ev := ev) (r0 := c5) (r1 := c6) (limit := (12 : Int32)) (width := (5 : Int32)) (size := dsize) (cells := dcells) (nc := 60) e_1) (cwV 0 hts gX3_deedItem_X4_isFull rfl rfl rfl hd_X4_isFull ⟨Nat.le_of_ble_eq_true rfl, Nat.le_of_ble_eq_true rfl⟩) hK hP hD hS hA hE wp_18 (q0 := 0) (ci := 4) rfl rfl rfl rfl hl.1 rfl (Nat.le_of_ble_eq_true rfl) dX3_deedItem_7 ⟨Nat.zero_le _, Nat.zero_le _⟩ (fun H locs hP hD hS => ?_)
  refine lv_if_eq (tgt := 15) hx hb dX3_deedItem_10 (by decide) (fun c_2 => ?_) (fun c_2 => ?_)
  · have h := ifp c_2 h
    refine lv_aload_n hx hb dX3_deedItem_15 rfl (lv_at hl 0 rfl) ?_
    obtain ⟨u_3, e_3, h⟩ := bd_some h
    refine cm_Vv (As := []) (rest := []) ⟨hx, hb, hml, hown, hts⟩ (c_X3_step (ca := ca) (ev := ev) (r0 := r0) (t0 := t0) (t1 := t1) (c0 := c0) (c1 := c1) (c2 := c2) (c3 := c3) (c4 := c4) (c5 := c5) (c6 := c6) (token := token) (place := place) (behindIt := behindIt) (value := value) (tbytes := tbytes) (tlen := tlen) (bsize := bsize) (bcells := bcells) (ssize := ssize) (scells := scells) (dsize := dsize) (dcells := dcells) (people := people) (rule := rule) (believed := believed) e_3) (cwV 0 hts gX3_deedItem_X3_step rfl rfl rfl hd_X3_step ⟨Nat.le_of_ble_eq_true rfl, Nat.le_of_ble_eq_true rfl⟩) hK hP hD hS hA hE (q0 := 0) (ci := 3) rfl rfl rfl rfl hl.1 rfl (Nat.le_of_ble_eq_true rfl) dX3_deedItem_16 ⟨Nat.zero_le _, Nat.zero_le _⟩ (fun H locs hP hD hS => ?_)
    refine lv_aload_n hx hb dX3_deedItem_19 rfl (lv_at hl 0 rfl) ?_
    refine lv_bipush (v := (100 : Int32)) hx hb dX3_deedItem_20 (by decide) ?_
    obtain ⟨u_4, e_4, h⟩ := bd_some h
    refine cm_Vi (As := [.int (100 : Int32)]) (rest := []) ⟨hx, hb, hml, hown, hts⟩ (c_X3_number (ca := ca) (ev := ev) (r0 := r0) (t0 := t0) (t1 := t1) (c0 := c0) (c1 := c1) (c2 := c2) (c3 := c3) (c4 := c4) (c5 := c5) (c6 := c6) (token := u_3.1) (place := u_3.2.1) (behindIt := u_3.2.2.1) (value := u_3.2.2.2) (tbytes := tbytes) (tlen := tlen) (bsize := bsize) (bcells := bcells) (ssize := ssize) (scells := scells) (dsize := dsize) (dcells := dcells) (people := people) (rule := rule) (believed := believed) e_4) (cwV 1 hts gX3_deedItem_X3_number rfl rfl rfl hd_X3_number ⟨Nat.le_of_ble_eq_true rfl, Nat.le_of_ble_eq_true rfl⟩) hK hP hD hS hA hE (q0 := 0) (ci := 3) rfl rfl rfl rfl hl.1 rfl (Nat.le_of_ble_eq_true rfl) dX3_deedItem_22 ⟨Nat.zero_le _, Nat.zero_le _⟩ (fun H locs hP hD hS => ?_)
    refine lv_istore_n (lv' := [(2, .int u_4.1), (0, .ref r0), (1, .int a1)]) hx hb dX3_deedItem_25 rfl hl (by decide) rfl (fun ls hl => ?_)
    refine lv_iload_n hx hb dX3_deedItem_26 rfl (lv_at hl 0 rfl) ?_
    refine lv_iconst (v := (-1 : Int32)) hx hb dX3_deedItem_27 (by decide) ?_
    obtain ⟨u_5, e_5, h⟩ := bd_some h
    have J_5 : ∀ {H : Heap} {locs : List Loc} {ls : Array Slot}, va_P G vwCl (wRD ca ev r0 t0 t1 c0 c1 c2 c3 c4 c5 c6 u_5.2.1 u_5.2.2.1 u_5.2.2.2.1 u_5.2.2.2.2 tbytes tlen bsize bcells ssize scells dsize dcells people rule believed) H → va_D A (wRD ca ev r0 t0 t1 c0 c1 c2 c3 c4 c5 c6 u_5.2.1 u_5.2.2.1 u_5.2.2.2.1 u_5.2.2.2.2 tbytes tlen bsize bcells ssize scells dsize dcells people rule believed) → va_S A s.heap H locs → lv_has ls 6 [(0, .ref r0), (1, .int a1), (2, .int u_4.1)] → W p l e rm_X3_deedItem s m args below meth c H locs 0 0 Q (F0 m 46 ls [.int u_5.1]) := by
      intro H locs ls hP hD hS hl 
      refine lv_istore_n (lv' := [(3, .int u_5.1), (0, .ref r0), (1, .int a1), (2, .int u_4.1)]) hx hb dX3_deedItem_46 rfl hl (by decide) rfl (fun ls hl => ?_)
      refine lv_iload_n hx hb dX3_deedItem_47 rfl (lv_at hl 0 rfl) ?_
      refine lv_iconst (v := (-1 : Int32)) hx hb dX3_deedItem_48 (by decide) ?_
      refine lv_icmp_eq (tgt := 61) hx hb dX3_deedItem_49 (by decide) (fun c_7 => ?_) (fun c_7 => ?_)
      · have h := ifp c_7 h
        refine lv_iconst (v := (0 : Int32)) hx hb dX3_deedItem_61 (by decide) ?_
        obtain rfl := Option.some.inj h
        exact hRet hP hD hS zb_0 dX3_deedItem_62
      · have h := ifn c_7 h
        refine lv_aload_n hx hb dX3_deedItem_52 rfl (lv_at hl 1 rfl) ?_
        refine va_ldcS hx hb hown (hE.2.2.2.1 ("MaskBows$Reader", 112, "to", 15) (by decide +kernel)) dX3_deedItem_53 ?_
        obtain ⟨u_8, e_8, h⟩ := bd_some h
        refine cm_Vi (As := [.ref (ev (1 + 2 * 15))]) (rest := []) ⟨hx, hb, hml, hown, hts⟩ (c_X3_isWord (ca := ca) (ev := ev) (r0 := r0) (t0 := t0) (t1 := t1) (c0 := c0) (c1 := c1) (c2 := c2) (c3 := c3) (c4 := c4) (c5 := c5) (c6 := c6) (token := u_5.2.1) (place := u_5.2.2.1) (behindIt := u_5.2.2.2.1) (value := u_5.2.2.2.2) (tbytes := tbytes) (tlen := tlen) (bsize := bsize) (bcells := bcells) (ssize := ssize) (scells := scells) (dsize := dsize) (dcells := dcells) (people := people) (rule := rule) (believed := believed) (by decide) e_8) (cwV 1 hts gX3_deedItem_X3_isWord rfl rfl rfl hd_X3_isWord ⟨Nat.le_of_ble_eq_true rfl, Nat.le_of_ble_eq_true rfl⟩) hK hP hD hS hA hE (q0 := 0) (ci := 3) rfl rfl rfl rfl hl.1 rfl (Nat.le_of_ble_eq_true rfl) dX3_deedItem_55 ⟨Nat.zero_le _, Nat.zero_le _⟩ (fun H locs hP hD hS => ?_)
        refine lv_if_ne (tgt := 63) hx hb dX3_deedItem_58 (by decide) (fun c_9 => ?_) (fun c_9 => ?_)
        · have h := ifn c_9 h
          refine lv_aload_n hx hb dX3_deedItem_63 rfl (lv_at hl 1 rfl) ?_
          obtain ⟨u_10, e_10, h⟩ := bd_some h
          refine cm_Vv (As := []) (rest := []) ⟨hx, hb, hml, hown, hts⟩ (c_X3_step (ca := ca) (ev := ev) (r0 := r0) (t0 := t0) (t1 := t1) (c0 := c0) (c1 := c1) (c2 := c2) (c3 := c3) (c4 := c4) (c5 := c5) (c6 := c6) (token := u_5.2.1) (place := u_5.2.2.1) (behindIt := u_5.2.2.2.1) (value := u_5.2.2.2.2) (tbytes := tbytes) (tlen := tlen) (bsize := bsize) (bcells := bcells) (ssize := ssize) (scells := scells) (dsize := dsize) (dcells := dcells) (people := people) (rule := rule) (believed := believed) e_10) (cwV 0 hts gX3_deedItem_X3_step rfl rfl rfl hd_X3_step ⟨Nat.le_of_ble_eq_true rfl, Nat.le_of_ble_eq_true rfl⟩) hK hP hD hS hA hE (q0 := 0) (ci := 3) rfl rfl rfl rfl hl.1 rfl (Nat.le_of_ble_eq_true rfl) dX3_deedItem_64 ⟨Nat.zero_le _, Nat.zero_le _⟩ (fun H locs hP hD hS => ?_)
          refine lv_aload_n hx hb dX3_deedItem_67 rfl (lv_at hl 1 rfl) ?_
          refine lv_iload_n hx hb dX3_deedItem_68 rfl (lv_at hl 0 rfl) ?_
          obtain ⟨u_11, e_11, h⟩ := bd_some h
          refine cm_Vi (As := [.int u_5.1]) (rest := []) ⟨hx, hb, hml, hown, hts⟩ (c_X3_isNumber (ca := ca) (ev := ev) (r0 := r0) (t0 := t0) (t1 := t1) (c0 := c0) (c1 := c1) (c2 := c2) (c3 := c3) (c4 := c4) (c5 := c5) (c6 := c6) (token := u_10.1) (place := u_10.2.1) (behindIt := u_10.2.2.1) (value := u_10.2.2.2) (tbytes := tbytes) (tlen := tlen) (bsize := bsize) (bcells := bcells) (ssize := ssize) (scells := scells) (dsize := dsize) (dcells := dcells) (people := people) (rule := rule) (believed := believed) e_11) (cwV 1 hts gX3_deedItem_X3_isNumber rfl rfl rfl hd_X3_isNumber ⟨Nat.le_of_ble_eq_true rfl, Nat.le_of_ble_eq_true rfl⟩) hK hP hD hS hA hE (q0 := 0) (ci := 3) rfl rfl rfl rfl hl.1 rfl (Nat.le_of_ble_eq_true rfl) dX3_deedItem_69 ⟨Nat.zero_le _, Nat.zero_le _⟩ (fun H locs hP hD hS => ?_)
          obtain ⟨u_12, e_12, h⟩ := bd_some h
          have J_12 : ∀ {H : Heap} {locs : List Loc} {ls : Array Slot}, va_P G vwCl (wRD ca ev r0 t0 t1 c0 c1 c2 c3 c4 c5 c6 u_12.2.1 u_12.2.2.1 u_12.2.2.2.1 u_12.2.2.2.2 tbytes tlen bsize bcells ssize scells dsize dcells people rule believed) H → va_D A (wRD ca ev r0 t0 t1 c0 c1 c2 c3 c4 c5 c6 u_12.2.1 u_12.2.2.1 u_12.2.2.2.1 u_12.2.2.2.2 tbytes tlen bsize bcells ssize scells dsize dcells people rule believed) → va_S A s.heap H locs → lv_has ls 6 [(0, .ref r0), (1, .int a1), (2, .int u_4.1), (3, .int u_5.1)] → W p l e rm_X3_deedItem s m args below meth c H locs 0 0 Q (F0 m 90 ls [.int u_12.1]) := by
            intro H locs ls hP hD hS hl 
            refine lv_istore (lv' := [(4, .int u_12.1), (0, .ref r0), (1, .int a1), (2, .int u_4.1), (3, .int u_5.1)]) hx hb dX3_deedItem_90 hl (by decide) rfl (fun ls hl => ?_)
            refine lv_iload hx hb dX3_deedItem_92 (lv_at hl 0 rfl) ?_
            refine lv_iconst (v := (-1 : Int32)) hx hb dX3_deedItem_94 (by decide) ?_
            refine lv_icmp_ne (tgt := 100) hx hb dX3_deedItem_95 (by decide) (fun c_14 => ?_) (fun c_14 => ?_)
            · have h := ifn c_14 h
              refine lv_bipush (v := (10 : Int32)) hx hb dX3_deedItem_100 (by decide) ?_
              refine lv_istore (lv' := [(5, .int (10 : Int32)), (4, .int u_12.1), (0, .ref r0), (1, .int a1), (2, .int u_4.1), (3, .int u_5.1)]) hx hb dX3_deedItem_102 hl (by decide) rfl (fun ls hl => ?_)
              refine lv_aload_n hx hb dX3_deedItem_104 rfl (lv_at hl 2 rfl) ?_
              refine va_ldcS hx hb hown (hE.2.2.2.1 ("MaskBows$Reader", 114, "coins", 16) (by decide +kernel)) dX3_deedItem_105 ?_
              obtain ⟨u_15, e_15, h⟩ := bd_some h
              refine cm_Vi (As := [.ref (ev (1 + 2 * 16))]) (rest := []) ⟨hx, hb, hml, hown, hts⟩ (c_X3_isWord (ca := ca) (ev := ev) (r0 := r0) (t0 := t0) (t1 := t1) (c0 := c0) (c1 := c1) (c2 := c2) (c3 := c3) (c4 := c4) (c5 := c5) (c6 := c6) (token := u_12.2.1) (place := u_12.2.2.1) (behindIt := u_12.2.2.2.1) (value := u_12.2.2.2.2) (tbytes := tbytes) (tlen := tlen) (bsize := bsize) (bcells := bcells) (ssize := ssize) (scells := scells) (dsize := dsize) (dcells := dcells) (people := people) (rule := rule) (believed := believed) (by decide) e_15) (cwV 1 hts gX3_deedItem_X3_isWord rfl rfl rfl hd_X3_isWord ⟨Nat.le_of_ble_eq_true rfl, Nat.le_of_ble_eq_true rfl⟩) hK hP hD hS hA hE (q0 := 0) (ci := 3) rfl rfl rfl rfl hl.1 rfl (Nat.le_of_ble_eq_true rfl) dX3_deedItem_107 ⟨Nat.zero_le _, Nat.zero_le _⟩ (fun H locs hP hD hS => ?_)
              obtain ⟨u_16, e_16, h⟩ := bd_some h
              have J_16 : ∀ {H : Heap} {locs : List Loc} {ls : Array Slot}, va_P G vwCl (wRD ca ev r0 t0 t1 c0 c1 c2 c3 c4 c5 c6 u_16.2.1 u_16.2.2.1 u_16.2.2.2.1 u_16.2.2.2.2 tbytes tlen bsize bcells ssize scells dsize dcells people rule believed) H → va_D A (wRD ca ev r0 t0 t1 c0 c1 c2 c3 c4 c5 c6 u_16.2.1 u_16.2.2.1 u_16.2.2.2.1 u_16.2.2.2.2 tbytes tlen bsize bcells ssize scells dsize dcells people rule believed) → va_S A s.heap H locs → lv_has ls 6 [(0, .ref r0), (1, .int a1), (2, .int u_4.1), (3, .int u_5.1), (4, .int u_12.1), (5, .int u_16.1)] → W p l e rm_X3_deedItem s m args below meth c H locs 0 0 Q (F0 m 126 ls []) := by
                intro H locs ls hP hD hS hl 
                refine lv_iload hx hb dX3_deedItem_126 (lv_at hl 5 rfl) ?_
                refine lv_iconst (v := (-1 : Int32)) hx hb dX3_deedItem_128 (by decide) ?_
                refine lv_icmp_eq (tgt := 154) hx hb dX3_deedItem_129 (by decide) (fun c_19 => ?_) (fun c_19 => ?_)
                · have h := ifp c_19 h
                  refine lv_iconst (v := (0 : Int32)) hx hb dX3_deedItem_154 (by decide) ?_
                  obtain rfl := Option.some.inj h
                  exact hRet hP hD hS zb_0 dX3_deedItem_155
                · have h := ifn c_19 h
                  refine lv_aload_n hx hb dX3_deedItem_132 rfl (lv_at hl 0 rfl) ?_
                  refine va_get (D := G) (ci := 3) (v := .ref c0) (C := RX3) (T := TX3) (N := 6) hx hb hts hin_X3 hown hK hP 0 rfl rfl 1 (by decide) fk_28 (fun _ h9 => h9) rfl dX3_deedItem_133 ?_
                  refine lv_iload_n hx hb dX3_deedItem_136 rfl (lv_at hl 1 rfl) ?_
                  refine lv_iload_n hx hb dX3_deedItem_137 rfl (lv_at hl 2 rfl) ?_
                  refine lv_iload_n hx hb dX3_deedItem_138 rfl (lv_at hl 3 rfl) ?_
                  refine lv_iload hx hb dX3_deedItem_139 (lv_at hl 4 rfl) ?_
                  refine lv_iload hx hb dX3_deedItem_141 (lv_at hl 5 rfl) ?_
                  obtain ⟨u_20, e_20, h⟩ := bd_some h
                  refine cl_Vi (As := [.int a1, .int u_4.1, .int u_5.1, .int u_12.1, .int u_16.1]) (rest := []) (Wn := (wRD ca ev r0 t0 t1 c0 c1 c2 c3 c4 c5 c6 u_16.2.1 u_16.2.2.1 u_16.2.2.2.1 u_16.2.2.2.2 tbytes tlen bsize bcells ssize scells u_20.2.1 u_20.2.2 people rule believed)) ⟨hx, hb, hml, hown, hts⟩ (c_X0_addDeed (ca := ca) (ev := ev) (c0 := c0) (c1 := c1) (c2 := c2) (c3 := c3) (c4 := c4) (c5 := c5) (c6 := c6) (bsize := bsize) (bcells := bcells) (ssize := ssize) (scells := scells) (dsize := dsize) (dcells := dcells) (people := people) (rule := rule) (believed := believed) e_20) (cwV 5 hts gX3_deedItem_X0_addDeed rfl rfl rfl hd_X0_addDeed ⟨Nat.le_of_ble_eq_true rfl, Nat.le_of_ble_eq_true rfl⟩) hK hP hD hS hA hE wp_17 (q0 := 0) (ci := 0) rfl rfl rfl rfl hl.1 rfl (Nat.le_of_ble_eq_true rfl) dX3_deedItem_143 ⟨Nat.zero_le _, Nat.zero_le _⟩ (fun H locs hP hD hS => ?_)
                  refine lv_iconst (v := (-1 : Int32)) hx hb dX3_deedItem_146 (by decide) ?_
                  refine lv_icmp_eq (tgt := 154) hx hb dX3_deedItem_147 (by decide) (fun c_21 => ?_) (fun c_21 => ?_)
                  · have h := ifp c_21 h
                    refine lv_iconst (v := (0 : Int32)) hx hb dX3_deedItem_154 (by decide) ?_
                    obtain rfl := Option.some.inj h
                    exact hRet hP hD hS zb_0 dX3_deedItem_155
                  · have h := ifn c_21 h
                    refine lv_iconst (v := (1 : Int32)) hx hb dX3_deedItem_150 (by decide) ?_
                    refine lv_goto (tgt := 155) hx hb dX3_deedItem_151 (by decide) ?_
                    obtain rfl := Option.some.inj h
                    exact hRet hP hD hS zb_1 dX3_deedItem_155
              have h := e_16
              clear e_16
              refine lv_if_eq (tgt := 126) hx hb dX3_deedItem_110 (by decide) (fun c_16 => ?_) (fun c_16 => ?_)
              · have h := ifp c_16 h
                obtain rfl := Option.some.inj h
                exact J_16 hP hD hS (lv_sub hl [2, 3, 4, 5, 1, 0] rfl)
              · have h := ifn c_16 h
                refine lv_aload_n hx hb dX3_deedItem_113 rfl (lv_at hl 2 rfl) ?_
                obtain ⟨u_17, e_17, h⟩ := bd_some h
                refine cm_Vv (As := []) (rest := []) ⟨hx, hb, hml, hown, hts⟩ (c_X3_step (ca := ca) (ev := ev) (r0 := r0) (t0 := t0) (t1 := t1) (c0 := c0) (c1 := c1) (c2 := c2) (c3 := c3) (c4 := c4) (c5 := c5) (c6 := c6) (token := u_12.2.1) (place := u_12.2.2.1) (behindIt := u_12.2.2.2.1) (value := u_12.2.2.2.2) (tbytes := tbytes) (tlen := tlen) (bsize := bsize) (bcells := bcells) (ssize := ssize) (scells := scells) (dsize := dsize) (dcells := dcells) (people := people) (rule := rule) (believed := believed) e_17) (cwV 0 hts gX3_deedItem_X3_step rfl rfl rfl hd_X3_step ⟨Nat.le_of_ble_eq_true rfl, Nat.le_of_ble_eq_true rfl⟩) hK hP hD hS hA hE (q0 := 0) (ci := 3) rfl rfl rfl rfl hl.1 rfl (Nat.le_of_ble_eq_true rfl) dX3_deedItem_114 ⟨Nat.zero_le _, Nat.zero_le _⟩ (fun H locs hP hD hS => ?_)
                refine lv_aload_n hx hb dX3_deedItem_117 rfl (lv_at hl 2 rfl) ?_
                refine lv_sipush (v := (1000 : Int32)) hx hb dX3_deedItem_118 (by decide) ?_
                obtain ⟨u_18, e_18, h⟩ := bd_some h
                refine cm_Vi (As := [.int (1000 : Int32)]) (rest := []) ⟨hx, hb, hml, hown, hts⟩ (c_X3_number (ca := ca) (ev := ev) (r0 := r0) (t0 := t0) (t1 := t1) (c0 := c0) (c1 := c1) (c2 := c2) (c3 := c3) (c4 := c4) (c5 := c5) (c6 := c6) (token := u_17.1) (place := u_17.2.1) (behindIt := u_17.2.2.1) (value := u_17.2.2.2) (tbytes := tbytes) (tlen := tlen) (bsize := bsize) (bcells := bcells) (ssize := ssize) (scells := scells) (dsize := dsize) (dcells := dcells) (people := people) (rule := rule) (believed := believed) e_18) (cwV 1 hts gX3_deedItem_X3_number rfl rfl rfl hd_X3_number ⟨Nat.le_of_ble_eq_true rfl, Nat.le_of_ble_eq_true rfl⟩) hK hP hD hS hA hE (q0 := 0) (ci := 3) rfl rfl rfl rfl hl.1 rfl (Nat.le_of_ble_eq_true rfl) dX3_deedItem_121 ⟨Nat.zero_le _, Nat.zero_le _⟩ (fun H locs hP hD hS => ?_)
                refine lv_istore (lv' := [(5, .int u_18.1), (4, .int u_12.1), (0, .ref r0), (1, .int a1), (2, .int u_4.1), (3, .int u_5.1)]) hx hb dX3_deedItem_124 hl (by decide) rfl (fun ls hl => ?_)
                obtain rfl := Option.some.inj h
                exact J_16 hP hD hS (lv_sub hl [2, 3, 4, 5, 1, 0] rfl)
            · have h := ifp c_14 h
              refine lv_iconst (v := (0 : Int32)) hx hb dX3_deedItem_98 (by decide) ?_
              obtain rfl := Option.some.inj h
              exact hRet hP hD hS zb_0 dX3_deedItem_99
          have h := e_12
          clear e_12
          refine lv_if_eq (tgt := 79) hx hb dX3_deedItem_72 (by decide) (fun c_12 => ?_) (fun c_12 => ?_)
          · have h := ifp c_12 h
            refine lv_aload_n hx hb dX3_deedItem_79 rfl (lv_at hl 1 rfl) ?_
            refine lv_aload_n hx hb dX3_deedItem_80 rfl (lv_at hl 1 rfl) ?_
            refine va_get (D := G) (ci := 3) (v := .ref c0) (C := RX3) (T := TX3) (N := 6) hx hb hts hin_X3 hown hK hP 0 rfl rfl 1 (by decide) fk_28 (fun _ h9 => h9) rfl dX3_deedItem_81 ?_
            refine va_getN (D := G) (ci := 0) (v := .int people) (C := RX0) (T := TX0) (N := 6) hx hb hts hin_X0 hown hK hP 3 rfl rfl 3 (by decide) fk_83 (fun _ h9 => h9) rfl dX3_deedItem_84 ?_
            obtain ⟨u_13, e_13, h⟩ := bd_some h
            refine cm_Vi (As := [.int people]) (rest := []) ⟨hx, hb, hml, hown, hts⟩ (c_X3_number (ca := ca) (ev := ev) (r0 := r0) (t0 := t0) (t1 := t1) (c0 := c0) (c1 := c1) (c2 := c2) (c3 := c3) (c4 := c4) (c5 := c5) (c6 := c6) (token := u_10.1) (place := u_10.2.1) (behindIt := u_10.2.2.1) (value := u_10.2.2.2) (tbytes := tbytes) (tlen := tlen) (bsize := bsize) (bcells := bcells) (ssize := ssize) (scells := scells) (dsize := dsize) (dcells := dcells) (people := people) (rule := rule) (believed := believed) e_13) (cwV 1 hts gX3_deedItem_X3_number rfl rfl rfl hd_X3_number ⟨Nat.le_of_ble_eq_true rfl, Nat.le_of_ble_eq_true rfl⟩) hK hP hD hS hA hE (q0 := 0) (ci := 3) rfl rfl rfl rfl hl.1 rfl (Nat.le_of_ble_eq_true rfl) dX3_deedItem_87 ⟨Nat.zero_le _, Nat.zero_le _⟩ (fun H locs hP hD hS => ?_)
            obtain rfl := Option.some.inj h
            exact J_12 hP hD hS (lv_sub hl [1, 2, 3, 0] rfl)
          · have h := ifn c_12 h
            refine lv_iconst (v := (-1 : Int32)) hx hb dX3_deedItem_75 (by decide) ?_
            refine lv_goto (tgt := 90) hx hb dX3_deedItem_76 (by decide) ?_
            obtain rfl := Option.some.inj h
            exact J_12 hP hD hS (lv_sub hl [1, 2, 3, 0] rfl)
        · have h := ifp c_9 h
          refine lv_iconst (v := (0 : Int32)) hx hb dX3_deedItem_61 (by decide) ?_
          obtain rfl := Option.some.inj h
          exact hRet hP hD hS zb_0 dX3_deedItem_62
    have h := e_5
    clear e_5
    refine lv_icmp_ne (tgt := 35) hx hb dX3_deedItem_28 (by decide) (fun c_5 => ?_) (fun c_5 => ?_)
    · have h := ifn c_5 h
      refine lv_aload_n hx hb dX3_deedItem_35 rfl (lv_at hl 1 rfl) ?_
      refine lv_aload_n hx hb dX3_deedItem_36 rfl (lv_at hl 1 rfl) ?_
      refine va_get (D := G) (ci := 3) (v := .ref c0) (C := RX3) (T := TX3) (N := 6) hx hb hts hin_X3 hown hK hP 0 rfl rfl 1 (by decide) fk_28 (fun _ h9 => h9) rfl dX3_deedItem_37 ?_
      refine va_getN (D := G) (ci := 0) (v := .int people) (C := RX0) (T := TX0) (N := 6) hx hb hts hin_X0 hown hK hP 3 rfl rfl 3 (by decide) fk_83 (fun _ h9 => h9) rfl dX3_deedItem_40 ?_
      obtain ⟨u_6, e_6, h⟩ := bd_some h
      refine cm_Vi (As := [.int people]) (rest := []) ⟨hx, hb, hml, hown, hts⟩ (c_X3_number (ca := ca) (ev := ev) (r0 := r0) (t0 := t0) (t1 := t1) (c0 := c0) (c1 := c1) (c2 := c2) (c3 := c3) (c4 := c4) (c5 := c5) (c6 := c6) (token := u_4.2.1) (place := u_4.2.2.1) (behindIt := u_4.2.2.2.1) (value := u_4.2.2.2.2) (tbytes := tbytes) (tlen := tlen) (bsize := bsize) (bcells := bcells) (ssize := ssize) (scells := scells) (dsize := dsize) (dcells := dcells) (people := people) (rule := rule) (believed := believed) e_6) (cwV 1 hts gX3_deedItem_X3_number rfl rfl rfl hd_X3_number ⟨Nat.le_of_ble_eq_true rfl, Nat.le_of_ble_eq_true rfl⟩) hK hP hD hS hA hE (q0 := 0) (ci := 3) rfl rfl rfl rfl hl.1 rfl (Nat.le_of_ble_eq_true rfl) dX3_deedItem_43 ⟨Nat.zero_le _, Nat.zero_le _⟩ (fun H locs hP hD hS => ?_)
      obtain rfl := Option.some.inj h
      exact J_5 hP hD hS (lv_sub hl [1, 2, 0] rfl)
    · have h := ifp c_5 h
      refine lv_iconst (v := (-1 : Int32)) hx hb dX3_deedItem_31 (by decide) ?_
      refine lv_goto (tgt := 46) hx hb dX3_deedItem_32 (by decide) ?_
      obtain rfl := Option.some.inj h
      exact J_5 hP hD hS (lv_sub hl [1, 2, 0] rfl)
  · have h := ifn c_2 h
    refine lv_iconst (v := (0 : Int32)) hx hb dX3_deedItem_13 (by decide) ?_
    obtain rfl := Option.some.inj h
    exact hRet hP hD hS zb_0 dX3_deedItem_14
abbrev rm_X3_nameOf : Room := { frames := 0, cells := 0, slots := 0, locals := 0 }
theorem hd_X3_nameOf : yX3_nameOf.cls ≠ "java/lang/invoke/MethodHandle" ∧ yX3_nameOf.cls ≠ "java/lang/invoke/VarHandle" ∧ (parseMethodDescriptor yX3_nameOf.desc).map (fun d => d.parameters.length) = some 1 := by decide +kernel
set_option maxHeartbeats 4000000 in
set_option maxRecDepth 100000 in
theorem c_X3_nameOf {l : Launch} {G : va_G} {ca : Nat → ClassId} {ev : Nat → Nat}  {a0 : Int32} {res : Nat} (h : f_X3_nameOf a0 = some res) : CtO l yX3_nameOf wsX3_nameOf rm_X3_nameOf G ca ev [.int a0] [] [] (some (ev (1 + 2 * res))) := by
  unfold f_X3_nameOf at h
  refine en_o (by decide) rfl (Nat.le_of_ble_eq_true rfl) ?_
  intro p e s m args below meth c A Q H locs ls hx hb hml hown hts hA hP hK hD hE hS hl hRet
  have hown : s.vm.findClass RX3 = some m.cls := hown
  have hl : lv_has ls 1 [(0, .int a0)] := hl
  refine lv_iload_n hx hb dX3_nameOf_0 rfl (lv_at hl 0 rfl) ?_
  by_cases c_1 : a0 = (1 : Int32)
  · have h := ifp c_1 h
    rw [c_1]
    refine lv_tableIn (tgt := 36) hx hb dX3_nameOf_1 (by decide) (by decide) rfl (by decide) ?_
    refine va_ldcS hx hb hown (hE.2.2.2.1 ("MaskBows$Reader", 153, "debt", 9) (by decide +kernel)) dX3_nameOf_36 ?_
    obtain rfl := Option.some.inj h
    exact hRet hP hD hS dX3_nameOf_38
  · have h := ifn c_1 h
    by_cases c_2 : a0 = (2 : Int32)
    · have h := ifp c_2 h
      rw [c_2]
      refine lv_tableIn (tgt := 39) hx hb dX3_nameOf_1 (by decide) (by decide) rfl (by decide) ?_
      refine va_ldcS hx hb hown (hE.2.2.2.1 ("MaskBows$Reader", 155, "duel", 10) (by decide +kernel)) dX3_nameOf_39 ?_
      obtain rfl := Option.some.inj h
      exact hRet hP hD hS dX3_nameOf_41
    · have h := ifn c_2 h
      by_cases c_3 : a0 = (3 : Int32)
      · have h := ifp c_3 h
        rw [c_3]
        refine lv_tableIn (tgt := 42) hx hb dX3_nameOf_1 (by decide) (by decide) rfl (by decide) ?_
        refine va_ldcS hx hb hown (hE.2.2.2.1 ("MaskBows$Reader", 157, "kiss", 11) (by decide +kernel)) dX3_nameOf_42 ?_
        obtain rfl := Option.some.inj h
        exact hRet hP hD hS dX3_nameOf_44
      · have h := ifn c_3 h
        by_cases c_4 : a0 = (4 : Int32)
        · have h := ifp c_4 h
          rw [c_4]
          refine lv_tableIn (tgt := 45) hx hb dX3_nameOf_1 (by decide) (by decide) rfl (by decide) ?_
          refine va_ldcS hx hb hown (hE.2.2.2.1 ("MaskBows$Reader", 159, "vow", 12) (by decide +kernel)) dX3_nameOf_45 ?_
          obtain rfl := Option.some.inj h
          exact hRet hP hD hS dX3_nameOf_47
        · have h := ifn c_4 h
          by_cases c_5 : a0 = (5 : Int32)
          · have h := ifp c_5 h
            rw [c_5]
            refine lv_tableIn (tgt := 48) hx hb dX3_nameOf_1 (by decide) (by decide) rfl (by decide) ?_
            refine va_ldcS hx hb hown (hE.2.2.2.1 ("MaskBows$Reader", 161, "theft", 13) (by decide +kernel)) dX3_nameOf_48 ?_
            obtain rfl := Option.some.inj h
            exact hRet hP hD hS dX3_nameOf_50
          · have h := ifn c_5 h
            refine lv_tableOut (tgt := 51) hx hb dX3_nameOf_1 (by by_cases q : a0.toInt < 1 ∨ 5 < a0.toInt; exact q; exfalso; have z0 : a0.toInt = 1 ∨ a0.toInt = 2 ∨ a0.toInt = 3 ∨ a0.toInt = 4 ∨ a0.toInt = 5 := (by omega); rcases z0 with z | z | z | z | z; exact c_1 (Int32.toInt_inj.mp (z.trans (by decide))); exact c_2 (Int32.toInt_inj.mp (z.trans (by decide))); exact c_3 (Int32.toInt_inj.mp (z.trans (by decide))); exact c_4 (Int32.toInt_inj.mp (z.trans (by decide))); exact c_5 (Int32.toInt_inj.mp (z.trans (by decide)))) (by decide) ?_
            refine va_ldcS hx hb hown (hE.2.2.2.1 ("MaskBows$Reader", 163, "deed", 14) (by decide +kernel)) dX3_nameOf_51 ?_
            obtain rfl := Option.some.inj h
            exact hRet hP hD hS dX3_nameOf_53
