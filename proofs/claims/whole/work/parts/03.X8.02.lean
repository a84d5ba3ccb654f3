abbrev rm_X8_deedOf : Room := { frames := 2, cells := 0, slots := 0, locals := 44 }
theorem hd_X8_deedOf : yX8_deedOf.cls = RX8 ∧ yX8_deedOf.cls ≠ "java/lang/invoke/MethodHandle" ∧ yX8_deedOf.cls ≠ "java/lang/invoke/VarHandle" ∧ (parseMethodDescriptor yX8_deedOf.desc).map (fun d => d.parameters.length) = some 2 := by decide +kernel
set_option maxHeartbeats 4000000 in
set_option maxRecDepth 100000 in
theorem c_X8_deedOf {l : Launch} {G : va_G} {ca : Nat → ClassId} {ev : Nat → Nat} {h0 h1 h2 h3 h4 h5 h6 h7 h8 h9 h10 h11 h12 h13 h14 h15 h16 h17 : Nat} {now : (Nat → Int32)} {kept : (Nat → Int32)} {isKept : Int32} {found : (Nat → Int32)} {order : (Nat → Int32)} {doubts : (Nat → Int32)} {doubtMany : Int32} {weights : (Nat → Int64)} {worn : (Nat → Int32)} {pairs : Int64} {isTwice : Int32} {doer : (Nat → Int32)} {doneTo : (Nat → Int32)} {doers : (Nat → Int64)} {tape : (Nat → Int32)} {taped : Int32} {begins : Int32} {ends : Int32} {sort : Int32} {value : Int32} {isWrong : Int32} {items : (Nat → Int32)} {itemMany : Int32} {bowThen : Int32} {doubtThen : Int32} {deedThen : Int32} {sayingThen : Int32} {widths : (Nat → Int32)} {sizes : (Nat → Int32)} {numbers : (Nat → Int64)} {moved : (Nat → Int64)} {a1 : Int32} {a2 : Int32} {res : Int32 × (Nat → Int32)} (h : f_X8_deedOf now found a1 a2 = some res) : CtI l yX8_deedOf wsX8_deedOf rm_X8_deedOf G ca ev [.ref h0, .int a1, .int a2] (wM ca ev h0 h1 h2 h3 h4 h5 h6 h7 h8 h9 h10 h11 h12 h13 h14 h15 h16 h17 now kept isKept found order doubts doubtMany weights worn pairs isTwice doer doneTo doers tape taped begins ends sort value isWrong items itemMany bowThen doubtThen deedThen sayingThen widths sizes numbers moved) (wM ca ev h0 h1 h2 h3 h4 h5 h6 h7 h8 h9 h10 h11 h12 h13 h14 h15 h16 h17 now kept isKept res.2 order doubts doubtMany weights worn pairs isTwice doer doneTo doers tape taped begins ends sort value isWrong items itemMany bowThen doubtThen deedThen sayingThen widths sizes numbers moved) res.1 := by
  unfold f_X8_deedOf at h
  refine en_i (by decide) rfl (Nat.le_of_ble_eq_true rfl) ?_
  intro p e s m args below meth c A Q H locs ls hx hb hml hown hts hA hP hK hD hE hS hl hRet
  have hown : s.vm.findClass RX8 = some m.cls := hown
  have hl : lv_has ls 3 [(0, .ref h0), (1, .int a1), (2, .int a2)] := hl
  refine lv_aload_n hx hb dX8_deedOf_0 rfl (lv_at hl 0 rfl) ?_
  refine lv_iload_n hx hb dX8_deedOf_1 rfl (lv_at hl 1 rfl) ?_
  obtain ⟨u_1, e_1, h⟩ := bd_some h
  refine cm_Vi (As := [.int a1]) (rest := []) ⟨hx, hb, hml, hown, hts⟩ (c_X8_isDeed (ca := ca) (ev := ev) (h0 := h0) (h1 := h1) (h2 := h2) (h3 := h3) (h4 := h4) (h5 := h5) (h6 := h6) (h7 := h7) (h8 := h8) (h9 := h9) (h10 := h10) (h11 := h11) (h12 := h12) (h13 := h13) (h14 := h14) (h15 := h15) (h16 := h16) (h17 := h17) (now := now) (kept := kept) (isKept := isKept) (found := found) (order := order) (doubts := doubts) (doubtMany := doubtMany) (weights := weights) (worn := worn) (pairs := pairs) (isTwice := isTwice) (doer := doer) (doneTo := doneTo) (doers := doers) (tape := tape) (taped := taped) (begins := begins) (ends := ends) (sort := sort) (value := value) (isWrong := isWrong) (items := items) (itemMany := itemMany) (bowThen := bowThen) (doubtThen := doubtThen) (deedThen := deedThen) (sayingThen := sayingThen) (widths := widths) (sizes := sizes) (numbers := numbers) (moved := moved) e_1) (cwV 1 hts gX8_deedOf_X8_isDeed rfl rfl rfl hd_X8_isDeed ⟨Nat.le_of_ble_eq_true rfl, Nat.le_of_ble_eq_true rfl⟩) hK hP hD hS hA hE (q0 := 0) (ci := 8) rfl rfl rfl rfl hl.1 rfl (Nat.le_of_ble_eq_true rfl) dX8_deedOf_2 ⟨Nat.zero_le _, Nat.zero_le _⟩ (fun H locs hP hD hS => ?_)
  refine lv_if_eq (tgt := 18) hx hb dX8_deedOf_5 (by decide) (fun c_2 => ?_) (fun c_2 => ?_)
  · have h := ifp c_2 h
    refine lv_aload_n hx hb dX8_deedOf_18 rfl (lv_at hl 0 rfl) ?_
    refine lv_ldc (v := (-1000000001 : Int32)) hx hb hown (hts (.constant RX8 77 (-1000000001)) (by decide +kernel)) dX8_deedOf_19 ?_
    obtain ⟨u_3, e_3, h⟩ := bd_some h
    refine cm_Vi (As := [.int (-1000000001 : Int32)]) (rest := []) ⟨hx, hb, hml, hown, hts⟩ (c_X8_finding (ca := ca) (ev := ev) (h0 := h0) (h1 := h1) (h2 := h2) (h3 := h3) (h4 := h4) (h5 := h5) (h6 := h6) (h7 := h7) (h8 := h8) (h9 := h9) (h10 := h10) (h11 := h11) (h12 := h12) (h13 := h13) (h14 := h14) (h15 := h15) (h16 := h16) (h17 := h17) (now := now) (kept := kept) (isKept := isKept) (found := found) (order := order) (doubts := doubts) (doubtMany := doubtMany) (weights := weights) (worn := worn) (pairs := pairs) (isTwice := isTwice) (doer := doer) (doneTo := doneTo) (doers := doers) (tape := tape) (taped := taped) (begins := begins) (ends := ends) (sort := sort) (value := value) (isWrong := isWrong) (items := items) (itemMany := itemMany) (bowThen := bowThen) (doubtThen := doubtThen) (deedThen := deedThen) (sayingThen := sayingThen) (widths := widths) (sizes := sizes) (numbers := numbers) (moved := moved) e_3) (cwV 1 hts gX8_deedOf_X8_finding rfl rfl rfl hd_X8_finding ⟨Nat.le_of_ble_eq_true rfl, Nat.le_of_ble_eq_true rfl⟩) hK hP hD hS hA hE (q0 := 0) (ci := 8) rfl rfl rfl rfl hl.1 rfl (Nat.le_of_ble_eq_true rfl) dX8_deedOf_21 ⟨Nat.zero_le _, Nat.zero_le _⟩ (fun H locs hP hD hS => ?_)
    obtain rfl := Option.some.inj h
    exact hRet hP hD hS dX8_deedOf_24
  · have h := ifn c_2 h
    refine lv_iload_n hx hb dX8_deedOf_8 rfl (lv_at hl 2 rfl) ?_
    refine lv_iconst (v := (0 : Int32)) hx hb dX8_deedOf_9 (by decide) ?_
    refine lv_bipush (v := (6 : Int32)) hx hb dX8_deedOf_10 (by decide) ?_
    obtain ⟨u_4, e_4, h⟩ := bd_some h
    refine cn_Si (As := [.int a2, .int (0 : Int32), .int (6 : Int32)]) (rest := []) ⟨hx, hb, hml, hown, hts⟩ (c_X8_within e_4) (va_cwS 3 hts gX8_deedOf_X8_within rfl rfl rfl hd_X8_within ⟨Nat.le_of_ble_eq_true rfl, Nat.le_of_ble_eq_true rfl⟩) hK hP hD hS hA hE rfl hl.1 rfl (Nat.le_of_ble_eq_true rfl) dX8_deedOf_12 ⟨Nat.zero_le _, Nat.zero_le _⟩ (fun H locs hP hD hS => ?_)
    refine lv_if_ne (tgt := 25) hx hb dX8_deedOf_15 (by decide) (fun c_5 => ?_) (fun c_5 => ?_)
    · have h := ifn c_5 h
      refine lv_iload_n hx hb dX8_deedOf_25 rfl (lv_at hl 2 rfl) ?_
      refine lv_iconst (v := (5 : Int32)) hx hb dX8_deedOf_26 (by decide) ?_
      refine lv_icmp_ne (tgt := 38) hx hb dX8_deedOf_27 (by decide) (fun c_6 => ?_) (fun c_6 => ?_)
      · have h := ifn c_6 h
        refine lv_iload_n hx hb dX8_deedOf_38 rfl (lv_at hl 2 rfl) ?_
        refine lv_bipush (v := (6 : Int32)) hx hb dX8_deedOf_39 (by decide) ?_
        refine lv_icmp_ne (tgt := 62) hx hb dX8_deedOf_41 (by decide) (fun c_7 => ?_) (fun c_7 => ?_)
        · have h := ifn c_7 h
          refine lv_aload_n hx hb dX8_deedOf_62 rfl (lv_at hl 0 rfl) ?_
          refine lv_iload_n hx hb dX8_deedOf_63 rfl (lv_at hl 1 rfl) ?_
          refine lv_iload_n hx hb dX8_deedOf_64 rfl (lv_at hl 2 rfl) ?_
          obtain ⟨u_8, e_8, h⟩ := bd_some h
          refine cm_Vi (As := [.int a1, .int a2]) (rest := []) ⟨hx, hb, hml, hown, hts⟩ (c_X8_deedIs (ca := ca) (ev := ev) (h0 := h0) (h1 := h1) (h2 := h2) (h3 := h3) (h4 := h4) (h5 := h5) (h6 := h6) (h7 := h7) (h8 := h8) (h9 := h9) (h10 := h10) (h11 := h11) (h12 := h12) (h13 := h13) (h14 := h14) (h15 := h15) (h16 := h16) (h17 := h17) (now := now) (kept := kept) (isKept := isKept) (found := found) (order := order) (doubts := doubts) (doubtMany := doubtMany) (weights := weights) (worn := worn) (pairs := pairs) (isTwice := isTwice) (doer := doer) (doneTo := doneTo) (doers := doers) (tape := tape) (taped := taped) (begins := begins) (ends := ends) (sort := sort) (value := value) (isWrong := isWrong) (items := items) (itemMany := itemMany) (bowThen := bowThen) (doubtThen := doubtThen) (deedThen := deedThen) (sayingThen := sayingThen) (widths := widths) (sizes := sizes) (numbers := numbers) (moved := moved) e_8) (cwV 2 hts gX8_deedOf_X8_deedIs rfl rfl rfl hd_X8_deedIs ⟨Nat.le_of_ble_eq_true rfl, Nat.le_of_ble_eq_true rfl⟩) hK hP hD hS hA hE (q0 := 0) (ci := 8) rfl rfl rfl rfl hl.1 rfl (Nat.le_of_ble_eq_true rfl) dX8_deedOf_65 ⟨Nat.zero_le _, Nat.zero_le _⟩ (fun H locs hP hD hS => ?_)
          obtain rfl := Option.some.inj h
          exact hRet hP hD hS dX8_deedOf_68
        · have h := ifp c_7 h
          refine lv_aload_n hx hb dX8_deedOf_44 rfl (lv_at hl 0 rfl) ?_
          refine lv_iload_n hx hb dX8_deedOf_45 rfl (lv_at hl 1 rfl) ?_
          refine lv_iconst (v := (0 : Int32)) hx hb dX8_deedOf_46 (by decide) ?_
          obtain ⟨u_9, e_9, h⟩ := bd_some h
          refine cm_Vi (As := [.int a1, .int (0 : Int32)]) (rest := []) ⟨hx, hb, hml, hown, hts⟩ (c_X8_deedIs (ca := ca) (ev := ev) (h0 := h0) (h1 := h1) (h2 := h2) (h3 := h3) (h4 := h4) (h5 := h5) (h6 := h6) (h7 := h7) (h8 := h8) (h9 := h9) (h10 := h10) (h11 := h11) (h12 := h12) (h13 := h13) (h14 := h14) (h15 := h15) (h16 := h16) (h17 := h17) (now := now) (kept := kept) (isKept := isKept) (found := found) (order := order) (doubts := doubts) (doubtMany := doubtMany) (weights := weights) (worn := worn) (pairs := pairs) (isTwice := isTwice) (doer := doer) (doneTo := doneTo) (doers := doers) (tape := tape) (taped := taped) (begins := begins) (ends := ends) (sort := sort) (value := value) (isWrong := isWrong) (items := items) (itemMany := itemMany) (bowThen := bowThen) (doubtThen := doubtThen) (deedThen := deedThen) (sayingThen := sayingThen) (widths := widths) (sizes := sizes) (numbers := numbers) (moved := moved) e_9) (cwV 2 hts gX8_deedOf_X8_deedIs rfl rfl rfl hd_X8_deedIs ⟨Nat.le_of_ble_eq_true rfl, Nat.le_of_ble_eq_true rfl⟩) hK hP hD hS hA hE (q0 := 0) (ci := 8) rfl rfl rfl rfl hl.1 rfl (Nat.le_of_ble_eq_true rfl) dX8_deedOf_47 ⟨Nat.zero_le _, Nat.zero_le _⟩ (fun H locs hP hD hS => ?_)
          refine lv_iconst (v := (4 : Int32)) hx hb dX8_deedOf_50 (by decide) ?_
          refine lv_icmp_ne (tgt := 58) hx hb dX8_deedOf_51 (by decide) (fun c_10 => ?_) (fun c_10 => ?_)
          · have h := ifn c_10 h
            refine lv_iconst (v := (0 : Int32)) hx hb dX8_deedOf_58 (by decide) ?_
            refine lv_goto (tgt := 68) hx hb dX8_deedOf_59 (by decide) ?_
            obtain rfl := Option.some.inj h
            exact hRet hP hD hS dX8_deedOf_68
          · have h := ifp c_10 h
            refine lv_iconst (v := (1 : Int32)) hx hb dX8_deedOf_54 (by decide) ?_
            refine lv_goto (tgt := 68) hx hb dX8_deedOf_55 (by decide) ?_
            obtain rfl := Option.some.inj h
            exact hRet hP hD hS dX8_deedOf_68
      · have h := ifp c_6 h
        refine lv_aload_n hx hb dX8_deedOf_30 rfl (lv_at hl 0 rfl) ?_
        refine lv_iload_n hx hb dX8_deedOf_31 rfl (lv_at hl 1 rfl) ?_
        obtain ⟨u_11, e_11, h⟩ := bd_some h
        refine cm_Vi (As := [.int a1]) (rest := []) ⟨hx, hb, hml, hown, hts⟩ (c_X8_pays (ca := ca) (ev := ev) (h0 := h0) (h1 := h1) (h2 := h2) (h3 := h3) (h4 := h4) (h5 := h5) (h6 := h6) (h7 := h7) (h8 := h8) (h9 := h9) (h10 := h10) (h11 := h11) (h12 := h12) (h13 := h13) (h14 := h14) (h15 := h15) (h16 := h16) (h17 := h17) (now := now) (kept := kept) (isKept := isKept) (found := found) (order := order) (doubts := doubts) (doubtMany := doubtMany) (weights := weights) (worn := worn) (pairs := pairs) (isTwice := isTwice) (doer := doer) (doneTo := doneTo) (doers := doers) (tape := tape) (taped := taped) (begins := begins) (ends := ends) (sort := sort) (value := value) (isWrong := isWrong) (items := items) (itemMany := itemMany) (bowThen := bowThen) (doubtThen := doubtThen) (deedThen := deedThen) (sayingThen := sayingThen) (widths := widths) (sizes := sizes) (numbers := numbers) (moved := moved) e_11) (cwV 1 hts gX8_deedOf_X8_pays rfl rfl rfl hd_X8_pays ⟨Nat.le_of_ble_eq_true rfl, Nat.le_of_ble_eq_true rfl⟩) hK hP hD hS hA hE (q0 := 0) (ci := 8) rfl rfl rfl rfl hl.1 rfl (Nat.le_of_ble_eq_true rfl) dX8_deedOf_32 ⟨Nat.zero_le _, Nat.zero_le _⟩ (fun H locs hP hD hS => ?_)
        refine lv_goto (tgt := 68) hx hb dX8_deedOf_35 (by decide) ?_
        obtain rfl := Option.some.inj h
        exact hRet hP hD hS dX8_deedOf_68
    · have h := ifp c_5 h
      refine lv_aload_n hx hb dX8_deedOf_18 rfl (lv_at hl 0 rfl) ?_
      refine lv_ldc (v := (-1000000001 : Int32)) hx hb hown (hts (.constant RX8 77 (-1000000001)) (by decide +kernel)) dX8_deedOf_19 ?_
      obtain ⟨u_12, e_12, h⟩ := bd_some h
      refine cm_Vi (As := [.int (-1000000001 : Int32)]) (rest := []) ⟨hx, hb, hml, hown, hts⟩ (c_X8_finding (ca := ca) (ev := ev) (h0 := h0) (h1 := h1) (h2 := h2) (h3 := h3) (h4 := h4) (h5 := h5) (h6 := h6) (h7 := h7) (h8 := h8) (h9 := h9) (h10 := h10) (h11 := h11) (h12 := h12) (h13 := h13) (h14 := h14) (h15 := h15) (h16 := h16) (h17 := h17) (now := now) (kept := kept) (isKept := isKept) (found := found) (order := order) (doubts := doubts) (doubtMany := doubtMany) (weights := weights) (worn := worn) (pairs := pairs) (isTwice := isTwice) (doer := doer) (doneTo := doneTo) (doers := doers) (tape := tape) (taped := taped) (begins := begins) (ends := ends) (sort := sort) (value := value) (isWrong := isWrong) (items := items) (itemMany := itemMany) (bowThen := bowThen) (doubtThen := doubtThen) (deedThen := deedThen) (sayingThen := sayingThen) (widths := widths) (sizes := sizes) (numbers := numbers) (moved := moved) e_12) (cwV 1 hts gX8_deedOf_X8_finding rfl rfl rfl hd_X8_finding ⟨Nat.le_of_ble_eq_true rfl, Nat.le_of_ble_eq_true rfl⟩) hK hP hD hS hA hE (q0 := 0) (ci := 8) rfl rfl rfl rfl hl.1 rfl (Nat.le_of_ble_eq_true rfl) dX8_deedOf_21 ⟨Nat.zero_le _, Nat.zero_le _⟩ (fun H locs hP hD hS => ?_)
      obtain rfl := Option.some.inj h
      exact hRet hP hD hS dX8_deedOf_24
abbrev rm_X8_turn : Room := { frames := 2, cells := 0, slots := 0, locals := 43 }
theorem hd_X8_turn : yX8_turn.cls = RX8 ∧ yX8_turn.cls ≠ "java/lang/invoke/MethodHandle" ∧ yX8_turn.cls ≠ "java/lang/invoke/VarHandle" ∧ (parseMethodDescriptor yX8_turn.desc).map (fun d => d.parameters.length) = some 2 := by decide +kernel
set_option maxHeartbeats 4000000 in
set_option maxRecDepth 100000 in
theorem c_X8_turn {l : Launch} {G : va_G} {ca : Nat → ClassId} {ev : Nat → Nat} {h0 h1 h2 h3 h4 h5 h6 h7 h8 h9 h10 h11 h12 h13 h14 h15 h16 h17 : Nat} {now : (Nat → Int32)} {kept : (Nat → Int32)} {isKept : Int32} {found : (Nat → Int32)} {order : (Nat → Int32)} {doubts : (Nat → Int32)} {doubtMany : Int32} {weights : (Nat → Int64)} {worn : (Nat → Int32)} {pairs : Int64} {isTwice : Int32} {doer : (Nat → Int32)} {doneTo : (Nat → Int32)} {doers : (Nat → Int64)} {tape : (Nat → Int32)} {taped : Int32} {begins : Int32} {ends : Int32} {sort : Int32} {value : Int32} {isWrong : Int32} {items : (Nat → Int32)} {itemMany : Int32} {bowThen : Int32} {doubtThen : Int32} {deedThen : Int32} {sayingThen : Int32} {widths : (Nat → Int32)} {sizes : (Nat → Int32)} {numbers : (Nat → Int64)} {moved : (Nat → Int64)} {a1 : Int32} {a2 : Int32} {res : Int32 × (Nat → Int32) × (Nat → Int32)} (h : f_X8_turn now found a1 a2 = some res) : CtI l yX8_turn wsX8_turn rm_X8_turn G ca ev [.ref h0, .int a1, .int a2] (wM ca ev h0 h1 h2 h3 h4 h5 h6 h7 h8 h9 h10 h11 h12 h13 h14 h15 h16 h17 now kept isKept found order doubts doubtMany weights worn pairs isTwice doer doneTo doers tape taped begins ends sort value isWrong items itemMany bowThen doubtThen deedThen sayingThen widths sizes numbers moved) (wM ca ev h0 h1 h2 h3 h4 h5 h6 h7 h8 h9 h10 h11 h12 h13 h14 h15 h16 h17 res.2.1 kept isKept res.2.2 order doubts doubtMany weights worn pairs isTwice doer doneTo doers tape taped begins ends sort value isWrong items itemMany bowThen doubtThen deedThen sayingThen widths sizes numbers moved) res.1 := by
  unfold f_X8_turn at h
  refine en_i (by decide) rfl (Nat.le_of_ble_eq_true rfl) ?_
  intro p e s m args below meth c A Q H locs ls hx hb hml hown hts hA hP hK hD hE hS hl hRet
  have hown : s.vm.findClass RX8 = some m.cls := hown
  have hl : lv_has ls 3 [(0, .ref h0), (1, .int a1), (2, .int a2)] := hl
  refine lv_aload_n hx hb dX8_turn_0 rfl (lv_at hl 0 rfl) ?_
  refine lv_iload_n hx hb dX8_turn_1 rfl (lv_at hl 1 rfl) ?_
  obtain ⟨u_1, e_1, h⟩ := bd_some h
  refine cm_Vi (As := [.int a1]) (rest := []) ⟨hx, hb, hml, hown, hts⟩ (c_X8_isDeed (ca := ca) (ev := ev) (h0 := h0) (h1 := h1) (h2 := h2) (h3 := h3) (h4 := h4) (h5 := h5) (h6 := h6) (h7 := h7) (h8 := h8) (h9 := h9) (h10 := h10) (h11 := h11) (h12 := h12) (h13 := h13) (h14 := h14) (h15 := h15) (h16 := h16) (h17 := h17) (now := now) (kept := kept) (isKept := isKept) (found := found) (order := order) (doubts := doubts) (doubtMany := doubtMany) (weights := weights) (worn := worn) (pairs := pairs) (isTwice := isTwice) (doer := doer) (doneTo := doneTo) (doers := doers) (tape := tape) (taped := taped) (begins := begins) (ends := ends) (sort := sort) (value := value) (isWrong := isWrong) (items := items) (itemMany := itemMany) (bowThen := bowThen) (doubtThen := doubtThen) (deedThen := deedThen) (sayingThen := sayingThen) (widths := widths) (sizes := sizes) (numbers := numbers) (moved := moved) e_1) (cwV 1 hts gX8_turn_X8_isDeed rfl rfl rfl hd_X8_isDeed ⟨Nat.le_of_ble_eq_true rfl, Nat.le_of_ble_eq_true rfl⟩) hK hP hD hS hA hE (q0 := 0) (ci := 8) rfl rfl rfl rfl hl.1 rfl (Nat.le_of_ble_eq_true rfl) dX8_turn_2 ⟨Nat.zero_le _, Nat.zero_le _⟩ (fun H locs hP hD hS => ?_)
  refine lv_if_eq (tgt := 31) hx hb dX8_turn_5 (by decide) (fun c_2 => ?_) (fun c_2 => ?_)
  · have h := ifp c_2 h
    refine lv_aload_n hx hb dX8_turn_31 rfl (lv_at hl 0 rfl) ?_
    refine lv_ldc (v := (-1000000001 : Int32)) hx hb hown (hts (.constant RX8 77 (-1000000001)) (by decide +kernel)) dX8_turn_32 ?_
    obtain ⟨u_3, e_3, h⟩ := bd_some h
    refine cm_Vi (As := [.int (-1000000001 : Int32)]) (rest := []) ⟨hx, hb, hml, hown, hts⟩ (c_X8_finding (ca := ca) (ev := ev) (h0 := h0) (h1 := h1) (h2 := h2) (h3 := h3) (h4 := h4) (h5 := h5) (h6 := h6) (h7 := h7) (h8 := h8) (h9 := h9) (h10 := h10) (h11 := h11) (h12 := h12) (h13 := h13) (h14 := h14) (h15 := h15) (h16 := h16) (h17 := h17) (now := now) (kept := kept) (isKept := isKept) (found := found) (order := order) (doubts := doubts) (doubtMany := doubtMany) (weights := weights) (worn := worn) (pairs := pairs) (isTwice := isTwice) (doer := doer) (doneTo := doneTo) (doers := doers) (tape := tape) (taped := taped) (begins := begins) (ends := ends) (sort := sort) (value := value) (isWrong := isWrong) (items := items) (itemMany := itemMany) (bowThen := bowThen) (doubtThen := doubtThen) (deedThen := deedThen) (sayingThen := sayingThen) (widths := widths) (sizes := sizes) (numbers := numbers) (moved := moved) e_3) (cwV 1 hts gX8_turn_X8_finding rfl rfl rfl hd_X8_finding ⟨Nat.le_of_ble_eq_true rfl, Nat.le_of_ble_eq_true rfl⟩) hK hP hD hS hA hE (q0 := 0) (ci := 8) rfl rfl rfl rfl hl.1 rfl (Nat.le_of_ble_eq_true rfl) dX8_turn_34 ⟨Nat.zero_le _, Nat.zero_le _⟩ (fun H locs hP hD hS => ?_)
    obtain rfl := Option.some.inj h
    exact hRet hP hD hS dX8_turn_37
  · have h := ifn c_2 h
    refine lv_iload_n hx hb dX8_turn_8 rfl (lv_at hl 2 rfl) ?_
    obtain ⟨u_4, e_4, h⟩ := bd_some h
    refine cn_Si (As := [.int a2]) (rest := []) ⟨hx, hb, hml, hown, hts⟩ (c_X8_isKind e_4) (va_cwS 1 hts gX8_turn_X8_isKind rfl rfl rfl hd_X8_isKind ⟨Nat.le_of_ble_eq_true rfl, Nat.le_of_ble_eq_true rfl⟩) hK hP hD hS hA hE rfl hl.1 rfl (Nat.le_of_ble_eq_true rfl) dX8_turn_9 ⟨Nat.zero_le _, Nat.zero_le _⟩ (fun H locs hP hD hS => ?_)
    refine lv_if_eq (tgt := 31) hx hb dX8_turn_12 (by decide) (fun c_5 => ?_) (fun c_5 => ?_)
    · have h := ifp c_5 h
      refine lv_aload_n hx hb dX8_turn_31 rfl (lv_at hl 0 rfl) ?_
      refine lv_ldc (v := (-1000000001 : Int32)) hx hb hown (hts (.constant RX8 77 (-1000000001)) (by decide +kernel)) dX8_turn_32 ?_
      obtain ⟨u_6, e_6, h⟩ := bd_some h
      refine cm_Vi (As := [.int (-1000000001 : Int32)]) (rest := []) ⟨hx, hb, hml, hown, hts⟩ (c_X8_finding (ca := ca) (ev := ev) (h0 := h0) (h1 := h1) (h2 := h2) (h3 := h3) (h4 := h4) (h5 := h5) (h6 := h6) (h7 := h7) (h8 := h8) (h9 := h9) (h10 := h10) (h11 := h11) (h12 := h12) (h13 := h13) (h14 := h14) (h15 := h15) (h16 := h16) (h17 := h17) (now := now) (kept := kept) (isKept := isKept) (found := found) (order := order) (doubts := doubts) (doubtMany := doubtMany) (weights := weights) (worn := worn) (pairs := pairs) (isTwice := isTwice) (doer := doer) (doneTo := doneTo) (doers := doers) (tape := tape) (taped := taped) (begins := begins) (ends := ends) (sort := sort) (value := value) (isWrong := isWrong) (items := items) (itemMany := itemMany) (bowThen := bowThen) (doubtThen := doubtThen) (deedThen := deedThen) (sayingThen := sayingThen) (widths := widths) (sizes := sizes) (numbers := numbers) (moved := moved) e_6) (cwV 1 hts gX8_turn_X8_finding rfl rfl rfl hd_X8_finding ⟨Nat.le_of_ble_eq_true rfl, Nat.le_of_ble_eq_true rfl⟩) hK hP hD hS hA hE (q0 := 0) (ci := 8) rfl rfl rfl rfl hl.1 rfl (Nat.le_of_ble_eq_true rfl) dX8_turn_34 ⟨Nat.zero_le _, Nat.zero_le _⟩ (fun H locs hP hD hS => ?_)
      obtain rfl := Option.some.inj h
      exact hRet hP hD hS dX8_turn_37
    · have h := ifn c_5 h
      refine lv_aload_n hx hb dX8_turn_15 rfl (lv_at hl 0 rfl) ?_
      refine lv_bipush (v := (86 : Int32)) hx hb dX8_turn_16 (by decide) ?_
      refine lv_iconst (v := (5 : Int32)) hx hb dX8_turn_18 (by decide) ?_
      refine lv_iload_n hx hb dX8_turn_19 rfl (lv_at hl 1 rfl) ?_
      refine lv_imul hx hb dX8_turn_20 ?_
      refine lv_iadd hx hb dX8_turn_21 ?_
      refine lv_iconst (v := (0 : Int32)) hx hb dX8_turn_22 (by decide) ?_
      refine lv_iadd hx hb dX8_turn_23 ?_
      refine lv_iload_n hx hb dX8_turn_24 rfl (lv_at hl 2 rfl) ?_
      obtain ⟨u_7, e_7, h⟩ := bd_some h
      refine cm_Vi (As := [.int (((86 : Int32) + ((5 : Int32) * a1)) + (0 : Int32)), .int a2]) (rest := []) ⟨hx, hb, hml, hown, hts⟩ (c_X8_become (ca := ca) (ev := ev) (h0 := h0) (h1 := h1) (h2 := h2) (h3 := h3) (h4 := h4) (h5 := h5) (h6 := h6) (h7 := h7) (h8 := h8) (h9 := h9) (h10 := h10) (h11 := h11) (h12 := h12) (h13 := h13) (h14 := h14) (h15 := h15) (h16 := h16) (h17 := h17) (now := now) (kept := kept) (isKept := isKept) (found := found) (order := order) (doubts := doubts) (doubtMany := doubtMany) (weights := weights) (worn := worn) (pairs := pairs) (isTwice := isTwice) (doer := doer) (doneTo := doneTo) (doers := doers) (tape := tape) (taped := taped) (begins := begins) (ends := ends) (sort := sort) (value := value) (isWrong := isWrong) (items := items) (itemMany := itemMany) (bowThen := bowThen) (doubtThen := doubtThen) (deedThen := deedThen) (sayingThen := sayingThen) (widths := widths) (sizes := sizes) (numbers := numbers) (moved := moved) e_7) (cwV 2 hts gX8_turn_X8_become rfl rfl rfl hd_X8_become ⟨Nat.le_of_ble_eq_true rfl, Nat.le_of_ble_eq_true rfl⟩) hK hP hD hS hA hE (q0 := 0) (ci := 8) rfl rfl rfl rfl hl.1 rfl (Nat.le_of_ble_eq_true rfl) dX8_turn_25 ⟨Nat.zero_le _, Nat.zero_le _⟩ (fun H locs hP hD hS => ?_)
      refine lv_goto (tgt := 37) hx hb dX8_turn_28 (by decide) ?_
      obtain rfl := Option.some.inj h
      exact hRet hP hD hS dX8_turn_37
abbrev rm_X8_above : Room := { frames := 0, cells := 0, slots := 0, locals := 0 }
theorem hd_X8_above : yX8_above.cls ≠ "java/lang/invoke/MethodHandle" ∧ yX8_above.cls ≠ "java/lang/invoke/VarHandle" ∧ (parseMethodDescriptor yX8_above.desc).map (fun d => d.parameters.length) = some 1 := by decide +kernel
set_option maxHeartbeats 4000000 in
set_option maxRecDepth 100000 in
theorem c_X8_above {l : Launch} {G : va_G} {ca : Nat → ClassId} {ev : Nat → Nat}  {a0 : Int32} {res : Int32} (h : f_X8_above a0 = some res) : CtI l yX8_above wsX8_above rm_X8_above G ca ev [.int a0] [] [] res := by
  unfold f_X8_above at h
  refine en_i (by decide) rfl (Nat.le_of_ble_eq_true rfl) ?_
  intro p e s m args below meth c A Q H locs ls hx hb hml hown hts hA hP hK hD hE hS hl hRet
  have hown : s.vm.findClass RX8 = some m.cls := hown
  have hl : lv_has ls 1 [(0, .int a0)] := hl
  refine lv_iload_n hx hb dX8_above_0 rfl (lv_at hl 0 rfl) ?_
  refine lv_if_ne (tgt := 8) hx hb dX8_above_1 (by decide) (fun c_1 => ?_) (fun c_1 => ?_)
  · have h := ifn c_1 h
    refine lv_iload_n hx hb dX8_above_8 rfl (lv_at hl 0 rfl) ?_
    refine lv_iconst (v := (4 : Int32)) hx hb dX8_above_9 (by decide) ?_
    refine lv_icmp_ne (tgt := 17) hx hb dX8_above_10 (by decide) (fun c_2 => ?_) (fun c_2 => ?_)
    · have h := ifn c_2 h
      refine lv_iload_n hx hb dX8_above_17 rfl (lv_at hl 0 rfl) ?_
      refine lv_iconst (v := (5 : Int32)) hx hb dX8_above_18 (by decide) ?_
      refine lv_icmp_ne (tgt := 26) hx hb dX8_above_19 (by decide) (fun c_3 => ?_) (fun c_3 => ?_)
      · have h := ifn c_3 h
        refine lv_iconst (v := (0 : Int32)) hx hb dX8_above_26 (by decide) ?_
        obtain rfl := Option.some.inj h
        exact hRet hP hD hS dX8_above_27
      · have h := ifp c_3 h
        refine lv_iconst (v := (1 : Int32)) hx hb dX8_above_22 (by decide) ?_
        refine lv_goto (tgt := 27) hx hb dX8_above_23 (by decide) ?_
        obtain rfl := Option.some.inj h
        exact hRet hP hD hS dX8_above_27
    · have h := ifp c_2 h
      refine lv_iconst (v := (3 : Int32)) hx hb dX8_above_13 (by decide) ?_
      refine lv_goto (tgt := 27) hx hb dX8_above_14 (by decide) ?_
      obtain rfl := Option.some.inj h
      exact hRet hP hD hS dX8_above_27
  · have h := ifp c_1 h
    refine lv_iconst (v := (-1 : Int32)) hx hb dX8_above_4 (by decide) ?_
    refine lv_goto (tgt := 27) hx hb dX8_above_5 (by decide) ?_
    obtain rfl := Option.some.inj h
    exact hRet hP hD hS dX8_above_27
abbrev rm_X8_as : Room := { frames := 2, cells := 0, slots := 0, locals := 43 }
theorem hd_X8_as : yX8_as.cls = RX8 ∧ yX8_as.cls ≠ "java/lang/invoke/MethodHandle" ∧ yX8_as.cls ≠ "java/lang/invoke/VarHandle" ∧ (parseMethodDescriptor yX8_as.desc).map (fun d => d.parameters.length) = some 2 := by decide +kernel
set_option maxHeartbeats 4000000 in
set_option maxRecDepth 100000 in
theorem c_X8_as {l : Launch} {G : va_G} {ca : Nat → ClassId} {ev : Nat → Nat} {h0 h1 h2 h3 h4 h5 h6 h7 h8 h9 h10 h11 h12 h13 h14 h15 h16 h17 : Nat} {now : (Nat → Int32)} {kept : (Nat → Int32)} {isKept : Int32} {found : (Nat → Int32)} {order : (Nat → Int32)} {doubts : (Nat → Int32)} {doubtMany : Int32} {weights : (Nat → Int64)} {worn : (Nat → Int32)} {pairs : Int64} {isTwice : Int32} {doer : (Nat → Int32)} {doneTo : (Nat → Int32)} {doers : (Nat → Int64)} {tape : (Nat → Int32)} {taped : Int32} {begins : Int32} {ends : Int32} {sort : Int32} {value : Int32} {isWrong : Int32} {items : (Nat → Int32)} {itemMany : Int32} {bowThen : Int32} {doubtThen : Int32} {deedThen : Int32} {sayingThen : Int32} {widths : (Nat → Int32)} {sizes : (Nat → Int32)} {numbers : (Nat → Int64)} {moved : (Nat → Int64)} {a1 : Int32} {a2 : Int32} {N : Nat} {res : Int32 × (Nat → Int32)} (h : f_X8_as N now found a1 a2 = some res) : CtI l yX8_as wsX8_as rm_X8_as G ca ev [.ref h0, .int a1, .int a2] (wM ca ev h0 h1 h2 h3 h4 h5 h6 h7 h8 h9 h10 h11 h12 h13 h14 h15 h16 h17 now kept isKept found order doubts doubtMany weights worn pairs isTwice doer doneTo doers tape taped begins ends sort value isWrong items itemMany bowThen doubtThen deedThen sayingThen widths sizes numbers moved) (wM ca ev h0 h1 h2 h3 h4 h5 h6 h7 h8 h9 h10 h11 h12 h13 h14 h15 h16 h17 now kept isKept res.2 order doubts doubtMany weights worn pairs isTwice doer doneTo doers tape taped begins ends sort value isWrong items itemMany bowThen doubtThen deedThen sayingThen widths sizes numbers moved) res.1 := by
  unfold f_X8_as at h
  refine en_i (by decide) rfl (Nat.le_of_ble_eq_true rfl) ?_
  intro p e s m args below meth c A Q H locs ls hx hb hml hown hts hA hP hK hD hE hS hl hRet
  have hown : s.vm.findClass RX8 = some m.cls := hown
  have hl : lv_has ls 4 [(0, .ref h0), (1, .int a1), (2, .int a2)] := hl
  refine lv_aload_n hx hb dX8_as_0 rfl (lv_at hl 0 rfl) ?_
  refine lv_iload_n hx hb dX8_as_1 rfl (lv_at hl 1 rfl) ?_
  obtain ⟨u_1, e_1, h⟩ := bd_some h
  refine cm_Vi (As := [.int a1]) (rest := []) ⟨hx, hb, hml, hown, hts⟩ (c_X8_isDeed (ca := ca) (ev := ev) (h0 := h0) (h1 := h1) (h2 := h2) (h3 := h3) (h4 := h4) (h5 := h5) (h6 := h6) (h7 := h7) (h8 := h8) (h9 := h9) (h10 := h10) (h11 := h11) (h12 := h12) (h13 := h13) (h14 := h14) (h15 := h15) (h16 := h16) (h17 := h17) (now := now) (kept := kept) (isKept := isKept) (found := found) (order := order) (doubts := doubts) (doubtMany := doubtMany) (weights := weights) (worn := worn) (pairs := pairs) (isTwice := isTwice) (doer := doer) (doneTo := doneTo) (doers := doers) (tape := tape) (taped := taped) (begins := begins) (ends := ends) (sort := sort) (value := value) (isWrong := isWrong) (items := items) (itemMany := itemMany) (bowThen := bowThen) (doubtThen := doubtThen) (deedThen := deedThen) (sayingThen := sayingThen) (widths := widths) (sizes := sizes) (numbers := numbers) (moved := moved) e_1) (cwV 1 hts gX8_as_X8_isDeed rfl rfl rfl hd_X8_isDeed ⟨Nat.le_of_ble_eq_true rfl, Nat.le_of_ble_eq_true rfl⟩) hK hP hD hS hA hE (q0 := 0) (ci := 8) rfl rfl rfl rfl hl.1 rfl (Nat.le_of_ble_eq_true rfl) dX8_as_2 ⟨Nat.zero_le _, Nat.zero_le _⟩ (fun H locs hP hD hS => ?_)
  refine lv_if_eq (tgt := 15) hx hb dX8_as_5 (by decide) (fun c_2 => ?_) (fun c_2 => ?_)
  · have h := ifp c_2 h
    refine lv_aload_n hx hb dX8_as_15 rfl (lv_at hl 0 rfl) ?_
    refine lv_ldc (v := (-1000000001 : Int32)) hx hb hown (hts (.constant RX8 77 (-1000000001)) (by decide +kernel)) dX8_as_16 ?_
    obtain ⟨u_3, e_3, h⟩ := bd_some h
    refine cm_Vi (As := [.int (-1000000001 : Int32)]) (rest := []) ⟨hx, hb, hml, hown, hts⟩ (c_X8_finding (ca := ca) (ev := ev) (h0 := h0) (h1 := h1) (h2 := h2) (h3 := h3) (h4 := h4) (h5 := h5) (h6 := h6) (h7 := h7) (h8 := h8) (h9 := h9) (h10 := h10) (h11 := h11) (h12 := h12) (h13 := h13) (h14 := h14) (h15 := h15) (h16 := h16) (h17 := h17) (now := now) (kept := kept) (isKept := isKept) (found := found) (order := order) (doubts := doubts) (doubtMany := doubtMany) (weights := weights) (worn := worn) (pairs := pairs) (isTwice := isTwice) (doer := doer) (doneTo := doneTo) (doers := doers) (tape := tape) (taped := taped) (begins := begins) (ends := ends) (sort := sort) (value := value) (isWrong := isWrong) (items := items) (itemMany := itemMany) (bowThen := bowThen) (doubtThen := doubtThen) (deedThen := deedThen) (sayingThen := sayingThen) (widths := widths) (sizes := sizes) (numbers := numbers) (moved := moved) e_3) (cwV 1 hts gX8_as_X8_finding rfl rfl rfl hd_X8_finding ⟨Nat.le_of_ble_eq_true rfl, Nat.le_of_ble_eq_true rfl⟩) hK hP hD hS hA hE (q0 := 0) (ci := 8) rfl rfl rfl rfl hl.1 rfl (Nat.le_of_ble_eq_true rfl) dX8_as_18 ⟨Nat.zero_le _, Nat.zero_le _⟩ (fun H locs hP hD hS => ?_)
    obtain rfl := Option.some.inj h
    exact hRet hP hD hS dX8_as_21
  · have h := ifn c_2 h
    refine lv_iload_n hx hb dX8_as_8 rfl (lv_at hl 2 rfl) ?_
    obtain ⟨u_4, e_4, h⟩ := bd_some h
    refine cn_Si (As := [.int a2]) (rest := []) ⟨hx, hb, hml, hown, hts⟩ (c_X8_isKind e_4) (va_cwS 1 hts gX8_as_X8_isKind rfl rfl rfl hd_X8_isKind ⟨Nat.le_of_ble_eq_true rfl, Nat.le_of_ble_eq_true rfl⟩) hK hP hD hS hA hE rfl hl.1 rfl (Nat.le_of_ble_eq_true rfl) dX8_as_9 ⟨Nat.zero_le _, Nat.zero_le _⟩ (fun H locs hP hD hS => ?_)
    refine lv_if_ne (tgt := 22) hx hb dX8_as_12 (by decide) (fun c_5 => ?_) (fun c_5 => ?_)
    · have h := ifn c_5 h
      refine lv_aload_n hx hb dX8_as_22 rfl (lv_at hl 0 rfl) ?_
      refine lv_iload_n hx hb dX8_as_23 rfl (lv_at hl 1 rfl) ?_
      refine lv_iconst (v := (0 : Int32)) hx hb dX8_as_24 (by decide) ?_
      obtain ⟨u_6, e_6, h⟩ := bd_some h
      refine cm_Vi (As := [.int a1, .int (0 : Int32)]) (rest := []) ⟨hx, hb, hml, hown, hts⟩ (c_X8_deedIs (ca := ca) (ev := ev) (h0 := h0) (h1 := h1) (h2 := h2) (h3 := h3) (h4 := h4) (h5 := h5) (h6 := h6) (h7 := h7) (h8 := h8) (h9 := h9) (h10 := h10) (h11 := h11) (h12 := h12) (h13 := h13) (h14 := h14) (h15 := h15) (h16 := h16) (h17 := h17) (now := now) (kept := kept) (isKept := isKept) (found := found) (order := order) (doubts := doubts) (doubtMany := doubtMany) (weights := weights) (worn := worn) (pairs := pairs) (isTwice := isTwice) (doer := doer) (doneTo := doneTo) (doers := doers) (tape := tape) (taped := taped) (begins := begins) (ends := ends) (sort := sort) (value := value) (isWrong := isWrong) (items := items) (itemMany := itemMany) (bowThen := bowThen) (doubtThen := doubtThen) (deedThen := deedThen) (sayingThen := sayingThen) (widths := widths) (sizes := sizes) (numbers := numbers) (moved := moved) e_6) (cwV 2 hts gX8_as_X8_deedIs rfl rfl rfl hd_X8_deedIs ⟨Nat.le_of_ble_eq_true rfl, Nat.le_of_ble_eq_true rfl⟩) hK hP hD hS hA hE (q0 := 0) (ci := 8) rfl rfl rfl rfl hl.1 rfl (Nat.le_of_ble_eq_true rfl) dX8_as_25 ⟨Nat.zero_le _, Nat.zero_le _⟩ (fun H locs hP hD hS => ?_)
      refine lv_istore_n (lv' := [(3, .int u_6), (0, .ref h0), (1, .int a1), (2, .int a2)]) hx hb dX8_as_28 rfl hl (by decide) rfl (fun ls hl => ?_)
      have L_29 : ∀ {x2_29 : Int32}  (n_29 : Nat) {x3_29 : Int32} {uL_29 : Int32} {H : Heap} {locs : List Loc} {ls : Array Slot}, f_X8_as_29 x2_29  n_29 x3_29 = some uL_29 → va_P G vwCl (wM ca ev h0 h1 h2 h3 h4 h5 h6 h7 h8 h9 h10 h11 h12 h13 h14 h15 h16 h17 now kept isKept found order doubts doubtMany weights worn pairs isTwice doer doneTo doers tape taped begins ends sort value isWrong items itemMany bowThen doubtThen deedThen sayingThen widths sizes numbers moved) H → va_D A (wM ca ev h0 h1 h2 h3 h4 h5 h6 h7 h8 h9 h10 h11 h12 h13 h14 h15 h16 h17 now kept isKept found order doubts doubtMany weights worn pairs isTwice doer doneTo doers tape taped begins ends sort value isWrong items itemMany bowThen doubtThen deedThen sayingThen widths sizes numbers moved) → va_S A s.heap H locs → lv_has ls 4 [(0, .ref h0), (1, .int a1), (2, .int x2_29), (3, .int x3_29)] → (∀ {H : Heap} {locs : List Loc} {ls : Array Slot}, va_P G vwCl (wM ca ev h0 h1 h2 h3 h4 h5 h6 h7 h8 h9 h10 h11 h12 h13 h14 h15 h16 h17 now kept isKept found order doubts doubtMany weights worn pairs isTwice doer doneTo doers tape taped begins ends sort value isWrong items itemMany bowThen doubtThen deedThen sayingThen widths sizes numbers moved) H → va_D A (wM ca ev h0 h1 h2 h3 h4 h5 h6 h7 h8 h9 h10 h11 h12 h13 h14 h15 h16 h17 now kept isKept found order doubts doubtMany weights worn pairs isTwice doer doneTo doers tape taped begins ends sort value isWrong items itemMany bowThen doubtThen deedThen sayingThen widths sizes numbers moved) → va_S A s.heap H locs → lv_has ls 4 [(0, .ref h0), (1, .int a1), (3, .int uL_29)] → W p l e rm_X8_as s m args below meth c H locs 0 0 Q (F0 m 46 ls [])) → W p l e rm_X8_as s m args below meth c H locs 0 0 Q (F0 m 29 ls []) := by
        intro x2_29 n_29
        induction n_29 with
        | zero => intro x3_29 uL_29 H locs ls h; exact absurd h (by rw [f_X8_as_29]; exact fun z => nomatch z)
        | succ n_29 ih =>
          intro x3_29 uL_29 H locs ls h hP hD hS hl JK_29
          rw [f_X8_as_29] at h
          refine lv_iload_n hx hb dX8_as_29 rfl (lv_at hl 3 rfl) ?_
          refine lv_if_lt (tgt := 46) hx hb dX8_as_30 (by decide) (fun c_7 => ?_) (fun c_7 => ?_)
          · have h := ifp c_7 h
            obtain rfl := Option.some.inj h
            exact JK_29 hP hD hS (lv_sub hl [0, 1, 3] rfl)
          · have h := ifn c_7 h
            refine lv_iload_n hx hb dX8_as_33 rfl (lv_at hl 3 rfl) ?_
            refine lv_iload_n hx hb dX8_as_34 rfl (lv_at hl 2 rfl) ?_
            refine lv_icmp_eq (tgt := 46) hx hb dX8_as_35 (by decide) (fun c_8 => ?_) (fun c_8 => ?_)
            · have h := ifp c_8 h
              obtain rfl := Option.some.inj h
              exact JK_29 hP hD hS (lv_sub hl [0, 1, 3] rfl)
            · have h := ifn c_8 h
              refine lv_iload_n hx hb dX8_as_38 rfl (lv_at hl 3 rfl) ?_
              obtain ⟨u_9, e_9, h⟩ := bd_some h
              refine cn_Si (As := [.int x3_29]) (rest := []) ⟨hx, hb, hml, hown, hts⟩ (c_X8_above e_9) (va_cwS 1 hts gX8_as_X8_above rfl rfl rfl hd_X8_above ⟨Nat.le_of_ble_eq_true rfl, Nat.le_of_ble_eq_true rfl⟩) hK hP hD hS hA hE rfl hl.1 rfl (Nat.le_of_ble_eq_true rfl) dX8_as_39 ⟨Nat.zero_le _, Nat.zero_le _⟩ (fun H locs hP hD hS => ?_)
              refine lv_istore_n (lv' := [(3, .int u_9), (0, .ref h0), (1, .int a1), (2, .int x2_29)]) hx hb dX8_as_42 rfl hl (by decide) rfl (fun ls hl => ?_)
              refine lv_goto (tgt := 29) hx hb dX8_as_43 (by decide) ?_
              exact ih h hP hD hS (lv_sub hl [1, 2, 3, 0] rfl) JK_29
      obtain ⟨u_10, e_10, h⟩ := bd_some h
      refine L_29 _ e_10 hP hD hS (lv_sub hl [1, 2, 3, 0] rfl) ?_
      intro H locs ls hP hD hS hl
      refine lv_iload_n hx hb dX8_as_46 rfl (lv_at hl 2 rfl) ?_
      refine lv_if_ge (tgt := 59) hx hb dX8_as_47 (by decide) (fun c_11 => ?_) (fun c_11 => ?_)
      · have h := ifp c_11 h
        refine lv_aload_n hx hb dX8_as_59 rfl (lv_at hl 0 rfl) ?_
        refine lv_iload_n hx hb dX8_as_60 rfl (lv_at hl 1 rfl) ?_
        refine lv_iconst (v := (4 : Int32)) hx hb dX8_as_61 (by decide) ?_
        obtain ⟨u_12, e_12, h⟩ := bd_some h
        refine cm_Vi (As := [.int a1, .int (4 : Int32)]) (rest := []) ⟨hx, hb, hml, hown, hts⟩ (c_X8_deedIs (ca := ca) (ev := ev) (h0 := h0) (h1 := h1) (h2 := h2) (h3 := h3) (h4 := h4) (h5 := h5) (h6 := h6) (h7 := h7) (h8 := h8) (h9 := h9) (h10 := h10) (h11 := h11) (h12 := h12) (h13 := h13) (h14 := h14) (h15 := h15) (h16 := h16) (h17 := h17) (now := now) (kept := kept) (isKept := isKept) (found := found) (order := order) (doubts := doubts) (doubtMany := doubtMany) (weights := weights) (worn := worn) (pairs := pairs) (isTwice := isTwice) (doer := doer) (doneTo := doneTo) (doers := doers) (tape := tape) (taped := taped) (begins := begins) (ends := ends) (sort := sort) (value := value) (isWrong := isWrong) (items := items) (itemMany := itemMany) (bowThen := bowThen) (doubtThen := doubtThen) (deedThen := deedThen) (sayingThen := sayingThen) (widths := widths) (sizes := sizes) (numbers := numbers) (moved := moved) e_12) (cwV 2 hts gX8_as_X8_deedIs rfl rfl rfl hd_X8_deedIs ⟨Nat.le_of_ble_eq_true rfl, Nat.le_of_ble_eq_true rfl⟩) hK hP hD hS hA hE (q0 := 0) (ci := 8) rfl rfl rfl rfl hl.1 rfl (Nat.le_of_ble_eq_true rfl) dX8_as_62 ⟨Nat.zero_le _, Nat.zero_le _⟩ (fun H locs hP hD hS => ?_)
        obtain rfl := Option.some.inj h
        exact hRet hP hD hS dX8_as_65
      · have h := ifn c_11 h
        refine lv_aload_n hx hb dX8_as_50 rfl (lv_at hl 0 rfl) ?_
        refine lv_ldc (v := (-1000000003 : Int32)) hx hb hown (hts (.constant RX8 208 (-1000000003)) (by decide +kernel)) dX8_as_51 ?_
        obtain ⟨u_13, e_13, h⟩ := bd_some h
        refine cm_Vi (As := [.int (-1000000003 : Int32)]) (rest := []) ⟨hx, hb, hml, hown, hts⟩ (c_X8_finding (ca := ca) (ev := ev) (h0 := h0) (h1 := h1) (h2 := h2) (h3 := h3) (h4 := h4) (h5 := h5) (h6 := h6) (h7 := h7) (h8 := h8) (h9 := h9) (h10 := h10) (h11 := h11) (h12 := h12) (h13 := h13) (h14 := h14) (h15 := h15) (h16 := h16) (h17 := h17) (now := now) (kept := kept) (isKept := isKept) (found := found) (order := order) (doubts := doubts) (doubtMany := doubtMany) (weights := weights) (worn := worn) (pairs := pairs) (isTwice := isTwice) (doer := doer) (doneTo := doneTo) (doers := doers) (tape := tape) (taped := taped) (begins := begins) (ends := ends) (sort := sort) (value := value) (isWrong := isWrong) (items := items) (itemMany := itemMany) (bowThen := bowThen) (doubtThen := doubtThen) (deedThen := deedThen) (sayingThen := sayingThen) (widths := widths) (sizes := sizes) (numbers := numbers) (moved := moved) e_13) (cwV 1 hts gX8_as_X8_finding rfl rfl rfl hd_X8_finding ⟨Nat.le_of_ble_eq_true rfl, Nat.le_of_ble_eq_true rfl⟩) hK hP hD hS hA hE (q0 := 0) (ci := 8) rfl rfl rfl rfl hl.1 rfl (Nat.le_of_ble_eq_true rfl) dX8_as_53 ⟨Nat.zero_le _, Nat.zero_le _⟩ (fun H locs hP hD hS => ?_)
        refine lv_goto (tgt := 65) hx hb dX8_as_56 (by decide) ?_
        obtain rfl := Option.some.inj h
        exact hRet hP hD hS dX8_as_65
    · have h := ifp c_5 h
      refine lv_aload_n hx hb dX8_as_15 rfl (lv_at hl 0 rfl) ?_
      refine lv_ldc (v := (-1000000001 : Int32)) hx hb hown (hts (.constant RX8 77 (-1000000001)) (by decide +kernel)) dX8_as_16 ?_
      obtain ⟨u_14, e_14, h⟩ := bd_some h
      refine cm_Vi (As := [.int (-1000000001 : Int32)]) (rest := []) ⟨hx, hb, hml, hown, hts⟩ (c_X8_finding (ca := ca) (ev := ev) (h0 := h0) (h1 := h1) (h2 := h2) (h3 := h3) (h4 := h4) (h5 := h5) (h6 := h6) (h7 := h7) (h8 := h8) (h9 := h9) (h10 := h10) (h11 := h11) (h12 := h12) (h13 := h13) (h14 := h14) (h15 := h15) (h16 := h16) (h17 := h17) (now := now) (kept := kept) (isKept := isKept) (found := found) (order := order) (doubts := doubts) (doubtMany := doubtMany) (weights := weights) (worn := worn) (pairs := pairs) (isTwice := isTwice) (doer := doer) (doneTo := doneTo) (doers := doers) (tape := tape) (taped := taped) (begins := begins) (ends := ends) (sort := sort) (value := value) (isWrong := isWrong) (items := items) (itemMany := itemMany) (bowThen := bowThen) (doubtThen := doubtThen) (deedThen := deedThen) (sayingThen := sayingThen) (widths := widths) (sizes := sizes) (numbers := numbers) (moved := moved) e_14) (cwV 1 hts gX8_as_X8_finding rfl rfl rfl hd_X8_finding ⟨Nat.le_of_ble_eq_true rfl, Nat.le_of_ble_eq_true rfl⟩) hK hP hD hS hA hE (q0 := 0) (ci := 8) rfl rfl rfl rfl hl.1 rfl (Nat.le_of_ble_eq_true rfl) dX8_as_18 ⟨Nat.zero_le _, Nat.zero_le _⟩ (fun H locs hP hD hS => ?_)
      obtain rfl := Option.some.inj h
      exact hRet hP hD hS dX8_as_21
abbrev rm_X8_findDoers : Room := { frames := 3, cells := 0, slots := 0, locals := 72 }
theorem hd_X8_findDoers : yX8_findDoers.cls = RX8 ∧ yX8_findDoers.cls ≠ "java/lang/invoke/MethodHandle" ∧ yX8_findDoers.cls ≠ "java/lang/invoke/VarHandle" ∧ (parseMethodDescriptor yX8_findDoers.desc).map (fun d => d.parameters.length) = some 1 := by decide +kernel
set_option maxHeartbeats 4000000 in
set_option maxRecDepth 100000 in
theorem c_X8_findDoers {l : Launch} {G : va_G} {ca : Nat → ClassId} {ev : Nat → Nat} {h0 h1 h2 h3 h4 h5 h6 h7 h8 h9 h10 h11 h12 h13 h14 h15 h16 h17 : Nat} {now : (Nat → Int32)} {kept : (Nat → Int32)} {isKept : Int32} {found : (Nat → Int32)} {order : (Nat → Int32)} {doubts : (Nat → Int32)} {doubtMany : Int32} {weights : (Nat → Int64)} {worn : (Nat → Int32)} {pairs : Int64} {isTwice : Int32} {doer : (Nat → Int32)} {doneTo : (Nat → Int32)} {doers : (Nat → Int64)} {tape : (Nat → Int32)} {taped : Int32} {begins : Int32} {ends : Int32} {sort : Int32} {value : Int32} {isWrong : Int32} {items : (Nat → Int32)} {itemMany : Int32} {bowThen : Int32} {doubtThen : Int32} {deedThen : Int32} {sayingThen : Int32} {widths : (Nat → Int32)} {sizes : (Nat → Int32)} {numbers : (Nat → Int64)} {moved : (Nat → Int64)} {a1 : Int32} {N : Nat} {res : (Nat → Int32) × Int64 × Int32 × (Nat → Int32) × (Nat → Int32)} (h : f_X8_findDoers N now order doubts doubtMany worn pairs isTwice doer doneTo a1 = some res) : CtV l yX8_findDoers wsX8_findDoers rm_X8_findDoers G ca ev [.ref h0, .int a1] (wM ca ev h0 h1 h2 h3 h4 h5 h6 h7 h8 h9 h10 h11 h12 h13 h14 h15 h16 h17 now kept isKept found order doubts doubtMany weights worn pairs isTwice doer doneTo doers tape taped begins ends sort value isWrong items itemMany bowThen doubtThen deedThen sayingThen widths sizes numbers moved) (wM ca ev h0 h1 h2 h3 h4 h5 h6 h7 h8 h9 h10 h11 h12 h13 h14 h15 h16 h17 now kept isKept found order doubts doubtMany weights res.1 res.2.1 res.2.2.1 res.2.2.2.1 res.2.2.2.2 doers tape taped begins ends sort value isWrong items itemMany bowThen doubtThen deedThen sayingThen widths sizes numbers moved) := by
  unfold f_X8_findDoers at h
  refine en_v (by decide) rfl (Nat.le_of_ble_eq_true rfl) ?_
  intro p e s m args below meth c A Q H locs ls hx hb hml hown hts hA hP hK hD hE hS hl hRet
  have hown : s.vm.findClass RX8 = some m.cls := hown
  have hl : lv_has ls 3 [(0, .ref h0), (1, .int a1)] := hl
  have hin_X8 : ∀ w ∈ u_ws RX8 TX8 32, w ∈ wsX8_findDoers := fun w h9 => List.mem_cons_of_mem _ (List.mem_append_right _ h9)
  have fk_29 := hts (.fieldLink RX8 29 "MaskBowsModel" "worn" "[I") (by decide +kernel)
  have fk_32 := hts (.fieldLink RX8 32 "MaskBowsModel" "doer" "[I") (by decide +kernel)
  have fk_35 := hts (.fieldLink RX8 35 "MaskBowsModel" "doneTo" "[I") (by decide +kernel)
  have fk_9 := hts (.fieldLink RX8 9 "MaskBowsModel" "now" "[I") (by decide +kernel)
  refine lv_iconst (v := (0 : Int32)) hx hb dX8_findDoers_0 (by decide) ?_
  refine lv_istore_n (lv' := [(2, .int (0 : Int32)), (0, .ref h0), (1, .int a1)]) hx hb dX8_findDoers_1 rfl hl (by decide) rfl (fun ls hl => ?_)
  have L_2 : ∀ {x1_2 : Int32} {now_2 : (Nat → Int32)} {order_2 : (Nat → Int32)} {doubts_2 : (Nat → Int32)} {doubtMany_2 : Int32} (n_2 : Nat) {x2_2 : Int32} {worn_2 : (Nat → Int32)} {pairs_2 : Int64} {isTwice_2 : Int32} {doer_2 : (Nat → Int32)} {doneTo_2 : (Nat → Int32)} {uL_2 : (Nat → Int32) × Int64 × Int32 × (Nat → Int32) × (Nat → Int32)} {H : Heap} {locs : List Loc} {ls : Array Slot}, f_X8_findDoers_2 N x1_2 now_2 order_2 doubts_2 doubtMany_2  n_2 x2_2 worn_2 pairs_2 isTwice_2 doer_2 doneTo_2 = some uL_2 → va_P G vwCl (wM ca ev h0 h1 h2 h3 h4 h5 h6 h7 h8 h9 h10 h11 h12 h13 h14 h15 h16 h17 now_2 kept isKept found order_2 doubts_2 doubtMany_2 weights worn_2 pairs_2 isTwice_2 doer_2 doneTo_2 doers tape taped begins ends sort value isWrong items itemMany bowThen doubtThen deedThen sayingThen widths sizes numbers moved) H → va_D A (wM ca ev h0 h1 h2 h3 h4 h5 h6 h7 h8 h9 h10 h11 h12 h13 h14 h15 h16 h17 now_2 kept isKept found order_2 doubts_2 doubtMany_2 weights worn_2 pairs_2 isTwice_2 doer_2 doneTo_2 doers tape taped begins ends sort value isWrong items itemMany bowThen doubtThen deedThen sayingThen widths sizes numbers moved) → va_S A s.heap H locs → lv_has ls 3 [(0, .ref h0), (1, .int x1_2), (2, .int x2_2)] → (∀ {H : Heap} {locs : List Loc} {ls : Array Slot}, va_P G vwCl (wM ca ev h0 h1 h2 h3 h4 h5 h6 h7 h8 h9 h10 h11 h12 h13 h14 h15 h16 h17 now_2 kept isKept found order_2 doubts_2 doubtMany_2 weights uL_2.1 uL_2.2.1 uL_2.2.2.1 uL_2.2.2.2.1 uL_2.2.2.2.2 doers tape taped begins ends sort value isWrong items itemMany bowThen doubtThen deedThen sayingThen widths sizes numbers moved) H → va_D A (wM ca ev h0 h1 h2 h3 h4 h5 h6 h7 h8 h9 h10 h11 h12 h13 h14 h15 h16 h17 now_2 kept isKept found order_2 doubts_2 doubtMany_2 weights uL_2.1 uL_2.2.1 uL_2.2.2.1 uL_2.2.2.2.1 uL_2.2.2.2.2 doers tape taped begins ends sort value isWrong items itemMany bowThen doubtThen deedThen sayingThen widths sizes numbers moved) → va_S A s.heap H locs → lv_has ls 3 [] → W p l e rm_X8_findDoers s m args below meth c H locs 0 0 Q (F0 m 63 ls [])) → W p l e rm_X8_findDoers s m args below meth c H locs 0 0 Q (F0 m 2 ls []) := by
    intro x1_2 now_2 order_2 doubts_2 doubtMany_2 n_2
    induction n_2 with
    | zero => intro x2_2 worn_2 pairs_2 isTwice_2 doer_2 doneTo_2 uL_2 H locs ls h; exact absurd h (by rw [f_X8_findDoers_2]; exact fun z => nomatch z)
    | succ n_2 ih =>
      intro x2_2 worn_2 pairs_2 isTwice_2 doer_2 doneTo_2 uL_2 H locs ls h hP hD hS hl JK_2
      rw [f_X8_findDoers_2] at h
      refine lv_iload_n hx hb dX8_findDoers_2 rfl (lv_at hl 2 rfl) ?_
      refine lv_aload_n hx hb dX8_findDoers_3 rfl (lv_at hl 0 rfl) ?_
      refine va_get (D := G) (ci := 8) (v := .ref h1) (C := RX8) (T := TX8) (N := 32) hx hb hts hin_X8 hown hK hP 0 rfl rfl 0 (by decide) fk_9 (fun _ h9 => h9) rfl dX8_findDoers_4 ?_
      refine lv_iconst (v := (4 : Int32)) hx hb dX8_findDoers_7 (by decide) ?_
      refine va_iald hx hb hK hP 1 0 rfl rfl (ix_in (by decide)) dX8_findDoers_8 ?_
      refine lv_icmp_ge (tgt := 63) hx hb dX8_findDoers_9 (by decide) (fun c_1 => ?_) (fun c_1 => ?_)
      · have h := ifp c_1 h
        obtain rfl := Option.some.inj h
        exact JK_2 hP hD hS (lv_sub hl [] rfl)
      · have h := ifn c_1 h
        refine lv_aload_n hx hb dX8_findDoers_12 rfl (lv_at hl 0 rfl) ?_
        refine lv_iload_n hx hb dX8_findDoers_13 rfl (lv_at hl 1 rfl) ?_
        refine lv_aload_n hx hb dX8_findDoers_14 rfl (lv_at hl 0 rfl) ?_
        refine lv_iload_n hx hb dX8_findDoers_15 rfl (lv_at hl 2 rfl) ?_
        refine lv_iconst (v := (1 : Int32)) hx hb dX8_findDoers_16 (by decide) ?_
        obtain ⟨u_2, e_2, h⟩ := bd_some h
        refine cm_Vi (As := [.int x2_2, .int (1 : Int32)]) (rest := [.int x1_2, .ref h0]) ⟨hx, hb, hml, hown, hts⟩ (c_X8_deedIs (ca := ca) (ev := ev) (h0 := h0) (h1 := h1) (h2 := h2) (h3 := h3) (h4 := h4) (h5 := h5) (h6 := h6) (h7 := h7) (h8 := h8) (h9 := h9) (h10 := h10) (h11 := h11) (h12 := h12) (h13 := h13) (h14 := h14) (h15 := h15) (h16 := h16) (h17 := h17) (now := now_2) (kept := kept) (isKept := isKept) (found := found) (order := order_2) (doubts := doubts_2) (doubtMany := doubtMany_2) (weights := weights) (worn := worn_2) (pairs := pairs_2) (isTwice := isTwice_2) (doer := doer_2) (doneTo := doneTo_2) (doers := doers) (tape := tape) (taped := taped) (begins := begins) (ends := ends) (sort := sort) (value := value) (isWrong := isWrong) (items := items) (itemMany := itemMany) (bowThen := bowThen) (doubtThen := doubtThen) (deedThen := deedThen) (sayingThen := sayingThen) (widths := widths) (sizes := sizes) (numbers := numbers) (moved := moved) e_2) (cwV 2 hts gX8_findDoers_X8_deedIs rfl rfl rfl hd_X8_deedIs ⟨Nat.le_of_ble_eq_true rfl, Nat.le_of_ble_eq_true rfl⟩) hK hP hD hS hA hE (q0 := 0) (ci := 8) rfl rfl rfl rfl hl.1 rfl (Nat.le_of_ble_eq_true rfl) dX8_findDoers_17 ⟨Nat.zero_le _, Nat.zero_le _⟩ (fun H locs hP hD hS => ?_)
        obtain ⟨u_3, e_3, h⟩ := bd_some h
        refine cm_Vv (As := [.int x1_2, .int u_2]) (rest := []) ⟨hx, hb, hml, hown, hts⟩ (c_X8_goes (ca := ca) (ev := ev) (h0 := h0) (h1 := h1) (h2 := h2) (h3 := h3) (h4 := h4) (h5 := h5) (h6 := h6) (h7 := h7) (h8 := h8) (h9 := h9) (h10 := h10) (h11 := h11) (h12 := h12) (h13 := h13) (h14 := h14) (h15 := h15) (h16 := h16) (h17 := h17) (now := now_2) (kept := kept) (isKept := isKept) (found := found) (order := order_2) (doubts := doubts_2) (doubtMany := doubtMany_2) (weights := weights) (worn := worn_2) (pairs := pairs_2) (isTwice := isTwice_2) (doer := doer_2) (doneTo := doneTo_2) (doers := doers) (tape := tape) (taped := taped) (begins := begins) (ends := ends) (sort := sort) (value := value) (isWrong := isWrong) (items := items) (itemMany := itemMany) (bowThen := bowThen) (doubtThen := doubtThen) (deedThen := deedThen) (sayingThen := sayingThen) (widths := widths) (sizes := sizes) (numbers := numbers) (moved := moved) e_3) (cwV 2 hts gX8_findDoers_X8_goes rfl rfl rfl hd_X8_goes ⟨Nat.le_of_ble_eq_true rfl, Nat.le_of_ble_eq_true rfl⟩) hK hP hD hS hA hE (q0 := 0) (ci := 8) rfl rfl rfl rfl hl.1 rfl (Nat.le_of_ble_eq_true rfl) dX8_findDoers_20 ⟨Nat.zero_le _, Nat.zero_le _⟩ (fun H locs hP hD hS => ?_)
        refine lv_aload_n hx hb dX8_findDoers_23 rfl (lv_at hl 0 rfl) ?_
        refine va_get (D := G) (ci := 8) (v := .ref h8) (C := RX8) (T := TX8) (N := 32) hx hb hts hin_X8 hown hK hP 0 rfl rfl 11 (by decide) fk_32 (fun _ h9 => h9) rfl dX8_findDoers_24 ?_
        refine lv_iload_n hx hb dX8_findDoers_27 rfl (lv_at hl 2 rfl) ?_
        refine lv_aload_n hx hb dX8_findDoers_28 rfl (lv_at hl 0 rfl) ?_
        refine va_get (D := G) (ci := 8) (v := .ref h7) (C := RX8) (T := TX8) (N := 32) hx hb hts hin_X8 hown hK hP 0 rfl rfl 8 (by decide) fk_29 (fun _ h9 => h9) rfl dX8_findDoers_29 ?_
        refine lv_aload_n hx hb dX8_findDoers_32 rfl (lv_at hl 0 rfl) ?_
        refine lv_iload_n hx hb dX8_findDoers_33 rfl (lv_at hl 2 rfl) ?_
        refine lv_iconst (v := (2 : Int32)) hx hb dX8_findDoers_34 (by decide) ?_
        obtain ⟨u_4, e_4, h⟩ := bd_some h
        refine cm_Vi (As := [.int x2_2, .int (2 : Int32)]) (rest := [.ref h7, .int x2_2, .ref h8]) ⟨hx, hb, hml, hown, hts⟩ (c_X8_deedIs (ca := ca) (ev := ev) (h0 := h0) (h1 := h1) (h2 := h2) (h3 := h3) (h4 := h4) (h5 := h5) (h6 := h6) (h7 := h7) (h8 := h8) (h9 := h9) (h10 := h10) (h11 := h11) (h12 := h12) (h13 := h13) (h14 := h14) (h15 := h15) (h16 := h16) (h17 := h17) (now := now_2) (kept := kept) (isKept := isKept) (found := found) (order := order_2) (doubts := doubts_2) (doubtMany := doubtMany_2) (weights := weights) (worn := u_3.1) (pairs := u_3.2.1) (isTwice := u_3.2.2) (doer := doer_2) (doneTo := doneTo_2) (doers := doers) (tape := tape) (taped := taped) (begins := begins) (ends := ends) (sort := sort) (value := value) (isWrong := isWrong) (items := items) (itemMany := itemMany) (bowThen := bowThen) (doubtThen := doubtThen) (deedThen := deedThen) (sayingThen := sayingThen) (widths := widths) (sizes := sizes) (numbers := numbers) (moved := moved) e_4) (cwV 2 hts gX8_findDoers_X8_deedIs rfl rfl rfl hd_X8_deedIs ⟨Nat.le_of_ble_eq_true rfl, Nat.le_of_ble_eq_true rfl⟩) hK hP hD hS hA hE (q0 := 0) (ci := 8) rfl rfl rfl rfl hl.1 rfl (Nat.le_of_ble_eq_true rfl) dX8_findDoers_35 ⟨Nat.zero_le _, Nat.zero_le _⟩ (fun H locs hP hD hS => ?_)
        obtain ⟨i_5, h⟩ := gd_some h
        refine va_iald hx hb hK hP 7 0 rfl rfl (ix_in i_5) dX8_findDoers_38 ?_
        obtain ⟨i_6, h⟩ := gd_some h
        refine va_iast hx hb hK hP hD hS 8 0 rfl rfl (ix_in i_6) dX8_findDoers_39 (fun H locs hP hD hS => ?_)
        have hP : va_P G vwCl (wM ca ev h0 h1 h2 h3 h4 h5 h6 h7 h8 h9 h10 h11 h12 h13 h14 h15 h16 h17 now_2 kept isKept found order_2 doubts_2 doubtMany_2 weights u_3.1 u_3.2.1 u_3.2.2 (upd doer_2 x2_2.toNatClampNeg (u_3.1 u_4.toNatClampNeg)) doneTo_2 doers tape taped begins ends sort value isWrong items itemMany bowThen doubtThen deedThen sayingThen widths sizes numbers moved) H := hP
        have hD : va_D A (wM ca ev h0 h1 h2 h3 h4 h5 h6 h7 h8 h9 h10 h11 h12 h13 h14 h15 h16 h17 now_2 kept isKept found order_2 doubts_2 doubtMany_2 weights u_3.1 u_3.2.1 u_3.2.2 (upd doer_2 x2_2.toNatClampNeg (u_3.1 u_4.toNatClampNeg)) doneTo_2 doers tape taped begins ends sort value isWrong items itemMany bowThen doubtThen deedThen sayingThen widths sizes numbers moved) := hD
        refine lv_aload_n hx hb dX8_findDoers_40 rfl (lv_at hl 0 rfl) ?_
        refine va_get (D := G) (ci := 8) (v := .ref h9) (C := RX8) (T := TX8) (N := 32) hx hb hts hin_X8 hown hK hP 0 rfl rfl 12 (by decide) fk_35 (fun _ h9 => h9) rfl dX8_findDoers_41 ?_
        refine lv_iload_n hx hb dX8_findDoers_44 rfl (lv_at hl 2 rfl) ?_
        refine lv_aload_n hx hb dX8_findDoers_45 rfl (lv_at hl 0 rfl) ?_
        refine va_get (D := G) (ci := 8) (v := .ref h7) (C := RX8) (T := TX8) (N := 32) hx hb hts hin_X8 hown hK hP 0 rfl rfl 8 (by decide) fk_29 (fun _ h9 => h9) rfl dX8_findDoers_46 ?_
        refine lv_aload_n hx hb dX8_findDoers_49 rfl (lv_at hl 0 rfl) ?_
        refine lv_iload_n hx hb dX8_findDoers_50 rfl (lv_at hl 2 rfl) ?_
        refine lv_iconst (v := (3 : Int32)) hx hb dX8_findDoers_51 (by decide) ?_
        obtain ⟨u_7, e_7, h⟩ := bd_some h
        refine cm_Vi (As := [.int x2_2, .int (3 : Int32)]) (rest := [.ref h7, .int x2_2, .ref h9]) ⟨hx, hb, hml, hown, hts⟩ (c_X8_deedIs (ca := ca) (ev := ev) (h0 := h0) (h1 := h1) (h2 := h2) (h3 := h3) (h4 := h4) (h5 := h5) (h6 := h6) (h7 := h7) (h8 := h8) (h9 := h9) (h10 := h10) (h11 := h11) (h12 := h12) (h13 := h13) (h14 := h14) (h15 := h15) (h16 := h16) (h17 := h17) (now := now_2) (kept := kept) (isKept := isKept) (found := found) (order := order_2) (doubts := doubts_2) (doubtMany := doubtMany_2) (weights := weights) (worn := u_3.1) (pairs := u_3.2.1) (isTwice := u_3.2.2) (doer := (upd doer_2 x2_2.toNatClampNeg (u_3.1 u_4.toNatClampNeg))) (doneTo := doneTo_2) (doers := doers) (tape := tape) (taped := taped) (begins := begins) (ends := ends) (sort := sort) (value := value) (isWrong := isWrong) (items := items) (itemMany := itemMany) (bowThen := bowThen) (doubtThen := doubtThen) (deedThen := deedThen) (sayingThen := sayingThen) (widths := widths) (sizes := sizes) (numbers := numbers) (moved := moved) e_7) (cwV 2 hts gX8_findDoers_X8_deedIs rfl rfl rfl hd_X8_deedIs ⟨Nat.le_of_ble_eq_true rfl, Nat.le_of_ble_eq_true rfl⟩) hK hP hD hS hA hE (q0 := 0) (ci := 8) rfl rfl rfl rfl hl.1 rfl (Nat.le_of_ble_eq_true rfl) dX8_findDoers_52 ⟨Nat.zero_le _, Nat.zero_le _⟩ (fun H locs hP hD hS => ?_)
        obtain ⟨i_8, h⟩ := gd_some h
        refine va_iald hx hb hK hP 7 0 rfl rfl (ix_in i_8) dX8_findDoers_55 ?_
        refine va_iast hx hb hK hP hD hS 9 0 rfl rfl (ix_in i_6) dX8_findDoers_56 (fun H locs hP hD hS => ?_)
        have hP : va_P G vwCl (wM ca ev h0 h1 h2 h3 h4 h5 h6 h7 h8 h9 h10 h11 h12 h13 h14 h15 h16 h17 now_2 kept isKept found order_2 doubts_2 doubtMany_2 weights u_3.1 u_3.2.1 u_3.2.2 (upd doer_2 x2_2.toNatClampNeg (u_3.1 u_4.toNatClampNeg)) (upd doneTo_2 x2_2.toNatClampNeg (u_3.1 u_7.toNatClampNeg)) doers tape taped begins ends sort value isWrong items itemMany bowThen doubtThen deedThen sayingThen widths sizes numbers moved) H := hP
        have hD : va_D A (wM ca ev h0 h1 h2 h3 h4 h5 h6 h7 h8 h9 h10 h11 h12 h13 h14 h15 h16 h17 now_2 kept isKept found order_2 doubts_2 doubtMany_2 weights u_3.1 u_3.2.1 u_3.2.2 (upd doer_2 x2_2.toNatClampNeg (u_3.1 u_4.toNatClampNeg)) (upd doneTo_2 x2_2.toNatClampNeg (u_3.1 u_7.toNatClampNeg)) doers tape taped begins ends sort value isWrong items itemMany bowThen doubtThen deedThen sayingThen widths sizes numbers moved) := hD
        refine lv_iinc (v := (x2_2 + (1 : Int32))) (lv' := [(2, .int (x2_2 + (1 : Int32))), (0, .ref h0), (1, .int x1_2)]) hx hb dX8_findDoers_57 hl (k := 2) rfl rfl (by decide) rfl (fun ls hl => ?_)
        refine lv_goto (tgt := 2) hx hb dX8_findDoers_60 (by decide) ?_
        exact ih h hP hD hS (lv_sub hl [1, 2, 0] rfl) JK_2
  obtain ⟨u_9, e_9, h⟩ := bd_some h
  refine L_2 _ e_9 hP hD hS (lv_sub hl [1, 2, 0] rfl) ?_
  intro H locs ls hP hD hS hl
  obtain rfl := Option.some.inj h
  exact hRet hP hD hS dX8_findDoers_63
abbrev rm_X8_who : Room := { frames := 6, cells := 0, slots := 0, locals := 144 }
theorem hd_X8_who : yX8_who.cls = RX8 ∧ yX8_who.cls ≠ "java/lang/invoke/MethodHandle" ∧ yX8_who.cls ≠ "java/lang/invoke/VarHandle" ∧ (parseMethodDescriptor yX8_who.desc).map (fun d => d.parameters.length) = some 2 := by decide +kernel
set_option maxHeartbeats 4000000 in
set_option maxRecDepth 100000 in
theorem c_X8_who {l : Launch} {G : va_G} {ca : Nat → ClassId} {ev : Nat → Nat} {h0 h1 h2 h3 h4 h5 h6 h7 h8 h9 h10 h11 h12 h13 h14 h15 h16 h17 : Nat} {now : (Nat → Int32)} {kept : (Nat → Int32)} {isKept : Int32} {found : (Nat → Int32)} {order : (Nat → Int32)} {doubts : (Nat → Int32)} {doubtMany : Int32} {weights : (Nat → Int64)} {worn : (Nat → Int32)} {pairs : Int64} {isTwice : Int32} {doer : (Nat → Int32)} {doneTo : (Nat → Int32)} {doers : (Nat → Int64)} {tape : (Nat → Int32)} {taped : Int32} {begins : Int32} {ends : Int32} {sort : Int32} {value : Int32} {isWrong : Int32} {items : (Nat → Int32)} {itemMany : Int32} {bowThen : Int32} {doubtThen : Int32} {deedThen : Int32} {sayingThen : Int32} {widths : (Nat → Int32)} {sizes : (Nat → Int32)} {numbers : (Nat → Int64)} {moved : (Nat → Int64)} {a1 : Int32} {a2 : Int32} {N : Nat} {res : Int32 × (Nat → Int32) × (Nat → Int32) × (Nat → Int32) × Int32 × (Nat → Int64) × (Nat → Int32) × Int64 × Int32} (h : f_X8_who N now found order doubts doubtMany weights worn pairs isTwice a1 a2 = some res) : CtI l yX8_who wsX8_who rm_X8_who G ca ev [.ref h0, .int a1, .int a2] (wM ca ev h0 h1 h2 h3 h4 h5 h6 h7 h8 h9 h10 h11 h12 h13 h14 h15 h16 h17 now kept isKept found order doubts doubtMany weights worn pairs isTwice doer doneTo doers tape taped begins ends sort value isWrong items itemMany bowThen doubtThen deedThen sayingThen widths sizes numbers moved) (wM ca ev h0 h1 h2 h3 h4 h5 h6 h7 h8 h9 h10 h11 h12 h13 h14 h15 h16 h17 now kept isKept res.2.1 res.2.2.1 res.2.2.2.1 res.2.2.2.2.1 res.2.2.2.2.2.1 res.2.2.2.2.2.2.1 res.2.2.2.2.2.2.2.1 res.2.2.2.2.2.2.2.2 doer doneTo doers tape taped begins ends sort value isWrong items itemMany bowThen doubtThen deedThen sayingThen widths sizes numbers moved) res.1 := by
  unfold f_X8_who at h
  refine en_i (by decide) rfl (Nat.le_of_ble_eq_true rfl) ?_
  intro p e s m args below meth c A Q H locs ls hx hb hml hown hts hA hP hK hD hE hS hl hRet
  have hown : s.vm.findClass RX8 = some m.cls := hown
  have hl : lv_has ls 4 [(0, .ref h0), (1, .int a1), (2, .int a2)] := hl
  refine lv_aload_n hx hb dX8_who_0 rfl (lv_at hl 0 rfl) ?_
  refine lv_iload_n hx hb dX8_who_1 rfl (lv_at hl 1 rfl) ?_
  obtain ⟨u_1, e_1, h⟩ := bd_some h
  refine cm_Vi (As := [.int a1]) (rest := []) ⟨hx, hb, hml, hown, hts⟩ (c_X8_isDeed (ca := ca) (ev := ev) (h0 := h0) (h1 := h1) (h2 := h2) (h3 := h3) (h4 := h4) (h5 := h5) (h6 := h6) (h7 := h7) (h8 := h8) (h9 := h9) (h10 := h10) (h11 := h11) (h12 := h12) (h13 := h13) (h14 := h14) (h15 := h15) (h16 := h16) (h17 := h17) (now := now) (kept := kept) (isKept := isKept) (found := found) (order := order) (doubts := doubts) (doubtMany := doubtMany) (weights := weights) (worn := worn) (pairs := pairs) (isTwice := isTwice) (doer := doer) (doneTo := doneTo) (doers := doers) (tape := tape) (taped := taped) (begins := begins) (ends := ends) (sort := sort) (value := value) (isWrong := isWrong) (items := items) (itemMany := itemMany) (bowThen := bowThen) (doubtThen := doubtThen) (deedThen := deedThen) (sayingThen := sayingThen) (widths := widths) (sizes := sizes) (numbers := numbers) (moved := moved) e_1) (cwV 1 hts gX8_who_X8_isDeed rfl rfl rfl hd_X8_isDeed ⟨Nat.le_of_ble_eq_true rfl, Nat.le_of_ble_eq_true rfl⟩) hK hP hD hS hA hE (q0 := 0) (ci := 8) rfl rfl rfl rfl hl.1 rfl (Nat.le_of_ble_eq_true rfl) dX8_who_2 ⟨Nat.zero_le _, Nat.zero_le _⟩ (fun H locs hP hD hS => ?_)
  refine lv_if_eq (tgt := 17) hx hb dX8_who_5 (by decide) (fun c_2 => ?_) (fun c_2 => ?_)
  · have h := ifp c_2 h
    refine lv_aload_n hx hb dX8_who_17 rfl (lv_at hl 0 rfl) ?_
    refine lv_ldc (v := (-1000000001 : Int32)) hx hb hown (hts (.constant RX8 77 (-1000000001)) (by decide +kernel)) dX8_who_18 ?_
    obtain ⟨u_3, e_3, h⟩ := bd_some h
    refine cm_Vi (As := [.int (-1000000001 : Int32)]) (rest := []) ⟨hx, hb, hml, hown, hts⟩ (c_X8_finding (ca := ca) (ev := ev) (h0 := h0) (h1 := h1) (h2 := h2) (h3 := h3) (h4 := h4) (h5 := h5) (h6 := h6) (h7 := h7) (h8 := h8) (h9 := h9) (h10 := h10) (h11 := h11) (h12 := h12) (h13 := h13) (h14 := h14) (h15 := h15) (h16 := h16) (h17 := h17) (now := now) (kept := kept) (isKept := isKept) (found := found) (order := order) (doubts := doubts) (doubtMany := doubtMany) (weights := weights) (worn := worn) (pairs := pairs) (isTwice := isTwice) (doer := doer) (doneTo := doneTo) (doers := doers) (tape := tape) (taped := taped) (begins := begins) (ends := ends) (sort := sort) (value := value) (isWrong := isWrong) (items := items) (itemMany := itemMany) (bowThen := bowThen) (doubtThen := doubtThen) (deedThen := deedThen) (sayingThen := sayingThen) (widths := widths) (sizes := sizes) (numbers := numbers) (moved := moved) e_3) (cwV 1 hts gX8_who_X8_finding rfl rfl rfl hd_X8_finding ⟨Nat.le_of_ble_eq_true rfl, Nat.le_of_ble_eq_true rfl⟩) hK hP hD hS hA hE (q0 := 0) (ci := 8) rfl rfl rfl rfl hl.1 rfl (Nat.le_of_ble_eq_true rfl) dX8_who_20 ⟨Nat.zero_le _, Nat.zero_le _⟩ (fun H locs hP hD hS => ?_)
    obtain rfl := Option.some.inj h
    exact hRet hP hD hS dX8_who_23
  · have h := ifn c_2 h
    refine lv_iload_n hx hb dX8_who_8 rfl (lv_at hl 2 rfl) ?_
    refine lv_iconst (v := (0 : Int32)) hx hb dX8_who_9 (by decide) ?_
    refine lv_iconst (v := (1 : Int32)) hx hb dX8_who_10 (by decide) ?_
    obtain ⟨u_4, e_4, h⟩ := bd_some h
    refine cn_Si (As := [.int a2, .int (0 : Int32), .int (1 : Int32)]) (rest := []) ⟨hx, hb, hml, hown, hts⟩ (c_X8_within e_4) (va_cwS 3 hts gX8_who_X8_within rfl rfl rfl hd_X8_within ⟨Nat.le_of_ble_eq_true rfl, Nat.le_of_ble_eq_true rfl⟩) hK hP hD hS hA hE rfl hl.1 rfl (Nat.le_of_ble_eq_true rfl) dX8_who_11 ⟨Nat.zero_le _, Nat.zero_le _⟩ (fun H locs hP hD hS => ?_)
    refine lv_if_ne (tgt := 24) hx hb dX8_who_14 (by decide) (fun c_5 => ?_) (fun c_5 => ?_)
    · have h := ifn c_5 h
      refine lv_aload_n hx hb dX8_who_24 rfl (lv_at hl 0 rfl) ?_
      refine lv_aload_n hx hb dX8_who_25 rfl (lv_at hl 0 rfl) ?_
      refine lv_iload_n hx hb dX8_who_26 rfl (lv_at hl 1 rfl) ?_
      refine lv_iload_n hx hb dX8_who_27 rfl (lv_at hl 2 rfl) ?_
      obtain ⟨u_6, e_6, h⟩ := bd_some h
      have J_6 : ∀ {H : Heap} {locs : List Loc} {ls : Array Slot}, va_P G vwCl (wM ca ev h0 h1 h2 h3 h4 h5 h6 h7 h8 h9 h10 h11 h12 h13 h14 h15 h16 h17 now kept isKept found order doubts doubtMany weights worn pairs isTwice doer doneTo doers tape taped begins ends sort value isWrong items itemMany bowThen doubtThen deedThen sayingThen widths sizes numbers moved) H → va_D A (wM ca ev h0 h1 h2 h3 h4 h5 h6 h7 h8 h9 h10 h11 h12 h13 h14 h15 h16 h17 now kept isKept found order doubts doubtMany weights worn pairs isTwice doer doneTo doers tape taped begins ends sort value isWrong items itemMany bowThen doubtThen deedThen sayingThen widths sizes numbers moved) → va_S A s.heap H locs → lv_has ls 4 [(0, .ref h0), (1, .int a1)] → W p l e rm_X8_who s m args below meth c H locs 0 0 Q (F0 m 36 ls [.int u_6, .int a1, .ref h0, .ref h0]) := by
        intro H locs ls hP hD hS hl 
        obtain ⟨u_7, e_7, h⟩ := bd_some h
        refine cm_Vi (As := [.int a1, .int u_6]) (rest := [.ref h0]) ⟨hx, hb, hml, hown, hts⟩ (c_X8_deedIs (ca := ca) (ev := ev) (h0 := h0) (h1 := h1) (h2 := h2) (h3 := h3) (h4 := h4) (h5 := h5) (h6 := h6) (h7 := h7) (h8 := h8) (h9 := h9) (h10 := h10) (h11 := h11) (h12 := h12) (h13 := h13) (h14 := h14) (h15 := h15) (h16 := h16) (h17 := h17) (now := now) (kept := kept) (isKept := isKept) (found := found) (order := order) (doubts := doubts) (doubtMany := doubtMany) (weights := weights) (worn := worn) (pairs := pairs) (isTwice := isTwice) (doer := doer) (doneTo := doneTo) (doers := doers) (tape := tape) (taped := taped) (begins := begins) (ends := ends) (sort := sort) (value := value) (isWrong := isWrong) (items := items) (itemMany := itemMany) (bowThen := bowThen) (doubtThen := doubtThen) (deedThen := deedThen) (sayingThen := sayingThen) (widths := widths) (sizes := sizes) (numbers := numbers) (moved := moved) e_7) (cwV 2 hts gX8_who_X8_deedIs rfl rfl rfl hd_X8_deedIs ⟨Nat.le_of_ble_eq_true rfl, Nat.le_of_ble_eq_true rfl⟩) hK hP hD hS hA hE (q0 := 0) (ci := 8) rfl rfl rfl rfl hl.1 rfl (Nat.le_of_ble_eq_true rfl) dX8_who_36 ⟨Nat.zero_le _, Nat.zero_le _⟩ (fun H locs hP hD hS => ?_)
        refine lv_aload_n hx hb dX8_who_39 rfl (lv_at hl 0 rfl) ?_
        refine lv_iload_n hx hb dX8_who_40 rfl (lv_at hl 1 rfl) ?_
        refine lv_iconst (v := (1 : Int32)) hx hb dX8_who_41 (by decide) ?_
        obtain ⟨u_8, e_8, h⟩ := bd_some h
        refine cm_Vi (As := [.int a1, .int (1 : Int32)]) (rest := [.int u_7, .ref h0]) ⟨hx, hb, hml, hown, hts⟩ (c_X8_deedIs (ca := ca) (ev := ev) (h0 := h0) (h1 := h1) (h2 := h2) (h3 := h3) (h4 := h4) (h5 := h5) (h6 := h6) (h7 := h7) (h8 := h8) (h9 := h9) (h10 := h10) (h11 := h11) (h12 := h12) (h13 := h13) (h14 := h14) (h15 := h15) (h16 := h16) (h17 := h17) (now := now) (kept := kept) (isKept := isKept) (found := found) (order := order) (doubts := doubts) (doubtMany := doubtMany) (weights := weights) (worn := worn) (pairs := pairs) (isTwice := isTwice) (doer := doer) (doneTo := doneTo) (doers := doers) (tape := tape) (taped := taped) (begins := begins) (ends := ends) (sort := sort) (value := value) (isWrong := isWrong) (items := items) (itemMany := itemMany) (bowThen := bowThen) (doubtThen := doubtThen) (deedThen := deedThen) (sayingThen := sayingThen) (widths := widths) (sizes := sizes) (numbers := numbers) (moved := moved) e_8) (cwV 2 hts gX8_who_X8_deedIs rfl rfl rfl hd_X8_deedIs ⟨Nat.le_of_ble_eq_true rfl, Nat.le_of_ble_eq_true rfl⟩) hK hP hD hS hA hE (q0 := 0) (ci := 8) rfl rfl rfl rfl hl.1 rfl (Nat.le_of_ble_eq_true rfl) dX8_who_42 ⟨Nat.zero_le _, Nat.zero_le _⟩ (fun H locs hP hD hS => ?_)
        obtain ⟨u_9, e_9, h⟩ := bd_some h
        refine cm_Vi (As := [.int u_7, .int u_8]) (rest := []) ⟨hx, hb, hml, hown, hts⟩ (c_X8_wornBy (ca := ca) (ev := ev) (h0 := h0) (h1 := h1) (h2 := h2) (h3 := h3) (h4 := h4) (h5 := h5) (h6 := h6) (h7 := h7) (h8 := h8) (h9 := h9) (h10 := h10) (h11 := h11) (h12 := h12) (h13 := h13) (h14 := h14) (h15 := h15) (h16 := h16) (h17 := h17) (now := now) (kept := kept) (isKept := isKept) (found := found) (order := order) (doubts := doubts) (doubtMany := doubtMany) (weights := weights) (worn := worn) (pairs := pairs) (isTwice := isTwice) (doer := doer) (doneTo := doneTo) (doers := doers) (tape := tape) (taped := taped) (begins := begins) (ends := ends) (sort := sort) (value := value) (isWrong := isWrong) (items := items) (itemMany := itemMany) (bowThen := bowThen) (doubtThen := doubtThen) (deedThen := deedThen) (sayingThen := sayingThen) (widths := widths) (sizes := sizes) (numbers := numbers) (moved := moved) e_9) (cwV 2 hts gX8_who_X8_wornBy rfl rfl rfl hd_X8_wornBy ⟨Nat.le_of_ble_eq_true rfl, Nat.le_of_ble_eq_true rfl⟩) hK hP hD hS hA hE (q0 := 0) (ci := 8) rfl rfl rfl rfl hl.1 rfl (Nat.le_of_ble_eq_true rfl) dX8_who_45 ⟨Nat.zero_le _, Nat.zero_le _⟩ (fun H locs hP hD hS => ?_)
        obtain ⟨u_10, e_10, h⟩ := bd_some h
        refine cn_Si (As := [.int u_9.1]) (rest := []) ⟨hx, hb, hml, hown, hts⟩ (c_X8_only e_10) (va_cwS 1 hts gX8_who_X8_only rfl rfl rfl hd_X8_only ⟨Nat.le_of_ble_eq_true rfl, Nat.le_of_ble_eq_true rfl⟩) hK hP hD hS hA hE rfl hl.1 rfl (Nat.le_of_ble_eq_true rfl) dX8_who_48 ⟨Nat.zero_le _, Nat.zero_le _⟩ (fun H locs hP hD hS => ?_)
        refine lv_istore_n (lv' := [(3, .int u_10), (0, .ref h0), (1, .int a1)]) hx hb dX8_who_51 rfl hl (by decide) rfl (fun ls hl => ?_)
        refine lv_iload_n hx hb dX8_who_52 rfl (lv_at hl 0 rfl) ?_
        refine lv_if_ge (tgt := 65) hx hb dX8_who_53 (by decide) (fun c_11 => ?_) (fun c_11 => ?_)
        · have h := ifp c_11 h
          refine lv_iload_n hx hb dX8_who_65 rfl (lv_at hl 0 rfl) ?_
          obtain rfl := Option.some.inj h
          exact hRet hP hD hS dX8_who_66
        · have h := ifn c_11 h
          refine lv_aload_n hx hb dX8_who_56 rfl (lv_at hl 1 rfl) ?_
          refine lv_ldc (v := (-1000000004 : Int32)) hx hb hown (hts (.constant RX8 179 (-1000000004)) (by decide +kernel)) dX8_who_57 ?_
          obtain ⟨u_12, e_12, h⟩ := bd_some h
          refine cm_Vi (As := [.int (-1000000004 : Int32)]) (rest := []) ⟨hx, hb, hml, hown, hts⟩ (c_X8_finding (ca := ca) (ev := ev) (h0 := h0) (h1 := h1) (h2 := h2) (h3 := h3) (h4 := h4) (h5 := h5) (h6 := h6) (h7 := h7) (h8 := h8) (h9 := h9) (h10 := h10) (h11 := h11) (h12 := h12) (h13 := h13) (h14 := h14) (h15 := h15) (h16 := h16) (h17 := h17) (now := now) (kept := kept) (isKept := isKept) (found := found) (order := u_9.2.1) (doubts := u_9.2.2.1) (doubtMany := u_9.2.2.2.1) (weights := u_9.2.2.2.2.1) (worn := u_9.2.2.2.2.2.1) (pairs := u_9.2.2.2.2.2.2.1) (isTwice := u_9.2.2.2.2.2.2.2) (doer := doer) (doneTo := doneTo) (doers := doers) (tape := tape) (taped := taped) (begins := begins) (ends := ends) (sort := sort) (value := value) (isWrong := isWrong) (items := items) (itemMany := itemMany) (bowThen := bowThen) (doubtThen := doubtThen) (deedThen := deedThen) (sayingThen := sayingThen) (widths := widths) (sizes := sizes) (numbers := numbers) (moved := moved) e_12) (cwV 1 hts gX8_who_X8_finding rfl rfl rfl hd_X8_finding ⟨Nat.le_of_ble_eq_true rfl, Nat.le_of_ble_eq_true rfl⟩) hK hP hD hS hA hE (q0 := 0) (ci := 8) rfl rfl rfl rfl hl.1 rfl (Nat.le_of_ble_eq_true rfl) dX8_who_59 ⟨Nat.zero_le _, Nat.zero_le _⟩ (fun H locs hP hD hS => ?_)
          refine lv_goto (tgt := 66) hx hb dX8_who_62 (by decide) ?_
          obtain rfl := Option.some.inj h
          exact hRet hP hD hS dX8_who_66
      have h := e_6
      clear e_6
      refine lv_if_ne (tgt := 35) hx hb dX8_who_28 (by decide) (fun c_6 => ?_) (fun c_6 => ?_)
      · have h := ifn c_6 h
        refine lv_iconst (v := (3 : Int32)) hx hb dX8_who_35 (by decide) ?_
        obtain rfl := Option.some.inj h
        exact J_6 hP hD hS (lv_sub hl [0, 1] rfl)
      · have h := ifp c_6 h
        refine lv_iconst (v := (2 : Int32)) hx hb dX8_who_31 (by decide) ?_
        refine lv_goto (tgt := 36) hx hb dX8_who_32 (by decide) ?_
        obtain rfl := Option.some.inj h
        exact J_6 hP hD hS (lv_sub hl [0, 1] rfl)
    · have h := ifp c_5 h
      refine lv_aload_n hx hb dX8_who_17 rfl (lv_at hl 0 rfl) ?_
      refine lv_ldc (v := (-1000000001 : Int32)) hx hb hown (hts (.constant RX8 77 (-1000000001)) (by decide +kernel)) dX8_who_18 ?_
      obtain ⟨u_13, e_13, h⟩ := bd_some h
      refine cm_Vi (As := [.int (-1000000001 : Int32)]) (rest := []) ⟨hx, hb, hml, hown, hts⟩ (c_X8_finding (ca := ca) (ev := ev) (h0 := h0) (h1 := h1) (h2 := h2) (h3 := h3) (h4 := h4) (h5 := h5) (h6 := h6) (h7 := h7) (h8 := h8) (h9 := h9) (h10 := h10) (h11 := h11) (h12 := h12) (h13 := h13) (h14 := h14) (h15 := h15) (h16 := h16) (h17 := h17) (now := now) (kept := kept) (isKept := isKept) (found := found) (order := order) (doubts := doubts) (doubtMany := doubtMany) (weights := weights) (worn := worn) (pairs := pairs) (isTwice := isTwice) (doer := doer) (doneTo := doneTo) (doers := doers) (tape := tape) (taped := taped) (begins := begins) (ends := ends) (sort := sort) (value := value) (isWrong := isWrong) (items := items) (itemMany := itemMany) (bowThen := bowThen) (doubtThen := doubtThen) (deedThen := deedThen) (sayingThen := sayingThen) (widths := widths) (sizes := sizes) (numbers := numbers) (moved := moved) e_13) (cwV 1 hts gX8_who_X8_finding rfl rfl rfl hd_X8_finding ⟨Nat.le_of_ble_eq_true rfl, Nat.le_of_ble_eq_true rfl⟩) hK hP hD hS hA hE (q0 := 0) (ci := 8) rfl rfl rfl rfl hl.1 rfl (Nat.le_of_ble_eq_true rfl) dX8_who_20 ⟨Nat.zero_le _, Nat.zero_le _⟩ (fun H locs hP hD hS => ?_)
      obtain rfl := Option.some.inj h
      exact hRet hP hD hS dX8_who_23
abbrev rm_X8_same : Room := { frames := 5, cells := 0, slots := 0, locals := 120 }
theorem hd_X8_same : yX8_same.cls = RX8 ∧ yX8_same.cls ≠ "java/lang/invoke/MethodHandle" ∧ yX8_same.cls ≠ "java/lang/invoke/VarHandle" ∧ (parseMethodDescriptor yX8_same.desc).map (fun d => d.parameters.length) = some 2 := by decide +kernel
set_option maxHeartbeats 4000000 in
set_option maxRecDepth 100000 in
theorem c_X8_same {l : Launch} {G : va_G} {ca : Nat → ClassId} {ev : Nat → Nat} {h0 h1 h2 h3 h4 h5 h6 h7 h8 h9 h10 h11 h12 h13 h14 h15 h16 h17 : Nat} {now : (Nat → Int32)} {kept : (Nat → Int32)} {isKept : Int32} {found : (Nat → Int32)} {order : (Nat → Int32)} {doubts : (Nat → Int32)} {doubtMany : Int32} {weights : (Nat → Int64)} {worn : (Nat → Int32)} {pairs : Int64} {isTwice : Int32} {doer : (Nat → Int32)} {doneTo : (Nat → Int32)} {doers : (Nat → Int64)} {tape : (Nat → Int32)} {taped : Int32} {begins : Int32} {ends : Int32} {sort : Int32} {value : Int32} {isWrong : Int32} {items : (Nat → Int32)} {itemMany : Int32} {bowThen : Int32} {doubtThen : Int32} {deedThen : Int32} {sayingThen : Int32} {widths : (Nat → Int32)} {sizes : (Nat → Int32)} {numbers : (Nat → Int64)} {moved : (Nat → Int64)} {a1 : Int32} {a2 : Int32} {N : Nat} {res : Int64 × (Nat → Int32) × (Nat → Int32) × (Nat → Int32) × Int32 × (Nat → Int64) × (Nat → Int32) × Int64 × Int32 × (Nat → Int32) × (Nat → Int32)} (h : f_X8_same N now found order doubts doubtMany weights worn pairs isTwice doer doneTo a1 a2 = some res) : CtL l yX8_same wsX8_same rm_X8_same G ca ev [.ref h0, .int a1, .int a2] (wM ca ev h0 h1 h2 h3 h4 h5 h6 h7 h8 h9 h10 h11 h12 h13 h14 h15 h16 h17 now kept isKept found order doubts doubtMany weights worn pairs isTwice doer doneTo doers tape taped begins ends sort value isWrong items itemMany bowThen doubtThen deedThen sayingThen widths sizes numbers moved) (wM ca ev h0 h1 h2 h3 h4 h5 h6 h7 h8 h9 h10 h11 h12 h13 h14 h15 h16 h17 now kept isKept res.2.1 res.2.2.1 res.2.2.2.1 res.2.2.2.2.1 res.2.2.2.2.2.1 res.2.2.2.2.2.2.1 res.2.2.2.2.2.2.2.1 res.2.2.2.2.2.2.2.2.1 res.2.2.2.2.2.2.2.2.2.1 res.2.2.2.2.2.2.2.2.2.2 doers tape taped begins ends sort value isWrong items itemMany bowThen doubtThen deedThen sayingThen widths sizes numbers moved) res.1 := by
  unfold f_X8_same at h
  refine en_l (by decide) rfl (Nat.le_of_ble_eq_true rfl) ?_
  intro p e s m args below meth c A Q H locs ls hx hb hml hown hts hA hP hK hD hE hS hl hRet
  have hown : s.vm.findClass RX8 = some m.cls := hown
  have hl : lv_has ls 6 [(0, .ref h0), (1, .int a1), (2, .int a2)] := hl
  have hin_X8 : ∀ w ∈ u_ws RX8 TX8 32, w ∈ wsX8_same := fun w h9 => List.mem_cons_of_mem _ (List.mem_append_right _ h9)
  have fk_25 := hts (.fieldLink RX8 25 "MaskBowsModel" "weights" "[J") (by decide +kernel)
  have fk_32 := hts (.fieldLink RX8 32 "MaskBowsModel" "doer" "[I") (by decide +kernel)
  refine lv_aload_n hx hb dX8_same_0 rfl (lv_at hl 0 rfl) ?_
  refine lv_iload_n hx hb dX8_same_1 rfl (lv_at hl 1 rfl) ?_
  obtain ⟨u_1, e_1, h⟩ := bd_some h
  refine cm_Vi (As := [.int a1]) (rest := []) ⟨hx, hb, hml, hown, hts⟩ (c_X8_isDeed (ca := ca) (ev := ev) (h0 := h0) (h1 := h1) (h2 := h2) (h3 := h3) (h4 := h4) (h5 := h5) (h6 := h6) (h7 := h7) (h8 := h8) (h9 := h9) (h10 := h10) (h11 := h11) (h12 := h12) (h13 := h13) (h14 := h14) (h15 := h15) (h16 := h16) (h17 := h17) (now := now) (kept := kept) (isKept := isKept) (found := found) (order := order) (doubts := doubts) (doubtMany := doubtMany) (weights := weights) (worn := worn) (pairs := pairs) (isTwice := isTwice) (doer := doer) (doneTo := doneTo) (doers := doers) (tape := tape) (taped := taped) (begins := begins) (ends := ends) (sort := sort) (value := value) (isWrong := isWrong) (items := items) (itemMany := itemMany) (bowThen := bowThen) (doubtThen := doubtThen) (deedThen := deedThen) (sayingThen := sayingThen) (widths := widths) (sizes := sizes) (numbers := numbers) (moved := moved) e_1) (cwV 1 hts gX8_same_X8_isDeed rfl rfl rfl hd_X8_isDeed ⟨Nat.le_of_ble_eq_true rfl, Nat.le_of_ble_eq_true rfl⟩) hK hP hD hS hA hE (q0 := 0) (ci := 8) rfl rfl rfl rfl hl.1 rfl (Nat.le_of_ble_eq_true rfl) dX8_same_2 ⟨Nat.zero_le _, Nat.zero_le _⟩ (fun H locs hP hD hS => ?_)
  refine lv_if_eq (tgt := 21) hx hb dX8_same_5 (by decide) (fun c_2 => ?_) (fun c_2 => ?_)
  · have h := ifp c_2 h
    refine lv_aload_n hx hb dX8_same_21 rfl (lv_at hl 0 rfl) ?_
    refine lv_ldc (v := (-1000000001 : Int32)) hx hb hown (hts (.constant RX8 77 (-1000000001)) (by decide +kernel)) dX8_same_22 ?_
    obtain ⟨u_3, e_3, h⟩ := bd_some h
    refine cm_Vi (As := [.int (-1000000001 : Int32)]) (rest := []) ⟨hx, hb, hml, hown, hts⟩ (c_X8_finding (ca := ca) (ev := ev) (h0 := h0) (h1 := h1) (h2 := h2) (h3 := h3) (h4 := h4) (h5 := h5) (h6 := h6) (h7 := h7) (h8 := h8) (h9 := h9) (h10 := h10) (h11 := h11) (h12 := h12) (h13 := h13) (h14 := h14) (h15 := h15) (h16 := h16) (h17 := h17) (now := now) (kept := kept) (isKept := isKept) (found := found) (order := order) (doubts := doubts) (doubtMany := doubtMany) (weights := weights) (worn := worn) (pairs := pairs) (isTwice := isTwice) (doer := doer) (doneTo := doneTo) (doers := doers) (tape := tape) (taped := taped) (begins := begins) (ends := ends) (sort := sort) (value := value) (isWrong := isWrong) (items := items) (itemMany := itemMany) (bowThen := bowThen) (doubtThen := doubtThen) (deedThen := deedThen) (sayingThen := sayingThen) (widths := widths) (sizes := sizes) (numbers := numbers) (moved := moved) e_3) (cwV 1 hts gX8_same_X8_finding rfl rfl rfl hd_X8_finding ⟨Nat.le_of_ble_eq_true rfl, Nat.le_of_ble_eq_true rfl⟩) hK hP hD hS hA hE (q0 := 0) (ci := 8) rfl rfl rfl rfl hl.1 rfl (Nat.le_of_ble_eq_true rfl) dX8_same_24 ⟨Nat.zero_le _, Nat.zero_le _⟩ (fun H locs hP hD hS => ?_)
    refine lv_i2l (v := u_3.1.toInt64) hx hb dX8_same_27 rfl ?_
    obtain rfl := Option.some.inj h
    exact hRet hP hD hS dX8_same_28
  · have h := ifn c_2 h
    refine lv_aload_n hx hb dX8_same_8 rfl (lv_at hl 0 rfl) ?_
    refine lv_iload_n hx hb dX8_same_9 rfl (lv_at hl 2 rfl) ?_
    obtain ⟨u_4, e_4, h⟩ := bd_some h
    refine cm_Vi (As := [.int a2]) (rest := []) ⟨hx, hb, hml, hown, hts⟩ (c_X8_isDeed (ca := ca) (ev := ev) (h0 := h0) (h1 := h1) (h2 := h2) (h3 := h3) (h4 := h4) (h5 := h5) (h6 := h6) (h7 := h7) (h8 := h8) (h9 := h9) (h10 := h10) (h11 := h11) (h12 := h12) (h13 := h13) (h14 := h14) (h15 := h15) (h16 := h16) (h17 := h17) (now := now) (kept := kept) (isKept := isKept) (found := found) (order := order) (doubts := doubts) (doubtMany := doubtMany) (weights := weights) (worn := worn) (pairs := pairs) (isTwice := isTwice) (doer := doer) (doneTo := doneTo) (doers := doers) (tape := tape) (taped := taped) (begins := begins) (ends := ends) (sort := sort) (value := value) (isWrong := isWrong) (items := items) (itemMany := itemMany) (bowThen := bowThen) (doubtThen := doubtThen) (deedThen := deedThen) (sayingThen := sayingThen) (widths := widths) (sizes := sizes) (numbers := numbers) (moved := moved) e_4) (cwV 1 hts gX8_same_X8_isDeed rfl rfl rfl hd_X8_isDeed ⟨Nat.le_of_ble_eq_true rfl, Nat.le_of_ble_eq_true rfl⟩) hK hP hD hS hA hE (q0 := 0) (ci := 8) rfl rfl rfl rfl hl.1 rfl (Nat.le_of_ble_eq_true rfl) dX8_same_10 ⟨Nat.zero_le _, Nat.zero_le _⟩ (fun H locs hP hD hS => ?_)
    refine lv_if_eq (tgt := 21) hx hb dX8_same_13 (by decide) (fun c_5 => ?_) (fun c_5 => ?_)
    · have h := ifp c_5 h
      refine lv_aload_n hx hb dX8_same_21 rfl (lv_at hl 0 rfl) ?_
      refine lv_ldc (v := (-1000000001 : Int32)) hx hb hown (hts (.constant RX8 77 (-1000000001)) (by decide +kernel)) dX8_same_22 ?_
      obtain ⟨u_6, e_6, h⟩ := bd_some h
      refine cm_Vi (As := [.int (-1000000001 : Int32)]) (rest := []) ⟨hx, hb, hml, hown, hts⟩ (c_X8_finding (ca := ca) (ev := ev) (h0 := h0) (h1 := h1) (h2 := h2) (h3 := h3) (h4 := h4) (h5 := h5) (h6 := h6) (h7 := h7) (h8 := h8) (h9 := h9) (h10 := h10) (h11 := h11) (h12 := h12) (h13 := h13) (h14 := h14) (h15 := h15) (h16 := h16) (h17 := h17) (now := now) (kept := kept) (isKept := isKept) (found := found) (order := order) (doubts := doubts) (doubtMany := doubtMany) (weights := weights) (worn := worn) (pairs := pairs) (isTwice := isTwice) (doer := doer) (doneTo := doneTo) (doers := doers) (tape := tape) (taped := taped) (begins := begins) (ends := ends) (sort := sort) (value := value) (isWrong := isWrong) (items := items) (itemMany := itemMany) (bowThen := bowThen) (doubtThen := doubtThen) (deedThen := deedThen) (sayingThen := sayingThen) (widths := widths) (sizes := sizes) (numbers := numbers) (moved := moved) e_6) (cwV 1 hts gX8_same_X8_finding rfl rfl rfl hd_X8_finding ⟨Nat.le_of_ble_eq_true rfl, Nat.le_of_ble_eq_true rfl⟩) hK hP hD hS hA hE (q0 := 0) (ci := 8) rfl rfl rfl rfl hl.1 rfl (Nat.le_of_ble_eq_true rfl) dX8_same_24 ⟨Nat.zero_le _, Nat.zero_le _⟩ (fun H locs hP hD hS => ?_)
      refine lv_i2l (v := u_6.1.toInt64) hx hb dX8_same_27 rfl ?_
      obtain rfl := Option.some.inj h
      exact hRet hP hD hS dX8_same_28
    · have h := ifn c_5 h
      refine lv_iload_n hx hb dX8_same_16 rfl (lv_at hl 1 rfl) ?_
      refine lv_iload_n hx hb dX8_same_17 rfl (lv_at hl 2 rfl) ?_
      refine lv_icmp_ne (tgt := 29) hx hb dX8_same_18 (by decide) (fun c_7 => ?_) (fun c_7 => ?_)
      · have h := ifn c_7 h
        refine lv_aload_n hx hb dX8_same_29 rfl (lv_at hl 0 rfl) ?_
        obtain ⟨u_8, e_8, h⟩ := bd_some h
        refine cm_Vl (As := []) (rest := []) ⟨hx, hb, hml, hown, hts⟩ (c_X8_weigh (ca := ca) (ev := ev) (h0 := h0) (h1 := h1) (h2 := h2) (h3 := h3) (h4 := h4) (h5 := h5) (h6 := h6) (h7 := h7) (h8 := h8) (h9 := h9) (h10 := h10) (h11 := h11) (h12 := h12) (h13 := h13) (h14 := h14) (h15 := h15) (h16 := h16) (h17 := h17) (now := now) (kept := kept) (isKept := isKept) (found := found) (order := order) (doubts := doubts) (doubtMany := doubtMany) (weights := weights) (worn := worn) (pairs := pairs) (isTwice := isTwice) (doer := doer) (doneTo := doneTo) (doers := doers) (tape := tape) (taped := taped) (begins := begins) (ends := ends) (sort := sort) (value := value) (isWrong := isWrong) (items := items) (itemMany := itemMany) (bowThen := bowThen) (doubtThen := doubtThen) (deedThen := deedThen) (sayingThen := sayingThen) (widths := widths) (sizes := sizes) (numbers := numbers) (moved := moved) e_8) (cwV 0 hts gX8_same_X8_weigh rfl rfl rfl hd_X8_weigh ⟨Nat.le_of_ble_eq_true rfl, Nat.le_of_ble_eq_true rfl⟩) hK hP hD hS hA hE (q0 := 0) (ci := 8) rfl rfl rfl rfl hl.1 rfl (Nat.le_of_ble_eq_true rfl) dX8_same_30 ⟨Nat.zero_le _, Nat.zero_le _⟩ (fun H locs hP hD hS => ?_)
        refine lv_pop2_2 hx hb dX8_same_33 rfl ?_
        refine lv_lconst (v := (0 : Int64)) hx hb dX8_same_34 (by decide) ?_
        refine lv_lstore_n (lv' := [(3, .long (0 : Int64)), (0, .ref h0), (1, .int a1), (2, .int a2)]) hx hb dX8_same_35 rfl hl (by decide) rfl (fun ls hl => ?_)
        refine lv_iconst (v := (0 : Int32)) hx hb dX8_same_36 (by decide) ?_
        refine lv_istore (lv' := [(5, .int (0 : Int32)), (3, .long (0 : Int64)), (0, .ref h0), (1, .int a1), (2, .int a2)]) hx hb dX8_same_37 hl (by decide) rfl (fun ls hl => ?_)
        have L_39 : ∀ {x1_39 : Int32} {x2_39 : Int32} {now_39 : (Nat → Int32)} {order_39 : (Nat → Int32)} {doubts_39 : (Nat → Int32)} {doubtMany_39 : Int32} {weights_39 : (Nat → Int64)} (n_39 : Nat) {x3_39 : Int64} {x5_39 : Int32} {worn_39 : (Nat → Int32)} {pairs_39 : Int64} {isTwice_39 : Int32} {doer_39 : (Nat → Int32)} {doneTo_39 : (Nat → Int32)} {uL_39 : Int64 × (Nat → Int32) × Int64 × Int32 × (Nat → Int32) × (Nat → Int32)} {H : Heap} {locs : List Loc} {ls : Array Slot}, f_X8_same_39 N x1_39 x2_39 now_39 order_39 doubts_39 doubtMany_39 weights_39  n_39 x3_39 x5_39 worn_39 pairs_39 isTwice_39 doer_39 doneTo_39 = some uL_39 → va_P G vwCl (wM ca ev h0 h1 h2 h3 h4 h5 h6 h7 h8 h9 h10 h11 h12 h13 h14 h15 h16 h17 now_39 kept isKept found order_39 doubts_39 doubtMany_39 weights_39 worn_39 pairs_39 isTwice_39 doer_39 doneTo_39 doers tape taped begins ends sort value isWrong items itemMany bowThen doubtThen deedThen sayingThen widths sizes numbers moved) H → va_D A (wM ca ev h0 h1 h2 h3 h4 h5 h6 h7 h8 h9 h10 h11 h12 h13 h14 h15 h16 h17 now_39 kept isKept found order_39 doubts_39 doubtMany_39 weights_39 worn_39 pairs_39 isTwice_39 doer_39 doneTo_39 doers tape taped begins ends sort value isWrong items itemMany bowThen doubtThen deedThen sayingThen widths sizes numbers moved) → va_S A s.heap H locs → lv_has ls 6 [(0, .ref h0), (1, .int x1_39), (2, .int x2_39), (3, .long x3_39), (5, .int x5_39)] → (∀ {H : Heap} {locs : List Loc} {ls : Array Slot}, va_P G vwCl (wM ca ev h0 h1 h2 h3 h4 h5 h6 h7 h8 h9 h10 h11 h12 h13 h14 h15 h16 h17 now_39 kept isKept found order_39 doubts_39 doubtMany_39 weights_39 uL_39.2.1 uL_39.2.2.1 uL_39.2.2.2.1 uL_39.2.2.2.2.1 uL_39.2.2.2.2.2 doers tape taped begins ends sort value isWrong items itemMany bowThen doubtThen deedThen sayingThen widths sizes numbers moved) H → va_D A (wM ca ev h0 h1 h2 h3 h4 h5 h6 h7 h8 h9 h10 h11 h12 h13 h14 h15 h16 h17 now_39 kept isKept found order_39 doubts_39 doubtMany_39 weights_39 uL_39.2.1 uL_39.2.2.1 uL_39.2.2.2.1 uL_39.2.2.2.2.1 uL_39.2.2.2.2.2 doers tape taped begins ends sort value isWrong items itemMany bowThen doubtThen deedThen sayingThen widths sizes numbers moved) → va_S A s.heap H locs → lv_has ls 6 [(3, .long uL_39.1)] → W p l e rm_X8_same s m args below meth c H locs 0 0 Q (F0 m 89 ls [])) → W p l e rm_X8_same s m args below meth c H locs 0 0 Q (F0 m 39 ls []) := by
          intro x1_39 x2_39 now_39 order_39 doubts_39 doubtMany_39 weights_39 n_39
          induction n_39 with
          | zero => intro x3_39 x5_39 worn_39 pairs_39 isTwice_39 doer_39 doneTo_39 uL_39 H locs ls h; exact absurd h (by rw [f_X8_same_39]; exact fun z => nomatch z)
          | succ n_39 ih =>
            intro x3_39 x5_39 worn_39 pairs_39 isTwice_39 doer_39 doneTo_39 uL_39 H locs ls h hP hD hS hl JK_39
            rw [f_X8_same_39] at h
            refine lv_iload hx hb dX8_same_39 (lv_at hl 4 rfl) ?_
            refine lv_aload_n hx hb dX8_same_41 rfl (lv_at hl 0 rfl) ?_
            obtain ⟨u_9, e_9, h⟩ := bd_some h
            refine cm_Vi (As := []) (rest := [.int x5_39]) ⟨hx, hb, hml, hown, hts⟩ (c_X8_nightsThere (ca := ca) (ev := ev) (h0 := h0) (h1 := h1) (h2 := h2) (h3 := h3) (h4 := h4) (h5 := h5) (h6 := h6) (h7 := h7) (h8 := h8) (h9 := h9) (h10 := h10) (h11 := h11) (h12 := h12) (h13 := h13) (h14 := h14) (h15 := h15) (h16 := h16) (h17 := h17) (now := now_39) (kept := kept) (isKept := isKept) (found := found) (order := order_39) (doubts := doubts_39) (doubtMany := doubtMany_39) (weights := weights_39) (worn := worn_39) (pairs := pairs_39) (isTwice := isTwice_39) (doer := doer_39) (doneTo := doneTo_39) (doers := doers) (tape := tape) (taped := taped) (begins := begins) (ends := ends) (sort := sort) (value := value) (isWrong := isWrong) (items := items) (itemMany := itemMany) (bowThen := bowThen) (doubtThen := doubtThen) (deedThen := deedThen) (sayingThen := sayingThen) (widths := widths) (sizes := sizes) (numbers := numbers) (moved := moved) e_9) (cwV 0 hts gX8_same_X8_nightsThere rfl rfl rfl hd_X8_nightsThere ⟨Nat.le_of_ble_eq_true rfl, Nat.le_of_ble_eq_true rfl⟩) hK hP hD hS hA hE (q0 := 0) (ci := 8) rfl rfl rfl rfl hl.1 rfl (Nat.le_of_ble_eq_true rfl) dX8_same_42 ⟨Nat.zero_le _, Nat.zero_le _⟩ (fun H locs hP hD hS => ?_)
            refine lv_icmp_ge (tgt := 89) hx hb dX8_same_45 (by decide) (fun c_10 => ?_) (fun c_10 => ?_)
            · have h := ifp c_10 h
              obtain rfl := Option.some.inj h
              exact JK_39 hP hD hS (lv_sub hl [3] rfl)
            · have h := ifn c_10 h
              refine lv_aload_n hx hb dX8_same_48 rfl (lv_at hl 0 rfl) ?_
              refine lv_iload hx hb dX8_same_49 (lv_at hl 4 rfl) ?_
              obtain ⟨u_11, e_11, h⟩ := bd_some h
              refine cm_Vv (As := [.int x5_39]) (rest := []) ⟨hx, hb, hml, hown, hts⟩ (c_X8_findDoers (ca := ca) (ev := ev) (h0 := h0) (h1 := h1) (h2 := h2) (h3 := h3) (h4 := h4) (h5 := h5) (h6 := h6) (h7 := h7) (h8 := h8) (h9 := h9) (h10 := h10) (h11 := h11) (h12 := h12) (h13 := h13) (h14 := h14) (h15 := h15) (h16 := h16) (h17 := h17) (now := now_39) (kept := kept) (isKept := isKept) (found := found) (order := order_39) (doubts := doubts_39) (doubtMany := doubtMany_39) (weights := weights_39) (worn := worn_39) (pairs := pairs_39) (isTwice := isTwice_39) (doer := doer_39) (doneTo := doneTo_39) (doers := doers) (tape := tape) (taped := taped) (begins := begins) (ends := ends) (sort := sort) (value := value) (isWrong := isWrong) (items := items) (itemMany := itemMany) (bowThen := bowThen) (doubtThen := doubtThen) (deedThen := deedThen) (sayingThen := sayingThen) (widths := widths) (sizes := sizes) (numbers := numbers) (moved := moved) e_11) (cwV 1 hts gX8_same_X8_findDoers rfl rfl rfl hd_X8_findDoers ⟨Nat.le_of_ble_eq_true rfl, Nat.le_of_ble_eq_true rfl⟩) hK hP hD hS hA hE (q0 := 0) (ci := 8) rfl rfl rfl rfl hl.1 rfl (Nat.le_of_ble_eq_true rfl) dX8_same_51 ⟨Nat.zero_le _, Nat.zero_le _⟩ (fun H locs hP hD hS => ?_)
              refine lv_lload_n hx hb dX8_same_54 rfl (lv_at hl 3 rfl) ?_
              refine lv_aload_n hx hb dX8_same_55 rfl (lv_at hl 0 rfl) ?_
              refine va_get (D := G) (ci := 8) (v := .ref h8) (C := RX8) (T := TX8) (N := 32) hx hb hts hin_X8 hown hK hP 0 rfl rfl 11 (by decide) fk_32 (fun _ h9 => h9) rfl dX8_same_56 ?_
              refine lv_iload_n hx hb dX8_same_59 rfl (lv_at hl 1 rfl) ?_
              obtain ⟨i_12, h⟩ := gd_some h
              refine va_iald hx hb hK hP 8 0 rfl rfl (ix_in i_12) dX8_same_60 ?_
              refine lv_aload_n hx hb dX8_same_61 rfl (lv_at hl 0 rfl) ?_
              refine va_get (D := G) (ci := 8) (v := .ref h8) (C := RX8) (T := TX8) (N := 32) hx hb hts hin_X8 hown hK hP 0 rfl rfl 11 (by decide) fk_32 (fun _ h9 => h9) rfl dX8_same_62 ?_
              refine lv_iload_n hx hb dX8_same_65 rfl (lv_at hl 2 rfl) ?_
              obtain ⟨i_13, h⟩ := gd_some h
              refine va_iald hx hb hK hP 8 0 rfl rfl (ix_in i_13) dX8_same_66 ?_
              obtain ⟨u_14, e_14, h⟩ := bd_some h
              have J_14 : ∀ {H : Heap} {locs : List Loc} {ls : Array Slot}, va_P G vwCl (wM ca ev h0 h1 h2 h3 h4 h5 h6 h7 h8 h9 h10 h11 h12 h13 h14 h15 h16 h17 now_39 kept isKept found order_39 doubts_39 doubtMany_39 weights_39 u_11.1 u_11.2.1 u_11.2.2.1 u_11.2.2.2.1 u_11.2.2.2.2 doers tape taped begins ends sort value isWrong items itemMany bowThen doubtThen deedThen sayingThen widths sizes numbers moved) H → va_D A (wM ca ev h0 h1 h2 h3 h4 h5 h6 h7 h8 h9 h10 h11 h12 h13 h14 h15 h16 h17 now_39 kept isKept found order_39 doubts_39 doubtMany_39 weights_39 u_11.1 u_11.2.1 u_11.2.2.1 u_11.2.2.2.1 u_11.2.2.2.2 doers tape taped begins ends sort value isWrong items itemMany bowThen doubtThen deedThen sayingThen widths sizes numbers moved) → va_S A s.heap H locs → lv_has ls 6 [(0, .ref h0), (1, .int x1_39), (2, .int x2_39), (5, .int x5_39)] → W p l e rm_X8_same s m args below meth c H locs 0 0 Q (F0 m 81 ls [.long u_14, .long x3_39]) := by
                intro H locs ls hP hD hS hl 
                refine lv_ladd hx hb dX8_same_81 ?_
                refine lv_lstore_n (lv' := [(3, .long (x3_39 + u_14)), (0, .ref h0), (1, .int x1_39), (2, .int x2_39), (5, .int x5_39)]) hx hb dX8_same_82 rfl hl (by decide) rfl (fun ls hl => ?_)
                refine lv_iinc (v := (x5_39 + (1 : Int32))) (lv' := [(5, .int (x5_39 + (1 : Int32))), (3, .long (x3_39 + u_14)), (0, .ref h0), (1, .int x1_39), (2, .int x2_39)]) hx hb dX8_same_83 hl (k := 4) rfl rfl (by decide) rfl (fun ls hl => ?_)
                refine lv_goto (tgt := 39) hx hb dX8_same_86 (by decide) ?_
                exact ih h hP hD hS (lv_sub hl [2, 3, 4, 1, 0] rfl) JK_39
              have h := e_14
              clear e_14
              refine lv_icmp_ne (tgt := 80) hx hb dX8_same_67 (by decide) (fun c_14 => ?_) (fun c_14 => ?_)
              · have h := ifn c_14 h
                refine lv_lconst (v := (0 : Int64)) hx hb dX8_same_80 (by decide) ?_
                obtain rfl := Option.some.inj h
                exact J_14 hP hD hS (lv_sub hl [0, 1, 2, 4] rfl)
              · have h := ifp c_14 h
                refine lv_aload_n hx hb dX8_same_70 rfl (lv_at hl 0 rfl) ?_
                refine va_get (D := G) (ci := 8) (v := .ref h6) (C := RX8) (T := TX8) (N := 32) hx hb hts hin_X8 hown hK hP 0 rfl rfl 7 (by decide) fk_25 (fun _ h9 => h9) rfl dX8_same_71 ?_
                refine lv_iload hx hb dX8_same_74 (lv_at hl 4 rfl) ?_
                obtain ⟨i_15, h⟩ := gd_some h
                refine va_lald hx hb hK hP 6 1 rfl rfl (ix_in i_15) dX8_same_76 ?_
                refine lv_goto (tgt := 81) hx hb dX8_same_77 (by decide) ?_
                obtain rfl := Option.some.inj h
                exact J_14 hP hD hS (lv_sub hl [0, 1, 2, 4] rfl)
        obtain ⟨u_16, e_16, h⟩ := bd_some h
        refine L_39 _ e_16 hP hD hS (lv_sub hl [2, 3, 4, 1, 0] rfl) ?_
        intro H locs ls hP hD hS hl
        refine lv_lload_n hx hb dX8_same_89 rfl (lv_at hl 0 rfl) ?_
        obtain rfl := Option.some.inj h
        exact hRet hP hD hS dX8_same_90
      · have h := ifp c_7 h
        refine lv_aload_n hx hb dX8_same_21 rfl (lv_at hl 0 rfl) ?_
        refine lv_ldc (v := (-1000000001 : Int32)) hx hb hown (hts (.constant RX8 77 (-1000000001)) (by decide +kernel)) dX8_same_22 ?_
        obtain ⟨u_17, e_17, h⟩ := bd_some h
        refine cm_Vi (As := [.int (-1000000001 : Int32)]) (rest := []) ⟨hx, hb, hml, hown, hts⟩ (c_X8_finding (ca := ca) (ev := ev) (h0 := h0) (h1 := h1) (h2 := h2) (h3 := h3) (h4 := h4) (h5 := h5) (h6 := h6) (h7 := h7) (h8 := h8) (h9 := h9) (h10 := h10) (h11 := h11) (h12 := h12) (h13 := h13) (h14 := h14) (h15 := h15) (h16 := h16) (h17 := h17) (now := now) (kept := kept) (isKept := isKept) (found := found) (order := order) (doubts := doubts) (doubtMany := doubtMany) (weights := weights) (worn := worn) (pairs := pairs) (isTwice := isTwice) (doer := doer) (doneTo := doneTo) (doers := doers) (tape := tape) (taped := taped) (begins := begins) (ends := ends) (sort := sort) (value := value) (isWrong := isWrong) (items := items) (itemMany := itemMany) (bowThen := bowThen) (doubtThen := doubtThen) (deedThen := deedThen) (sayingThen := sayingThen) (widths := widths) (sizes := sizes) (numbers := numbers) (moved := moved) e_17) (cwV 1 hts gX8_same_X8_finding rfl rfl rfl hd_X8_finding ⟨Nat.le_of_ble_eq_true rfl, Nat.le_of_ble_eq_true rfl⟩) hK hP hD hS hA hE (q0 := 0) (ci := 8) rfl rfl rfl rfl hl.1 rfl (Nat.le_of_ble_eq_true rfl) dX8_same_24 ⟨Nat.zero_le _, Nat.zero_le _⟩ (fun H locs hP hD hS => ?_)
        refine lv_i2l (v := u_17.1.toInt64) hx hb dX8_same_27 rfl ?_
        obtain rfl := Option.some.inj h
        exact hRet hP hD hS dX8_same_28
abbrev rm_X8_owes : Room := { frames := 5, cells := 0, slots := 0, locals := 120 }
theorem hd_X8_owes : yX8_owes.cls = RX8 ∧ yX8_owes.cls ≠ "java/lang/invoke/MethodHandle" ∧ yX8_owes.cls ≠ "java/lang/invoke/VarHandle" ∧ (parseMethodDescriptor yX8_owes.desc).map (fun d => d.parameters.length) = some 1 := by decide +kernel
set_option maxHeartbeats 4000000 in
set_option maxRecDepth 100000 in
theorem c_X8_owes {l : Launch} {G : va_G} {ca : Nat → ClassId} {ev : Nat → Nat} {h0 h1 h2 h3 h4 h5 h6 h7 h8 h9 h10 h11 h12 h13 h14 h15 h16 h17 : Nat} {now : (Nat → Int32)} {kept : (Nat → Int32)} {isKept : Int32} {found : (Nat → Int32)} {order : (Nat → Int32)} {doubts : (Nat → Int32)} {doubtMany : Int32} {weights : (Nat → Int64)} {worn : (Nat → Int32)} {pairs : Int64} {isTwice : Int32} {doer : (Nat → Int32)} {doneTo : (Nat → Int32)} {doers : (Nat → Int64)} {tape : (Nat → Int32)} {taped : Int32} {begins : Int32} {ends : Int32} {sort : Int32} {value : Int32} {isWrong : Int32} {items : (Nat → Int32)} {itemMany : Int32} {bowThen : Int32} {doubtThen : Int32} {deedThen : Int32} {sayingThen : Int32} {widths : (Nat → Int32)} {sizes : (Nat → Int32)} {numbers : (Nat → Int64)} {moved : (Nat → Int64)} {a1 : Int32} {N : Nat} {res : Int64 × (Nat → Int32) × (Nat → Int32) × (Nat → Int32) × Int32 × (Nat → Int64) × (Nat → Int32) × Int64 × Int32 × (Nat → Int32) × (Nat → Int32)} (h : f_X8_owes N now found order doubts doubtMany weights worn pairs isTwice doer doneTo a1 = some res) : CtL l yX8_owes wsX8_owes rm_X8_owes G ca ev [.ref h0, .int a1] (wM ca ev h0 h1 h2 h3 h4 h5 h6 h7 h8 h9 h10 h11 h12 h13 h14 h15 h16 h17 now kept isKept found order doubts doubtMany weights worn pairs isTwice doer doneTo doers tape taped begins ends sort value isWrong items itemMany bowThen doubtThen deedThen sayingThen widths sizes numbers moved) (wM ca ev h0 h1 h2 h3 h4 h5 h6 h7 h8 h9 h10 h11 h12 h13 h14 h15 h16 h17 now kept isKept res.2.1 res.2.2.1 res.2.2.2.1 res.2.2.2.2.1 res.2.2.2.2.2.1 res.2.2.2.2.2.2.1 res.2.2.2.2.2.2.2.1 res.2.2.2.2.2.2.2.2.1 res.2.2.2.2.2.2.2.2.2.1 res.2.2.2.2.2.2.2.2.2.2 doers tape taped begins ends sort value isWrong items itemMany bowThen doubtThen deedThen sayingThen widths sizes numbers moved) res.1 := by
  unfold f_X8_owes at h
  refine en_l (by decide) rfl (Nat.le_of_ble_eq_true rfl) ?_
  intro p e s m args below meth c A Q H locs ls hx hb hml hown hts hA hP hK hD hE hS hl hRet
  have hown : s.vm.findClass RX8 = some m.cls := hown
  have hl : lv_has ls 7 [(0, .ref h0), (1, .int a1)] := hl
  have hin_X8 : ∀ w ∈ u_ws RX8 TX8 32, w ∈ wsX8_owes := fun w h9 => List.mem_cons_of_mem _ (List.mem_append_right _ h9)
  have fk_25 := hts (.fieldLink RX8 25 "MaskBowsModel" "weights" "[J") (by decide +kernel)
  have fk_32 := hts (.fieldLink RX8 32 "MaskBowsModel" "doer" "[I") (by decide +kernel)
  have fk_35 := hts (.fieldLink RX8 35 "MaskBowsModel" "doneTo" "[I") (by decide +kernel)
  have fk_9 := hts (.fieldLink RX8 9 "MaskBowsModel" "now" "[I") (by decide +kernel)
  refine lv_aload_n hx hb dX8_owes_0 rfl (lv_at hl 0 rfl) ?_
  refine lv_iload_n hx hb dX8_owes_1 rfl (lv_at hl 1 rfl) ?_
  obtain ⟨u_1, e_1, h⟩ := bd_some h
  refine cm_Vi (As := [.int a1]) (rest := []) ⟨hx, hb, hml, hown, hts⟩ (c_X8_isOne (ca := ca) (ev := ev) (h0 := h0) (h1 := h1) (h2 := h2) (h3 := h3) (h4 := h4) (h5 := h5) (h6 := h6) (h7 := h7) (h8 := h8) (h9 := h9) (h10 := h10) (h11 := h11) (h12 := h12) (h13 := h13) (h14 := h14) (h15 := h15) (h16 := h16) (h17 := h17) (now := now) (kept := kept) (isKept := isKept) (found := found) (order := order) (doubts := doubts) (doubtMany := doubtMany) (weights := weights) (worn := worn) (pairs := pairs) (isTwice := isTwice) (doer := doer) (doneTo := doneTo) (doers := doers) (tape := tape) (taped := taped) (begins := begins) (ends := ends) (sort := sort) (value := value) (isWrong := isWrong) (items := items) (itemMany := itemMany) (bowThen := bowThen) (doubtThen := doubtThen) (deedThen := deedThen) (sayingThen := sayingThen) (widths := widths) (sizes := sizes) (numbers := numbers) (moved := moved) e_1) (cwV 1 hts gX8_owes_X8_isOne rfl rfl rfl hd_X8_isOne ⟨Nat.le_of_ble_eq_true rfl, Nat.le_of_ble_eq_true rfl⟩) hK hP hD hS hA hE (q0 := 0) (ci := 8) rfl rfl rfl rfl hl.1 rfl (Nat.le_of_ble_eq_true rfl) dX8_owes_2 ⟨Nat.zero_le _, Nat.zero_le _⟩ (fun H locs hP hD hS => ?_)
  refine lv_if_ne (tgt := 16) hx hb dX8_owes_5 (by decide) (fun c_2 => ?_) (fun c_2 => ?_)
  · have h := ifn c_2 h
    refine lv_aload_n hx hb dX8_owes_16 rfl (lv_at hl 0 rfl) ?_
    obtain ⟨u_3, e_3, h⟩ := bd_some h
    refine cm_Vl (As := []) (rest := []) ⟨hx, hb, hml, hown, hts⟩ (c_X8_weigh (ca := ca) (ev := ev) (h0 := h0) (h1 := h1) (h2 := h2) (h3 := h3) (h4 := h4) (h5 := h5) (h6 := h6) (h7 := h7) (h8 := h8) (h9 := h9) (h10 := h10) (h11 := h11) (h12 := h12) (h13 := h13) (h14 := h14) (h15 := h15) (h16 := h16) (h17 := h17) (now := now) (kept := kept) (isKept := isKept) (found := found) (order := order) (doubts := doubts) (doubtMany := doubtMany) (weights := weights) (worn := worn) (pairs := pairs) (isTwice := isTwice) (doer := doer) (doneTo := doneTo) (doers := doers) (tape := tape) (taped := taped) (begins := begins) (ends := ends) (sort := sort) (value := value) (isWrong := isWrong) (items := items) (itemMany := itemMany) (bowThen := bowThen) (doubtThen := doubtThen) (deedThen := deedThen) (sayingThen := sayingThen) (widths := widths) (sizes := sizes) (numbers := numbers) (moved := moved) e_3) (cwV 0 hts gX8_owes_X8_weigh rfl rfl rfl hd_X8_weigh ⟨Nat.le_of_ble_eq_true rfl, Nat.le_of_ble_eq_true rfl⟩) hK hP hD hS hA hE (q0 := 0) (ci := 8) rfl rfl rfl rfl hl.1 rfl (Nat.le_of_ble_eq_true rfl) dX8_owes_17 ⟨Nat.zero_le _, Nat.zero_le _⟩ (fun H locs hP hD hS => ?_)
    refine lv_pop2_2 hx hb dX8_owes_20 rfl ?_
    refine lv_lconst (v := (0 : Int64)) hx hb dX8_owes_21 (by decide) ?_
    refine lv_lstore_n (lv' := [(2, .long (0 : Int64)), (0, .ref h0), (1, .int a1)]) hx hb dX8_owes_22 rfl hl (by decide) rfl (fun ls hl => ?_)
    refine lv_iconst (v := (0 : Int32)) hx hb dX8_owes_23 (by decide) ?_
    refine lv_istore (lv' := [(4, .int (0 : Int32)), (2, .long (0 : Int64)), (0, .ref h0), (1, .int a1)]) hx hb dX8_owes_24 hl (by decide) rfl (fun ls hl => ?_)
    have L_26 : ∀ {x1_26 : Int32} {now_26 : (Nat → Int32)} {order_26 : (Nat → Int32)} {doubts_26 : (Nat → Int32)} {doubtMany_26 : Int32} {weights_26 : (Nat → Int64)} (n_26 : Nat) {x2_26 : Int64} {x4_26 : Int32} {worn_26 : (Nat → Int32)} {pairs_26 : Int64} {isTwice_26 : Int32} {doer_26 : (Nat → Int32)} {doneTo_26 : (Nat → Int32)} {uL_26 : Int64 × (Nat → Int32) × Int64 × Int32 × (Nat → Int32) × (Nat → Int32)} {H : Heap} {locs : List Loc} {ls : Array Slot}, f_X8_owes_26 N x1_26 now_26 order_26 doubts_26 doubtMany_26 weights_26  n_26 x2_26 x4_26 worn_26 pairs_26 isTwice_26 doer_26 doneTo_26 = some uL_26 → va_P G vwCl (wM ca ev h0 h1 h2 h3 h4 h5 h6 h7 h8 h9 h10 h11 h12 h13 h14 h15 h16 h17 now_26 kept isKept found order_26 doubts_26 doubtMany_26 weights_26 worn_26 pairs_26 isTwice_26 doer_26 doneTo_26 doers tape taped begins ends sort value isWrong items itemMany bowThen doubtThen deedThen sayingThen widths sizes numbers moved) H → va_D A (wM ca ev h0 h1 h2 h3 h4 h5 h6 h7 h8 h9 h10 h11 h12 h13 h14 h15 h16 h17 now_26 kept isKept found order_26 doubts_26 doubtMany_26 weights_26 worn_26 pairs_26 isTwice_26 doer_26 doneTo_26 doers tape taped begins ends sort value isWrong items itemMany bowThen doubtThen deedThen sayingThen widths sizes numbers moved) → va_S A s.heap H locs → lv_has ls 7 [(0, .ref h0), (1, .int x1_26), (2, .long x2_26), (4, .int x4_26)] → (∀ {H : Heap} {locs : List Loc} {ls : Array Slot}, va_P G vwCl (wM ca ev h0 h1 h2 h3 h4 h5 h6 h7 h8 h9 h10 h11 h12 h13 h14 h15 h16 h17 now_26 kept isKept found order_26 doubts_26 doubtMany_26 weights_26 uL_26.2.1 uL_26.2.2.1 uL_26.2.2.2.1 uL_26.2.2.2.2.1 uL_26.2.2.2.2.2 doers tape taped begins ends sort value isWrong items itemMany bowThen doubtThen deedThen sayingThen widths sizes numbers moved) H → va_D A (wM ca ev h0 h1 h2 h3 h4 h5 h6 h7 h8 h9 h10 h11 h12 h13 h14 h15 h16 h17 now_26 kept isKept found order_26 doubts_26 doubtMany_26 weights_26 uL_26.2.1 uL_26.2.2.1 uL_26.2.2.2.1 uL_26.2.2.2.2.1 uL_26.2.2.2.2.2 doers tape taped begins ends sort value isWrong items itemMany bowThen doubtThen deedThen sayingThen widths sizes numbers moved) → va_S A s.heap H locs → lv_has ls 7 [(2, .long uL_26.1)] → W p l e rm_X8_owes s m args below meth c H locs 0 0 Q (F0 m 122 ls [])) → W p l e rm_X8_owes s m args below meth c H locs 0 0 Q (F0 m 26 ls []) := by
      intro x1_26 now_26 order_26 doubts_26 doubtMany_26 weights_26 n_26
      induction n_26 with
      | zero => intro x2_26 x4_26 worn_26 pairs_26 isTwice_26 doer_26 doneTo_26 uL_26 H locs ls h; exact absurd h (by rw [f_X8_owes_26]; exact fun z => nomatch z)
      | succ n_26 ih =>
        intro x2_26 x4_26 worn_26 pairs_26 isTwice_26 doer_26 doneTo_26 uL_26 H locs ls h hP hD hS hl JK_26
        rw [f_X8_owes_26] at h
        refine lv_iload hx hb dX8_owes_26 (lv_at hl 3 rfl) ?_
        refine lv_aload_n hx hb dX8_owes_28 rfl (lv_at hl 0 rfl) ?_
        obtain ⟨u_4, e_4, h⟩ := bd_some h
        refine cm_Vi (As := []) (rest := [.int x4_26]) ⟨hx, hb, hml, hown, hts⟩ (c_X8_nightsThere (ca := ca) (ev := ev) (h0 := h0) (h1 := h1) (h2 := h2) (h3 := h3) (h4 := h4) (h5 := h5) (h6 := h6) (h7 := h7) (h8 := h8) (h9 := h9) (h10 := h10) (h11 := h11) (h12 := h12) (h13 := h13) (h14 := h14) (h15 := h15) (h16 := h16) (h17 := h17) (now := now_26) (kept := kept) (isKept := isKept) (found := found) (order := order_26) (doubts := doubts_26) (doubtMany := doubtMany_26) (weights := weights_26) (worn := worn_26) (pairs := pairs_26) (isTwice := isTwice_26) (doer := doer_26) (doneTo := doneTo_26) (doers := doers) (tape := tape) (taped := taped) (begins := begins) (ends := ends) (sort := sort) (value := value) (isWrong := isWrong) (items := items) (itemMany := itemMany) (bowThen := bowThen) (doubtThen := doubtThen) (deedThen := deedThen) (sayingThen := sayingThen) (widths := widths) (sizes := sizes) (numbers := numbers) (moved := moved) e_4) (cwV 0 hts gX8_owes_X8_nightsThere rfl rfl rfl hd_X8_nightsThere ⟨Nat.le_of_ble_eq_true rfl, Nat.le_of_ble_eq_true rfl⟩) hK hP hD hS hA hE (q0 := 0) (ci := 8) rfl rfl rfl rfl hl.1 rfl (Nat.le_of_ble_eq_true rfl) dX8_owes_29 ⟨Nat.zero_le _, Nat.zero_le _⟩ (fun H locs hP hD hS => ?_)
        refine lv_icmp_ge (tgt := 122) hx hb dX8_owes_32 (by decide) (fun c_5 => ?_) (fun c_5 => ?_)
        · have h := ifp c_5 h
          obtain rfl := Option.some.inj h
          exact JK_26 hP hD hS (lv_sub hl [2] rfl)
        · have h := ifn c_5 h
          refine lv_aload_n hx hb dX8_owes_35 rfl (lv_at hl 0 rfl) ?_
          refine lv_iload hx hb dX8_owes_36 (lv_at hl 3 rfl) ?_
          obtain ⟨u_6, e_6, h⟩ := bd_some h
          refine cm_Vv (As := [.int x4_26]) (rest := []) ⟨hx, hb, hml, hown, hts⟩ (c_X8_findDoers (ca := ca) (ev := ev) (h0 := h0) (h1 := h1) (h2 := h2) (h3 := h3) (h4 := h4) (h5 := h5) (h6 := h6) (h7 := h7) (h8 := h8) (h9 := h9) (h10 := h10) (h11 := h11) (h12 := h12) (h13 := h13) (h14 := h14) (h15 := h15) (h16 := h16) (h17 := h17) (now := now_26) (kept := kept) (isKept := isKept) (found := found) (order := order_26) (doubts := doubts_26) (doubtMany := doubtMany_26) (weights := weights_26) (worn := worn_26) (pairs := pairs_26) (isTwice := isTwice_26) (doer := doer_26) (doneTo := doneTo_26) (doers := doers) (tape := tape) (taped := taped) (begins := begins) (ends := ends) (sort := sort) (value := value) (isWrong := isWrong) (items := items) (itemMany := itemMany) (bowThen := bowThen) (doubtThen := doubtThen) (deedThen := deedThen) (sayingThen := sayingThen) (widths := widths) (sizes := sizes) (numbers := numbers) (moved := moved) e_6) (cwV 1 hts gX8_owes_X8_findDoers rfl rfl rfl hd_X8_findDoers ⟨Nat.le_of_ble_eq_true rfl, Nat.le_of_ble_eq_true rfl⟩) hK hP hD hS hA hE (q0 := 0) (ci := 8) rfl rfl rfl rfl hl.1 rfl (Nat.le_of_ble_eq_true rfl) dX8_owes_38 ⟨Nat.zero_le _, Nat.zero_le _⟩ (fun H locs hP hD hS => ?_)
          refine lv_iconst (v := (0 : Int32)) hx hb dX8_owes_41 (by decide) ?_
          refine lv_istore (lv' := [(5, .int (0 : Int32)), (0, .ref h0), (1, .int x1_26), (2, .long x2_26), (4, .int x4_26)]) hx hb dX8_owes_42 hl (by decide) rfl (fun ls hl => ?_)
          have L_44 : ∀ {x1_44 : Int32} {x4_44 : Int32} {now_44 : (Nat → Int32)} {weights_44 : (Nat → Int64)} {doer_44 : (Nat → Int32)} {doneTo_44 : (Nat → Int32)} (n_44 : Nat) {x2_44 : Int64} {x5_44 : Int32} {uL_44 : Int64} {H : Heap} {locs : List Loc} {ls : Array Slot}, f_X8_owes_44 x1_44 x4_44 now_44 weights_44 doer_44 doneTo_44  n_44 x2_44 x5_44 = some uL_44 → va_P G vwCl (wM ca ev h0 h1 h2 h3 h4 h5 h6 h7 h8 h9 h10 h11 h12 h13 h14 h15 h16 h17 now_44 kept isKept found order_26 doubts_26 doubtMany_26 weights_44 u_6.1 u_6.2.1 u_6.2.2.1 doer_44 doneTo_44 doers tape taped begins ends sort value isWrong items itemMany bowThen doubtThen deedThen sayingThen widths sizes numbers moved) H → va_D A (wM ca ev h0 h1 h2 h3 h4 h5 h6 h7 h8 h9 h10 h11 h12 h13 h14 h15 h16 h17 now_44 kept isKept found order_26 doubts_26 doubtMany_26 weights_44 u_6.1 u_6.2.1 u_6.2.2.1 doer_44 doneTo_44 doers tape taped begins ends sort value isWrong items itemMany bowThen doubtThen deedThen sayingThen widths sizes numbers moved) → va_S A s.heap H locs → lv_has ls 7 [(0, .ref h0), (1, .int x1_44), (2, .long x2_44), (4, .int x4_44), (5, .int x5_44)] → (∀ {H : Heap} {locs : List Loc} {ls : Array Slot}, va_P G vwCl (wM ca ev h0 h1 h2 h3 h4 h5 h6 h7 h8 h9 h10 h11 h12 h13 h14 h15 h16 h17 now_44 kept isKept found order_26 doubts_26 doubtMany_26 weights_44 u_6.1 u_6.2.1 u_6.2.2.1 doer_44 doneTo_44 doers tape taped begins ends sort value isWrong items itemMany bowThen doubtThen deedThen sayingThen widths sizes numbers moved) H → va_D A (wM ca ev h0 h1 h2 h3 h4 h5 h6 h7 h8 h9 h10 h11 h12 h13 h14 h15 h16 h17 now_44 kept isKept found order_26 doubts_26 doubtMany_26 weights_44 u_6.1 u_6.2.1 u_6.2.2.1 doer_44 doneTo_44 doers tape taped begins ends sort value isWrong items itemMany bowThen doubtThen deedThen sayingThen widths sizes numbers moved) → va_S A s.heap H locs → lv_has ls 7 [(0, .ref h0), (1, .int x1_44), (2, .long uL_44), (4, .int x4_44)] → W p l e rm_X8_owes s m args below meth c H locs 0 0 Q (F0 m 116 ls [])) → W p l e rm_X8_owes s m args below meth c H locs 0 0 Q (F0 m 44 ls []) := by
            intro x1_44 x4_44 now_44 weights_44 doer_44 doneTo_44 n_44
            induction n_44 with
            | zero => intro x2_44 x5_44 uL_44 H locs ls h; exact absurd h (by rw [f_X8_owes_44]; exact fun z => nomatch z)
            | succ n_44 ih =>
              intro x2_44 x5_44 uL_44 H locs ls h hP hD hS hl JK_44
              rw [f_X8_owes_44] at h
              refine lv_iload hx hb dX8_owes_44 (lv_at hl 4 rfl) ?_
              refine lv_aload_n hx hb dX8_owes_46 rfl (lv_at hl 0 rfl) ?_
              refine va_get (D := G) (ci := 8) (v := .ref h1) (C := RX8) (T := TX8) (N := 32) hx hb hts hin_X8 hown hK hP 0 rfl rfl 0 (by decide) fk_9 (fun _ h9 => h9) rfl dX8_owes_47 ?_
              refine lv_iconst (v := (4 : Int32)) hx hb dX8_owes_50 (by decide) ?_
              refine va_iald hx hb hK hP 1 0 rfl rfl (ix_in (by decide)) dX8_owes_51 ?_
              refine lv_icmp_ge (tgt := 116) hx hb dX8_owes_52 (by decide) (fun c_7 => ?_) (fun c_7 => ?_)
              · have h := ifp c_7 h
                obtain rfl := Option.some.inj h
                exact JK_44 hP hD hS (lv_sub hl [0, 1, 2, 3] rfl)
              · have h := ifn c_7 h
                refine lv_aload_n hx hb dX8_owes_55 rfl (lv_at hl 0 rfl) ?_
                refine va_get (D := G) (ci := 8) (v := .ref h8) (C := RX8) (T := TX8) (N := 32) hx hb hts hin_X8 hown hK hP 0 rfl rfl 11 (by decide) fk_32 (fun _ h9 => h9) rfl dX8_owes_56 ?_
                refine lv_iload hx hb dX8_owes_59 (lv_at hl 4 rfl) ?_
                obtain ⟨i_8, h⟩ := gd_some h
                refine va_iald hx hb hK hP 8 0 rfl rfl (ix_in i_8) dX8_owes_61 ?_
                refine lv_iload_n hx hb dX8_owes_62 rfl (lv_at hl 1 rfl) ?_
                obtain ⟨u_9, e_9, h⟩ := bd_some h
                have J_9 : ∀ {H : Heap} {locs : List Loc} {ls : Array Slot}, va_P G vwCl (wM ca ev h0 h1 h2 h3 h4 h5 h6 h7 h8 h9 h10 h11 h12 h13 h14 h15 h16 h17 now_44 kept isKept found order_26 doubts_26 doubtMany_26 weights_44 u_6.1 u_6.2.1 u_6.2.2.1 doer_44 doneTo_44 doers tape taped begins ends sort value isWrong items itemMany bowThen doubtThen deedThen sayingThen widths sizes numbers moved) H → va_D A (wM ca ev h0 h1 h2 h3 h4 h5 h6 h7 h8 h9 h10 h11 h12 h13 h14 h15 h16 h17 now_44 kept isKept found order_26 doubts_26 doubtMany_26 weights_44 u_6.1 u_6.2.1 u_6.2.2.1 doer_44 doneTo_44 doers tape taped begins ends sort value isWrong items itemMany bowThen doubtThen deedThen sayingThen widths sizes numbers moved) → va_S A s.heap H locs → lv_has ls 7 [(0, .ref h0), (1, .int x1_44), (2, .long x2_44), (4, .int x4_44), (5, .int x5_44)] → W p l e rm_X8_owes s m args below meth c H locs 0 0 Q (F0 m 86 ls [.int u_9]) := by
                  intro H locs ls hP hD hS hl 
                  refine lv_istore (lv' := [(6, .int u_9), (0, .ref h0), (1, .int x1_44), (2, .long x2_44), (4, .int x4_44), (5, .int x5_44)]) hx hb dX8_owes_86 hl (by decide) rfl (fun ls hl => ?_)
                  refine lv_lload_n hx hb dX8_owes_88 rfl (lv_at hl 3 rfl) ?_
                  refine lv_iload hx hb dX8_owes_89 (lv_at hl 0 rfl) ?_
                  refine lv_i2l (v := u_9.toInt64) hx hb dX8_owes_91 rfl ?_
                  refine lv_aload_n hx hb dX8_owes_92 rfl (lv_at hl 1 rfl) ?_
                  refine va_get (D := G) (ci := 8) (v := .ref h6) (C := RX8) (T := TX8) (N := 32) hx hb hts hin_X8 hown hK hP 0 rfl rfl 7 (by decide) fk_25 (fun _ h9 => h9) rfl dX8_owes_93 ?_
                  refine lv_iload hx hb dX8_owes_96 (lv_at hl 4 rfl) ?_
                  obtain ⟨i_11, h⟩ := gd_some h
                  refine va_lald hx hb hK hP 6 1 rfl rfl (ix_in i_11) dX8_owes_98 ?_
                  refine lv_lmul hx hb dX8_owes_99 ?_
                  refine lv_aload_n hx hb dX8_owes_100 rfl (lv_at hl 1 rfl) ?_
                  refine lv_iload hx hb dX8_owes_101 (lv_at hl 5 rfl) ?_
                  obtain ⟨u_12, e_12, h⟩ := bd_some h
                  refine cm_Vi (As := [.int x5_44]) (rest := [.long (u_9.toInt64 * (weights_44 x4_44.toNatClampNeg)), .long x2_44]) ⟨hx, hb, hml, hown, hts⟩ (c_X8_pays (ca := ca) (ev := ev) (h0 := h0) (h1 := h1) (h2 := h2) (h3 := h3) (h4 := h4) (h5 := h5) (h6 := h6) (h7 := h7) (h8 := h8) (h9 := h9) (h10 := h10) (h11 := h11) (h12 := h12) (h13 := h13) (h14 := h14) (h15 := h15) (h16 := h16) (h17 := h17) (now := now_44) (kept := kept) (isKept := isKept) (found := found) (order := order_26) (doubts := doubts_26) (doubtMany := doubtMany_26) (weights := weights_44) (worn := u_6.1) (pairs := u_6.2.1) (isTwice := u_6.2.2.1) (doer := doer_44) (doneTo := doneTo_44) (doers := doers) (tape := tape) (taped := taped) (begins := begins) (ends := ends) (sort := sort) (value := value) (isWrong := isWrong) (items := items) (itemMany := itemMany) (bowThen := bowThen) (doubtThen := doubtThen) (deedThen := deedThen) (sayingThen := sayingThen) (widths := widths) (sizes := sizes) (numbers := numbers) (moved := moved) e_12) (cwV 1 hts gX8_owes_X8_pays rfl rfl rfl hd_X8_pays ⟨Nat.le_of_ble_eq_true rfl, Nat.le_of_ble_eq_true rfl⟩) hK hP hD hS hA hE (q0 := 0) (ci := 8) rfl rfl rfl rfl hl.1 rfl (Nat.le_of_ble_eq_true rfl) dX8_owes_103 ⟨Nat.zero_le _, Nat.zero_le _⟩ (fun H locs hP hD hS => ?_)
                  refine lv_i2l (v := u_12.toInt64) hx hb dX8_owes_106 rfl ?_
                  refine lv_lmul hx hb dX8_owes_107 ?_
                  refine lv_ladd hx hb dX8_owes_108 ?_
                  refine lv_lstore_n (lv' := [(2, .long (x2_44 + ((u_9.toInt64 * (weights_44 x4_44.toNatClampNeg)) * u_12.toInt64))), (6, .int u_9), (0, .ref h0), (1, .int x1_44), (4, .int x4_44), (5, .int x5_44)]) hx hb dX8_owes_109 rfl hl (by decide) rfl (fun ls hl => ?_)
                  refine lv_iinc (v := (x5_44 + (1 : Int32))) (lv' := [(5, .int (x5_44 + (1 : Int32))), (2, .long (x2_44 + ((u_9.toInt64 * (weights_44 x4_44.toNatClampNeg)) * u_12.toInt64))), (6, .int u_9), (0, .ref h0), (1, .int x1_44), (4, .int x4_44)]) hx hb dX8_owes_110 hl (k := 5) rfl rfl (by decide) rfl (fun ls hl => ?_)
                  refine lv_goto (tgt := 44) hx hb dX8_owes_113 (by decide) ?_
                  exact ih h hP hD hS (lv_sub hl [3, 4, 1, 5, 0] rfl) JK_44
                have h := e_9
                clear e_9
                refine lv_icmp_ne (tgt := 70) hx hb dX8_owes_63 (by decide) (fun c_9 => ?_) (fun c_9 => ?_)
                · have h := ifn c_9 h
                  refine lv_aload_n hx hb dX8_owes_70 rfl (lv_at hl 0 rfl) ?_
                  refine va_get (D := G) (ci := 8) (v := .ref h9) (C := RX8) (T := TX8) (N := 32) hx hb hts hin_X8 hown hK hP 0 rfl rfl 12 (by decide) fk_35 (fun _ h9 => h9) rfl dX8_owes_71 ?_
                  refine lv_iload hx hb dX8_owes_74 (lv_at hl 4 rfl) ?_
                  refine va_iald hx hb hK hP 9 0 rfl rfl (ix_in i_8) dX8_owes_76 ?_
                  refine lv_iload_n hx hb dX8_owes_77 rfl (lv_at hl 1 rfl) ?_
                  refine lv_icmp_ne (tgt := 85) hx hb dX8_owes_78 (by decide) (fun c_10 => ?_) (fun c_10 => ?_)
                  · have h := ifn c_10 h
                    refine lv_iconst (v := (0 : Int32)) hx hb dX8_owes_85 (by decide) ?_
                    obtain rfl := Option.some.inj h
                    exact J_9 hP hD hS (lv_sub hl [0, 1, 2, 3, 4] rfl)
                  · have h := ifp c_10 h
                    refine lv_iconst (v := (-1 : Int32)) hx hb dX8_owes_81 (by decide) ?_
                    refine lv_goto (tgt := 86) hx hb dX8_owes_82 (by decide) ?_
                    obtain rfl := Option.some.inj h
                    exact J_9 hP hD hS (lv_sub hl [0, 1, 2, 3, 4] rfl)
                · have h := ifp c_9 h
                  refine lv_iconst (v := (1 : Int32)) hx hb dX8_owes_66 (by decide) ?_
                  refine lv_goto (tgt := 86) hx hb dX8_owes_67 (by decide) ?_
                  obtain rfl := Option.some.inj h
                  exact J_9 hP hD hS (lv_sub hl [0, 1, 2, 3, 4] rfl)
          obtain ⟨u_13, e_13, h⟩ := bd_some h
          refine L_44 _ e_13 hP hD hS (lv_sub hl [1, 2, 3, 4, 0] rfl) ?_
          intro H locs ls hP hD hS hl
          refine lv_iinc (v := (x4_26 + (1 : Int32))) (lv' := [(4, .int (x4_26 + (1 : Int32))), (0, .ref h0), (1, .int x1_26), (2, .long u_13)]) hx hb dX8_owes_116 hl (k := 3) rfl rfl (by decide) rfl (fun ls hl => ?_)
          refine lv_goto (tgt := 26) hx hb dX8_owes_119 (by decide) ?_
          exact ih h hP hD hS (lv_sub hl [1, 2, 3, 0] rfl) JK_26
    obtain ⟨u_14, e_14, h⟩ := bd_some h
    refine L_26 _ e_14 hP hD hS (lv_sub hl [2, 3, 1, 0] rfl) ?_
    intro H locs ls hP hD hS hl
    refine lv_lload_n hx hb dX8_owes_122 rfl (lv_at hl 0 rfl) ?_
    obtain rfl := Option.some.inj h
    exact hRet hP hD hS dX8_owes_123
  · have h := ifp c_2 h
    refine lv_aload_n hx hb dX8_owes_8 rfl (lv_at hl 0 rfl) ?_
    refine lv_ldc (v := (-1000000001 : Int32)) hx hb hown (hts (.constant RX8 77 (-1000000001)) (by decide +kernel)) dX8_owes_9 ?_
    obtain ⟨u_15, e_15, h⟩ := bd_some h
    refine cm_Vi (As := [.int (-1000000001 : Int32)]) (rest := []) ⟨hx, hb, hml, hown, hts⟩ (c_X8_finding (ca := ca) (ev := ev) (h0 := h0) (h1 := h1) (h2 := h2) (h3 := h3) (h4 := h4) (h5 := h5) (h6 := h6) (h7 := h7) (h8 := h8) (h9 := h9) (h10 := h10) (h11 := h11) (h12 := h12) (h13 := h13) (h14 := h14) (h15 := h15) (h16 := h16) (h17 := h17) (now := now) (kept := kept) (isKept := isKept) (found := found) (order := order) (doubts := doubts) (doubtMany := doubtMany) (weights := weights) (worn := worn) (pairs := pairs) (isTwice := isTwice) (doer := doer) (doneTo := doneTo) (doers := doers) (tape := tape) (taped := taped) (begins := begins) (ends := ends) (sort := sort) (value := value) (isWrong := isWrong) (items := items) (itemMany := itemMany) (bowThen := bowThen) (doubtThen := doubtThen) (deedThen := deedThen) (sayingThen := sayingThen) (widths := widths) (sizes := sizes) (numbers := numbers) (moved := moved) e_15) (cwV 1 hts gX8_owes_X8_finding rfl rfl rfl hd_X8_finding ⟨Nat.le_of_ble_eq_true rfl, Nat.le_of_ble_eq_true rfl⟩) hK hP hD hS hA hE (q0 := 0) (ci := 8) rfl rfl rfl rfl hl.1 rfl (Nat.le_of_ble_eq_true rfl) dX8_owes_11 ⟨Nat.zero_le _, Nat.zero_le _⟩ (fun H locs hP hD hS => ?_)
    refine lv_i2l (v := u_15.1.toInt64) hx hb dX8_owes_14 rfl ?_
    obtain rfl := Option.some.inj h
    exact hRet hP hD hS dX8_owes_15
abbrev rm_X8_owesTo : Room := { frames := 6, cells := 0, slots := 0, locals := 142 }
theorem hd_X8_owesTo : yX8_owesTo.cls = RX8 ∧ yX8_owesTo.cls ≠ "java/lang/invoke/MethodHandle" ∧ yX8_owesTo.cls ≠ "java/lang/invoke/VarHandle" ∧ (parseMethodDescriptor yX8_owesTo.desc).map (fun d => d.parameters.length) = some 2 := by decide +kernel
set_option maxHeartbeats 4000000 in
set_option maxRecDepth 100000 in
theorem c_X8_owesTo {l : Launch} {G : va_G} {ca : Nat → ClassId} {ev : Nat → Nat} {h0 h1 h2 h3 h4 h5 h6 h7 h8 h9 h10 h11 h12 h13 h14 h15 h16 h17 : Nat} {now : (Nat → Int32)} {kept : (Nat → Int32)} {isKept : Int32} {found : (Nat → Int32)} {order : (Nat → Int32)} {doubts : (Nat → Int32)} {doubtMany : Int32} {weights : (Nat → Int64)} {worn : (Nat → Int32)} {pairs : Int64} {isTwice : Int32} {doer : (Nat → Int32)} {doneTo : (Nat → Int32)} {doers : (Nat → Int64)} {tape : (Nat → Int32)} {taped : Int32} {begins : Int32} {ends : Int32} {sort : Int32} {value : Int32} {isWrong : Int32} {items : (Nat → Int32)} {itemMany : Int32} {bowThen : Int32} {doubtThen : Int32} {deedThen : Int32} {sayingThen : Int32} {widths : (Nat → Int32)} {sizes : (Nat → Int32)} {numbers : (Nat → Int64)} {moved : (Nat → Int64)} {a1 : Int32} {a2 : Int32} {N : Nat} {res : Int32 × (Nat → Int32) × (Nat → Int32) × (Nat → Int32) × Int32 × (Nat → Int64) × (Nat → Int32) × Int64 × Int32 × (Nat → Int32) × (Nat → Int32)} (h : f_X8_owesTo N now found order doubts doubtMany weights worn pairs isTwice doer doneTo a1 a2 = some res) : CtI l yX8_owesTo wsX8_owesTo rm_X8_owesTo G ca ev [.ref h0, .int a1, .int a2] (wM ca ev h0 h1 h2 h3 h4 h5 h6 h7 h8 h9 h10 h11 h12 h13 h14 h15 h16 h17 now kept isKept found order doubts doubtMany weights worn pairs isTwice doer doneTo doers tape taped begins ends sort value isWrong items itemMany bowThen doubtThen deedThen sayingThen widths sizes numbers moved) (wM ca ev h0 h1 h2 h3 h4 h5 h6 h7 h8 h9 h10 h11 h12 h13 h14 h15 h16 h17 now kept isKept res.2.1 res.2.2.1 res.2.2.2.1 res.2.2.2.2.1 res.2.2.2.2.2.1 res.2.2.2.2.2.2.1 res.2.2.2.2.2.2.2.1 res.2.2.2.2.2.2.2.2.1 res.2.2.2.2.2.2.2.2.2.1 res.2.2.2.2.2.2.2.2.2.2 doers tape taped begins ends sort value isWrong items itemMany bowThen doubtThen deedThen sayingThen widths sizes numbers moved) res.1 := by
  unfold f_X8_owesTo at h
  refine en_i (by decide) rfl (Nat.le_of_ble_eq_true rfl) ?_
  intro p e s m args below meth c A Q H locs ls hx hb hml hown hts hA hP hK hD hE hS hl hRet
  have hown : s.vm.findClass RX8 = some m.cls := hown
  have hl : lv_has ls 6 [(0, .ref h0), (1, .int a1), (2, .int a2)] := hl
  have hin_X8 : ∀ w ∈ u_ws RX8 TX8 32, w ∈ wsX8_owesTo := fun w h9 => List.mem_cons_of_mem _ (List.mem_append_right _ h9)
  have fk_32 := hts (.fieldLink RX8 32 "MaskBowsModel" "doer" "[I") (by decide +kernel)
  have fk_35 := hts (.fieldLink RX8 35 "MaskBowsModel" "doneTo" "[I") (by decide +kernel)
  have fk_9 := hts (.fieldLink RX8 9 "MaskBowsModel" "now" "[I") (by decide +kernel)
  refine lv_aload_n hx hb dX8_owesTo_0 rfl (lv_at hl 0 rfl) ?_
  refine lv_iload_n hx hb dX8_owesTo_1 rfl (lv_at hl 1 rfl) ?_
  refine lv_iload_n hx hb dX8_owesTo_2 rfl (lv_at hl 2 rfl) ?_
  obtain ⟨u_1, e_1, h⟩ := bd_some h
  refine cm_Vi (As := [.int a1, .int a2]) (rest := []) ⟨hx, hb, hml, hown, hts⟩ (c_X8_areTwo (ca := ca) (ev := ev) (h0 := h0) (h1 := h1) (h2 := h2) (h3 := h3) (h4 := h4) (h5 := h5) (h6 := h6) (h7 := h7) (h8 := h8) (h9 := h9) (h10 := h10) (h11 := h11) (h12 := h12) (h13 := h13) (h14 := h14) (h15 := h15) (h16 := h16) (h17 := h17) (now := now) (kept := kept) (isKept := isKept) (found := found) (order := order) (doubts := doubts) (doubtMany := doubtMany) (weights := weights) (worn := worn) (pairs := pairs) (isTwice := isTwice) (doer := doer) (doneTo := doneTo) (doers := doers) (tape := tape) (taped := taped) (begins := begins) (ends := ends) (sort := sort) (value := value) (isWrong := isWrong) (items := items) (itemMany := itemMany) (bowThen := bowThen) (doubtThen := doubtThen) (deedThen := deedThen) (sayingThen := sayingThen) (widths := widths) (sizes := sizes) (numbers := numbers) (moved := moved) e_1) (cwV 2 hts gX8_owesTo_X8_areTwo rfl rfl rfl hd_X8_areTwo ⟨Nat.le_of_ble_eq_true rfl, Nat.le_of_ble_eq_true rfl⟩) hK hP hD hS hA hE (q0 := 0) (ci := 8) rfl rfl rfl rfl hl.1 rfl (Nat.le_of_ble_eq_true rfl) dX8_owesTo_3 ⟨Nat.zero_le _, Nat.zero_le _⟩ (fun H locs hP hD hS => ?_)
  refine lv_if_ne (tgt := 16) hx hb dX8_owesTo_6 (by decide) (fun c_2 => ?_) (fun c_2 => ?_)
  · have h := ifn c_2 h
    refine lv_aload_n hx hb dX8_owesTo_16 rfl (lv_at hl 0 rfl) ?_
    obtain ⟨u_3, e_3, h⟩ := bd_some h
    refine cm_Vi (As := []) (rest := []) ⟨hx, hb, hml, hown, hts⟩ (c_X8_bestNight (ca := ca) (ev := ev) (h0 := h0) (h1 := h1) (h2 := h2) (h3 := h3) (h4 := h4) (h5 := h5) (h6 := h6) (h7 := h7) (h8 := h8) (h9 := h9) (h10 := h10) (h11 := h11) (h12 := h12) (h13 := h13) (h14 := h14) (h15 := h15) (h16 := h16) (h17 := h17) (now := now) (kept := kept) (isKept := isKept) (found := found) (order := order) (doubts := doubts) (doubtMany := doubtMany) (weights := weights) (worn := worn) (pairs := pairs) (isTwice := isTwice) (doer := doer) (doneTo := doneTo) (doers := doers) (tape := tape) (taped := taped) (begins := begins) (ends := ends) (sort := sort) (value := value) (isWrong := isWrong) (items := items) (itemMany := itemMany) (bowThen := bowThen) (doubtThen := doubtThen) (deedThen := deedThen) (sayingThen := sayingThen) (widths := widths) (sizes := sizes) (numbers := numbers) (moved := moved) e_3) (cwV 0 hts gX8_owesTo_X8_bestNight rfl rfl rfl hd_X8_bestNight ⟨Nat.le_of_ble_eq_true rfl, Nat.le_of_ble_eq_true rfl⟩) hK hP hD hS hA hE (q0 := 0) (ci := 8) rfl rfl rfl rfl hl.1 rfl (Nat.le_of_ble_eq_true rfl) dX8_owesTo_17 ⟨Nat.zero_le _, Nat.zero_le _⟩ (fun H locs hP hD hS => ?_)
    refine lv_istore_n (lv' := [(3, .int u_3.1), (0, .ref h0), (1, .int a1), (2, .int a2)]) hx hb dX8_owesTo_20 rfl hl (by decide) rfl (fun ls hl => ?_)
    refine lv_iload_n hx hb dX8_owesTo_21 rfl (lv_at hl 0 rfl) ?_
    refine lv_if_ge (tgt := 32) hx hb dX8_owesTo_22 (by decide) (fun c_4 => ?_) (fun c_4 => ?_)
    · have h := ifp c_4 h
      refine lv_aload_n hx hb dX8_owesTo_32 rfl (lv_at hl 1 rfl) ?_
      refine lv_iload_n hx hb dX8_owesTo_33 rfl (lv_at hl 0 rfl) ?_
      obtain ⟨u_5, e_5, h⟩ := bd_some h
      refine cm_Vv (As := [.int u_3.1]) (rest := []) ⟨hx, hb, hml, hown, hts⟩ (c_X8_findDoers (ca := ca) (ev := ev) (h0 := h0) (h1 := h1) (h2 := h2) (h3 := h3) (h4 := h4) (h5 := h5) (h6 := h6) (h7 := h7) (h8 := h8) (h9 := h9) (h10 := h10) (h11 := h11) (h12 := h12) (h13 := h13) (h14 := h14) (h15 := h15) (h16 := h16) (h17 := h17) (now := now) (kept := kept) (isKept := isKept) (found := found) (order := u_3.2.1) (doubts := u_3.2.2.1) (doubtMany := u_3.2.2.2.1) (weights := u_3.2.2.2.2.1) (worn := u_3.2.2.2.2.2.1) (pairs := u_3.2.2.2.2.2.2.1) (isTwice := u_3.2.2.2.2.2.2.2) (doer := doer) (doneTo := doneTo) (doers := doers) (tape := tape) (taped := taped) (begins := begins) (ends := ends) (sort := sort) (value := value) (isWrong := isWrong) (items := items) (itemMany := itemMany) (bowThen := bowThen) (doubtThen := doubtThen) (deedThen := deedThen) (sayingThen := sayingThen) (widths := widths) (sizes := sizes) (numbers := numbers) (moved := moved) e_5) (cwV 1 hts gX8_owesTo_X8_findDoers rfl rfl rfl hd_X8_findDoers ⟨Nat.le_of_ble_eq_true rfl, Nat.le_of_ble_eq_true rfl⟩) hK hP hD hS hA hE (q0 := 0) (ci := 8) rfl rfl rfl rfl hl.1 rfl (Nat.le_of_ble_eq_true rfl) dX8_owesTo_34 ⟨Nat.zero_le _, Nat.zero_le _⟩ (fun H locs hP hD hS => ?_)
      refine lv_iconst (v := (0 : Int32)) hx hb dX8_owesTo_37 (by decide) ?_
      refine lv_istore (lv' := [(4, .int (0 : Int32)), (3, .int u_3.1), (0, .ref h0), (1, .int a1), (2, .int a2)]) hx hb dX8_owesTo_38 hl (by decide) rfl (fun ls hl => ?_)
      refine lv_iconst (v := (0 : Int32)) hx hb dX8_owesTo_40 (by decide) ?_
      refine lv_istore (lv' := [(5, .int (0 : Int32)), (4, .int (0 : Int32)), (3, .int u_3.1), (0, .ref h0), (1, .int a1), (2, .int a2)]) hx hb dX8_owesTo_41 hl (by decide) rfl (fun ls hl => ?_)
      have L_43 : ∀ {x1_43 : Int32} {x2_43 : Int32} {now_43 : (Nat → Int32)} {doer_43 : (Nat → Int32)} {doneTo_43 : (Nat → Int32)} (n_43 : Nat) {x4_43 : Int32} {x5_43 : Int32} {uL_43 : Int32} {H : Heap} {locs : List Loc} {ls : Array Slot}, f_X8_owesTo_43 x1_43 x2_43 now_43 doer_43 doneTo_43  n_43 x4_43 x5_43 = some uL_43 → va_P G vwCl (wM ca ev h0 h1 h2 h3 h4 h5 h6 h7 h8 h9 h10 h11 h12 h13 h14 h15 h16 h17 now_43 kept isKept found u_3.2.1 u_3.2.2.1 u_3.2.2.2.1 u_3.2.2.2.2.1 u_5.1 u_5.2.1 u_5.2.2.1 doer_43 doneTo_43 doers tape taped begins ends sort value isWrong items itemMany bowThen doubtThen deedThen sayingThen widths sizes numbers moved) H → va_D A (wM ca ev h0 h1 h2 h3 h4 h5 h6 h7 h8 h9 h10 h11 h12 h13 h14 h15 h16 h17 now_43 kept isKept found u_3.2.1 u_3.2.2.1 u_3.2.2.2.1 u_3.2.2.2.2.1 u_5.1 u_5.2.1 u_5.2.2.1 doer_43 doneTo_43 doers tape taped begins ends sort value isWrong items itemMany bowThen doubtThen deedThen sayingThen widths sizes numbers moved) → va_S A s.heap H locs → lv_has ls 6 [(0, .ref h0), (1, .int x1_43), (2, .int x2_43), (4, .int x4_43), (5, .int x5_43)] → (∀ {H : Heap} {locs : List Loc} {ls : Array Slot}, va_P G vwCl (wM ca ev h0 h1 h2 h3 h4 h5 h6 h7 h8 h9 h10 h11 h12 h13 h14 h15 h16 h17 now_43 kept isKept found u_3.2.1 u_3.2.2.1 u_3.2.2.2.1 u_3.2.2.2.2.1 u_5.1 u_5.2.1 u_5.2.2.1 doer_43 doneTo_43 doers tape taped begins ends sort value isWrong items itemMany bowThen doubtThen deedThen sayingThen widths sizes numbers moved) H → va_D A (wM ca ev h0 h1 h2 h3 h4 h5 h6 h7 h8 h9 h10 h11 h12 h13 h14 h15 h16 h17 now_43 kept isKept found u_3.2.1 u_3.2.2.1 u_3.2.2.2.1 u_3.2.2.2.2.1 u_5.1 u_5.2.1 u_5.2.2.1 doer_43 doneTo_43 doers tape taped begins ends sort value isWrong items itemMany bowThen doubtThen deedThen sayingThen widths sizes numbers moved) → va_S A s.heap H locs → lv_has ls 6 [(4, .int uL_43)] → W p l e rm_X8_owesTo s m args below meth c H locs 0 0 Q (F0 m 129 ls [])) → W p l e rm_X8_owesTo s m args below meth c H locs 0 0 Q (F0 m 43 ls []) := by
        intro x1_43 x2_43 now_43 doer_43 doneTo_43 n_43
        induction n_43 with
        | zero => intro x4_43 x5_43 uL_43 H locs ls h; exact absurd h (by rw [f_X8_owesTo_43]; exact fun z => nomatch z)
        | succ n_43 ih =>
          intro x4_43 x5_43 uL_43 H locs ls h hP hD hS hl JK_43
          rw [f_X8_owesTo_43] at h
          refine lv_iload hx hb dX8_owesTo_43 (lv_at hl 4 rfl) ?_
          refine lv_aload_n hx hb dX8_owesTo_45 rfl (lv_at hl 0 rfl) ?_
          refine va_get (D := G) (ci := 8) (v := .ref h1) (C := RX8) (T := TX8) (N := 32) hx hb hts hin_X8 hown hK hP 0 rfl rfl 0 (by decide) fk_9 (fun _ h9 => h9) rfl dX8_owesTo_46 ?_
          refine lv_iconst (v := (4 : Int32)) hx hb dX8_owesTo_49 (by decide) ?_
          refine va_iald hx hb hK hP 1 0 rfl rfl (ix_in (by decide)) dX8_owesTo_50 ?_
          refine lv_icmp_ge (tgt := 129) hx hb dX8_owesTo_51 (by decide) (fun c_6 => ?_) (fun c_6 => ?_)
          · have h := ifp c_6 h
            obtain rfl := Option.some.inj h
            exact JK_43 hP hD hS (lv_sub hl [3] rfl)
          · have h := ifn c_6 h
            refine lv_iload hx hb dX8_owesTo_54 (lv_at hl 3 rfl) ?_
            refine lv_aload_n hx hb dX8_owesTo_56 rfl (lv_at hl 0 rfl) ?_
            refine va_get (D := G) (ci := 8) (v := .ref h8) (C := RX8) (T := TX8) (N := 32) hx hb hts hin_X8 hown hK hP 0 rfl rfl 11 (by decide) fk_32 (fun _ h9 => h9) rfl dX8_owesTo_57 ?_
            refine lv_iload hx hb dX8_owesTo_60 (lv_at hl 4 rfl) ?_
            obtain ⟨i_7, h⟩ := gd_some h
            refine va_iald hx hb hK hP 8 0 rfl rfl (ix_in i_7) dX8_owesTo_62 ?_
            refine lv_iload_n hx hb dX8_owesTo_63 rfl (lv_at hl 1 rfl) ?_
            obtain ⟨u_8, e_8, h⟩ := bd_some h
            have J_8 : ∀ {H : Heap} {locs : List Loc} {ls : Array Slot}, va_P G vwCl (wM ca ev h0 h1 h2 h3 h4 h5 h6 h7 h8 h9 h10 h11 h12 h13 h14 h15 h16 h17 now_43 kept isKept found u_3.2.1 u_3.2.2.1 u_3.2.2.2.1 u_3.2.2.2.2.1 u_5.1 u_5.2.1 u_5.2.2.1 doer_43 doneTo_43 doers tape taped begins ends sort value isWrong items itemMany bowThen doubtThen deedThen sayingThen widths sizes numbers moved) H → va_D A (wM ca ev h0 h1 h2 h3 h4 h5 h6 h7 h8 h9 h10 h11 h12 h13 h14 h15 h16 h17 now_43 kept isKept found u_3.2.1 u_3.2.2.1 u_3.2.2.2.1 u_3.2.2.2.2.1 u_5.1 u_5.2.1 u_5.2.2.1 doer_43 doneTo_43 doers tape taped begins ends sort value isWrong items itemMany bowThen doubtThen deedThen sayingThen widths sizes numbers moved) → va_S A s.heap H locs → lv_has ls 6 [(0, .ref h0), (1, .int x1_43), (2, .int x2_43), (5, .int x5_43)] → W p l e rm_X8_owesTo s m args below meth c H locs 0 0 Q (F0 m 120 ls [.int u_8, .int x4_43]) := by
              intro H locs ls hP hD hS hl 
              refine lv_iadd hx hb dX8_owesTo_120 ?_
              refine lv_istore (lv' := [(4, .int (x4_43 + u_8)), (0, .ref h0), (1, .int x1_43), (2, .int x2_43), (5, .int x5_43)]) hx hb dX8_owesTo_121 hl (by decide) rfl (fun ls hl => ?_)
              refine lv_iinc (v := (x5_43 + (1 : Int32))) (lv' := [(5, .int (x5_43 + (1 : Int32))), (4, .int (x4_43 + u_8)), (0, .ref h0), (1, .int x1_43), (2, .int x2_43)]) hx hb dX8_owesTo_123 hl (k := 4) rfl rfl (by decide) rfl (fun ls hl => ?_)
              refine lv_goto (tgt := 43) hx hb dX8_owesTo_126 (by decide) ?_
              exact ih h hP hD hS (lv_sub hl [2, 3, 4, 1, 0] rfl) JK_43
            have h := e_8
            clear e_8
            refine lv_icmp_ne (tgt := 87) hx hb dX8_owesTo_64 (by decide) (fun c_8 => ?_) (fun c_8 => ?_)
            · have h := ifn c_8 h
              refine lv_aload_n hx hb dX8_owesTo_87 rfl (lv_at hl 0 rfl) ?_
              refine va_get (D := G) (ci := 8) (v := .ref h8) (C := RX8) (T := TX8) (N := 32) hx hb hts hin_X8 hown hK hP 0 rfl rfl 11 (by decide) fk_32 (fun _ h9 => h9) rfl dX8_owesTo_88 ?_
              refine lv_iload hx hb dX8_owesTo_91 (lv_at hl 4 rfl) ?_
              refine va_iald hx hb hK hP 8 0 rfl rfl (ix_in i_7) dX8_owesTo_93 ?_
              refine lv_iload_n hx hb dX8_owesTo_94 rfl (lv_at hl 2 rfl) ?_
              refine lv_icmp_ne (tgt := 119) hx hb dX8_owesTo_95 (by decide) (fun c_9 => ?_) (fun c_9 => ?_)
              · have h := ifn c_9 h
                refine lv_iconst (v := (0 : Int32)) hx hb dX8_owesTo_119 (by decide) ?_
                obtain rfl := Option.some.inj h
                exact J_8 hP hD hS (lv_sub hl [0, 1, 2, 4] rfl)
              · have h := ifp c_9 h
                refine lv_aload_n hx hb dX8_owesTo_98 rfl (lv_at hl 0 rfl) ?_
                refine va_get (D := G) (ci := 8) (v := .ref h9) (C := RX8) (T := TX8) (N := 32) hx hb hts hin_X8 hown hK hP 0 rfl rfl 12 (by decide) fk_35 (fun _ h9 => h9) rfl dX8_owesTo_99 ?_
                refine lv_iload hx hb dX8_owesTo_102 (lv_at hl 4 rfl) ?_
                refine va_iald hx hb hK hP 9 0 rfl rfl (ix_in i_7) dX8_owesTo_104 ?_
                refine lv_iload_n hx hb dX8_owesTo_105 rfl (lv_at hl 1 rfl) ?_
                refine lv_icmp_ne (tgt := 119) hx hb dX8_owesTo_106 (by decide) (fun c_10 => ?_) (fun c_10 => ?_)
                · have h := ifn c_10 h
                  refine lv_iconst (v := (0 : Int32)) hx hb dX8_owesTo_119 (by decide) ?_
                  obtain rfl := Option.some.inj h
                  exact J_8 hP hD hS (lv_sub hl [0, 1, 2, 4] rfl)
                · have h := ifp c_10 h
                  refine lv_aload_n hx hb dX8_owesTo_109 rfl (lv_at hl 0 rfl) ?_
                  refine lv_iload hx hb dX8_owesTo_110 (lv_at hl 4 rfl) ?_
                  obtain ⟨u_11, e_11, h⟩ := bd_some h
                  refine cm_Vi (As := [.int x5_43]) (rest := [.int x4_43]) ⟨hx, hb, hml, hown, hts⟩ (c_X8_pays (ca := ca) (ev := ev) (h0 := h0) (h1 := h1) (h2 := h2) (h3 := h3) (h4 := h4) (h5 := h5) (h6 := h6) (h7 := h7) (h8 := h8) (h9 := h9) (h10 := h10) (h11 := h11) (h12 := h12) (h13 := h13) (h14 := h14) (h15 := h15) (h16 := h16) (h17 := h17) (now := now_43) (kept := kept) (isKept := isKept) (found := found) (order := u_3.2.1) (doubts := u_3.2.2.1) (doubtMany := u_3.2.2.2.1) (weights := u_3.2.2.2.2.1) (worn := u_5.1) (pairs := u_5.2.1) (isTwice := u_5.2.2.1) (doer := doer_43) (doneTo := doneTo_43) (doers := doers) (tape := tape) (taped := taped) (begins := begins) (ends := ends) (sort := sort) (value := value) (isWrong := isWrong) (items := items) (itemMany := itemMany) (bowThen := bowThen) (doubtThen := doubtThen) (deedThen := deedThen) (sayingThen := sayingThen) (widths := widths) (sizes := sizes) (numbers := numbers) (moved := moved) e_11) (cwV 1 hts gX8_owesTo_X8_pays rfl rfl rfl hd_X8_pays ⟨Nat.le_of_ble_eq_true rfl, Nat.le_of_ble_eq_true rfl⟩) hK hP hD hS hA hE (q0 := 0) (ci := 8) rfl rfl rfl rfl hl.1 rfl (Nat.le_of_ble_eq_true rfl) dX8_owesTo_112 ⟨Nat.zero_le _, Nat.zero_le _⟩ (fun H locs hP hD hS => ?_)
                  refine lv_ineg hx hb dX8_owesTo_115 ?_
                  refine lv_goto (tgt := 120) hx hb dX8_owesTo_116 (by decide) ?_
                  obtain rfl := Option.some.inj h
                  exact J_8 hP hD hS (lv_sub hl [0, 1, 2, 4] rfl)
            · have h := ifp c_8 h
              refine lv_aload_n hx hb dX8_owesTo_67 rfl (lv_at hl 0 rfl) ?_
              refine va_get (D := G) (ci := 8) (v := .ref h9) (C := RX8) (T := TX8) (N := 32) hx hb hts hin_X8 hown hK hP 0 rfl rfl 12 (by decide) fk_35 (fun _ h9 => h9) rfl dX8_owesTo_68 ?_
              refine lv_iload hx hb dX8_owesTo_71 (lv_at hl 4 rfl) ?_
              refine va_iald hx hb hK hP 9 0 rfl rfl (ix_in i_7) dX8_owesTo_73 ?_
              refine lv_iload_n hx hb dX8_owesTo_74 rfl (lv_at hl 2 rfl) ?_
              refine lv_icmp_ne (tgt := 87) hx hb dX8_owesTo_75 (by decide) (fun c_12 => ?_) (fun c_12 => ?_)
              · have h := ifn c_12 h
                refine lv_aload_n hx hb dX8_owesTo_87 rfl (lv_at hl 0 rfl) ?_
                refine va_get (D := G) (ci := 8) (v := .ref h8) (C := RX8) (T := TX8) (N := 32) hx hb hts hin_X8 hown hK hP 0 rfl rfl 11 (by decide) fk_32 (fun _ h9 => h9) rfl dX8_owesTo_88 ?_
                refine lv_iload hx hb dX8_owesTo_91 (lv_at hl 4 rfl) ?_
                refine va_iald hx hb hK hP 8 0 rfl rfl (ix_in i_7) dX8_owesTo_93 ?_
                refine lv_iload_n hx hb dX8_owesTo_94 rfl (lv_at hl 2 rfl) ?_
                refine lv_icmp_ne (tgt := 119) hx hb dX8_owesTo_95 (by decide) (fun c_13 => ?_) (fun c_13 => ?_)
                · have h := ifn c_13 h
                  refine lv_iconst (v := (0 : Int32)) hx hb dX8_owesTo_119 (by decide) ?_
                  obtain rfl := Option.some.inj h
                  exact J_8 hP hD hS (lv_sub hl [0, 1, 2, 4] rfl)
                · have h := ifp c_13 h
                  refine lv_aload_n hx hb dX8_owesTo_98 rfl (lv_at hl 0 rfl) ?_
                  refine va_get (D := G) (ci := 8) (v := .ref h9) (C := RX8) (T := TX8) (N := 32) hx hb hts hin_X8 hown hK hP 0 rfl rfl 12 (by decide) fk_35 (fun _ h9 => h9) rfl dX8_owesTo_99 ?_
                  refine lv_iload hx hb dX8_owesTo_102 (lv_at hl 4 rfl) ?_
                  refine va_iald hx hb hK hP 9 0 rfl rfl (ix_in i_7) dX8_owesTo_104 ?_
                  refine lv_iload_n hx hb dX8_owesTo_105 rfl (lv_at hl 1 rfl) ?_
                  refine lv_icmp_ne (tgt := 119) hx hb dX8_owesTo_106 (by decide) (fun c_14 => ?_) (fun c_14 => ?_)
                  · have h := ifn c_14 h
                    refine lv_iconst (v := (0 : Int32)) hx hb dX8_owesTo_119 (by decide) ?_
                    obtain rfl := Option.some.inj h
                    exact J_8 hP hD hS (lv_sub hl [0, 1, 2, 4] rfl)
                  · have h := ifp c_14 h
                    refine lv_aload_n hx hb dX8_owesTo_109 rfl (lv_at hl 0 rfl) ?_
                    refine lv_iload hx hb dX8_owesTo_110 (lv_at hl 4 rfl) ?_
                    obtain ⟨u_15, e_15, h⟩ := bd_some h
                    refine cm_Vi (As := [.int x5_43]) (rest := [.int x4_43]) ⟨hx, hb, hml, hown, hts⟩ (c_X8_pays (ca := ca) (ev := ev) (h0 := h0) (h1 := h1) (h2 := h2) (h3 := h3) (h4 := h4) (h5 := h5) (h6 := h6) (h7 := h7) (h8 := h8) (h9 := h9) (h10 := h10) (h11 := h11) (h12 := h12) (h13 := h13) (h14 := h14) (h15 := h15) (h16 := h16) (h17 := h17) (now := now_43) (kept := kept) (isKept := isKept) (found := found) (order := u_3.2.1) (doubts := u_3.2.2.1) (doubtMany := u_3.2.2.2.1) (weights := u_3.2.2.2.2.1) (worn := u_5.1) (pairs := u_5.2.1) (isTwice := u_5.2.2.1) (doer := doer_43) (doneTo := doneTo_43) (doers := doers) (tape := tape) (taped := taped) (begins := begins) (ends := ends) (sort := sort) (value := value) (isWrong := isWrong) (items := items) (itemMany := itemMany) (bowThen := bowThen) (doubtThen := doubtThen) (deedThen := deedThen) (sayingThen := sayingThen) (widths := widths) (sizes := sizes) (numbers := numbers) (moved := moved) e_15) (cwV 1 hts gX8_owesTo_X8_pays rfl rfl rfl hd_X8_pays ⟨Nat.le_of_ble_eq_true rfl, Nat.le_of_ble_eq_true rfl⟩) hK hP hD hS hA hE (q0 := 0) (ci := 8) rfl rfl rfl rfl hl.1 rfl (Nat.le_of_ble_eq_true rfl) dX8_owesTo_112 ⟨Nat.zero_le _, Nat.zero_le _⟩ (fun H locs hP hD hS => ?_)
                    refine lv_ineg hx hb dX8_owesTo_115 ?_
                    refine lv_goto (tgt := 120) hx hb dX8_owesTo_116 (by decide) ?_
                    obtain rfl := Option.some.inj h
                    exact J_8 hP hD hS (lv_sub hl [0, 1, 2, 4] rfl)
              · have h := ifp c_12 h
                refine lv_aload_n hx hb dX8_owesTo_78 rfl (lv_at hl 0 rfl) ?_
                refine lv_iload hx hb dX8_owesTo_79 (lv_at hl 4 rfl) ?_
                obtain ⟨u_16, e_16, h⟩ := bd_some h
                refine cm_Vi (As := [.int x5_43]) (rest := [.int x4_43]) ⟨hx, hb, hml, hown, hts⟩ (c_X8_pays (ca := ca) (ev := ev) (h0 := h0) (h1 := h1) (h2 := h2) (h3 := h3) (h4 := h4) (h5 := h5) (h6 := h6) (h7 := h7) (h8 := h8) (h9 := h9) (h10 := h10) (h11 := h11) (h12 := h12) (h13 := h13) (h14 := h14) (h15 := h15) (h16 := h16) (h17 := h17) (now := now_43) (kept := kept) (isKept := isKept) (found := found) (order := u_3.2.1) (doubts := u_3.2.2.1) (doubtMany := u_3.2.2.2.1) (weights := u_3.2.2.2.2.1) (worn := u_5.1) (pairs := u_5.2.1) (isTwice := u_5.2.2.1) (doer := doer_43) (doneTo := doneTo_43) (doers := doers) (tape := tape) (taped := taped) (begins := begins) (ends := ends) (sort := sort) (value := value) (isWrong := isWrong) (items := items) (itemMany := itemMany) (bowThen := bowThen) (doubtThen := doubtThen) (deedThen := deedThen) (sayingThen := sayingThen) (widths := widths) (sizes := sizes) (numbers := numbers) (moved := moved) e_16) (cwV 1 hts gX8_owesTo_X8_pays rfl rfl rfl hd_X8_pays ⟨Nat.le_of_ble_eq_true rfl, Nat.le_of_ble_eq_true rfl⟩) hK hP hD hS hA hE (q0 := 0) (ci := 8) rfl rfl rfl rfl hl.1 rfl (Nat.le_of_ble_eq_true rfl) dX8_owesTo_81 ⟨Nat.zero_le _, Nat.zero_le _⟩ (fun H locs hP hD hS => ?_)
                refine lv_goto (tgt := 120) hx hb dX8_owesTo_84 (by decide) ?_
                obtain rfl := Option.some.inj h
                exact J_8 hP hD hS (lv_sub hl [0, 1, 2, 4] rfl)
      obtain ⟨u_17, e_17, h⟩ := bd_some h
      refine L_43 _ e_17 hP hD hS (lv_sub hl [3, 4, 5, 1, 0] rfl) ?_
      intro H locs ls hP hD hS hl
      refine lv_iload hx hb dX8_owesTo_129 (lv_at hl 0 rfl) ?_
      obtain rfl := Option.some.inj h
      exact hRet hP hD hS dX8_owesTo_131
    · have h := ifn c_4 h
      refine lv_aload_n hx hb dX8_owesTo_25 rfl (lv_at hl 1 rfl) ?_
      refine lv_ldc (v := (-1000000004 : Int32)) hx hb hown (hts (.constant RX8 179 (-1000000004)) (by decide +kernel)) dX8_owesTo_26 ?_
      obtain ⟨u_18, e_18, h⟩ := bd_some h
      refine cm_Vi (As := [.int (-1000000004 : Int32)]) (rest := []) ⟨hx, hb, hml, hown, hts⟩ (c_X8_finding (ca := ca) (ev := ev) (h0 := h0) (h1 := h1) (h2 := h2) (h3 := h3) (h4 := h4) (h5 := h5) (h6 := h6) (h7 := h7) (h8 := h8) (h9 := h9) (h10 := h10) (h11 := h11) (h12 := h12) (h13 := h13) (h14 := h14) (h15 := h15) (h16 := h16) (h17 := h17) (now := now) (kept := kept) (isKept := isKept) (found := found) (order := u_3.2.1) (doubts := u_3.2.2.1) (doubtMany := u_3.2.2.2.1) (weights := u_3.2.2.2.2.1) (worn := u_3.2.2.2.2.2.1) (pairs := u_3.2.2.2.2.2.2.1) (isTwice := u_3.2.2.2.2.2.2.2) (doer := doer) (doneTo := doneTo) (doers := doers) (tape := tape) (taped := taped) (begins := begins) (ends := ends) (sort := sort) (value := value) (isWrong := isWrong) (items := items) (itemMany := itemMany) (bowThen := bowThen) (doubtThen := doubtThen) (deedThen := deedThen) (sayingThen := sayingThen) (widths := widths) (sizes := sizes) (numbers := numbers) (moved := moved) e_18) (cwV 1 hts gX8_owesTo_X8_finding rfl rfl rfl hd_X8_finding ⟨Nat.le_of_ble_eq_true rfl, Nat.le_of_ble_eq_true rfl⟩) hK hP hD hS hA hE (q0 := 0) (ci := 8) rfl rfl rfl rfl hl.1 rfl (Nat.le_of_ble_eq_true rfl) dX8_owesTo_28 ⟨Nat.zero_le _, Nat.zero_le _⟩ (fun H locs hP hD hS => ?_)
      obtain rfl := Option.some.inj h
      exact hRet hP hD hS dX8_owesTo_31
  · have h := ifp c_2 h
    refine lv_aload_n hx hb dX8_owesTo_9 rfl (lv_at hl 0 rfl) ?_
    refine lv_ldc (v := (-1000000001 : Int32)) hx hb hown (hts (.constant RX8 77 (-1000000001)) (by decide +kernel)) dX8_owesTo_10 ?_
    obtain ⟨u_19, e_19, h⟩ := bd_some h
    refine cm_Vi (As := [.int (-1000000001 : Int32)]) (rest := []) ⟨hx, hb, hml, hown, hts⟩ (c_X8_finding (ca := ca) (ev := ev) (h0 := h0) (h1 := h1) (h2 := h2) (h3 := h3) (h4 := h4) (h5 := h5) (h6 := h6) (h7 := h7) (h8 := h8) (h9 := h9) (h10 := h10) (h11 := h11) (h12 := h12) (h13 := h13) (h14 := h14) (h15 := h15) (h16 := h16) (h17 := h17) (now := now) (kept := kept) (isKept := isKept) (found := found) (order := order) (doubts := doubts) (doubtMany := doubtMany) (weights := weights) (worn := worn) (pairs := pairs) (isTwice := isTwice) (doer := doer) (doneTo := doneTo) (doers := doers) (tape := tape) (taped := taped) (begins := begins) (ends := ends) (sort := sort) (value := value) (isWrong := isWrong) (items := items) (itemMany := itemMany) (bowThen := bowThen) (doubtThen := doubtThen) (deedThen := deedThen) (sayingThen := sayingThen) (widths := widths) (sizes := sizes) (numbers := numbers) (moved := moved) e_19) (cwV 1 hts gX8_owesTo_X8_finding rfl rfl rfl hd_X8_finding ⟨Nat.le_of_ble_eq_true rfl, Nat.le_of_ble_eq_true rfl⟩) hK hP hD hS hA hE (q0 := 0) (ci := 8) rfl rfl rfl rfl hl.1 rfl (Nat.le_of_ble_eq_true rfl) dX8_owesTo_12 ⟨Nat.zero_le _, Nat.zero_le _⟩ (fun H locs hP hD hS => ?_)
    obtain rfl := Option.some.inj h
    exact hRet hP hD hS dX8_owesTo_15
abbrev rm_X8_bound : Room := { frames := 5, cells := 0, slots := 0, locals := 120 }
theorem hd_X8_bound : yX8_bound.cls = RX8 ∧ yX8_bound.cls ≠ "java/lang/invoke/MethodHandle" ∧ yX8_bound.cls ≠ "java/lang/invoke/VarHandle" ∧ (parseMethodDescriptor yX8_bound.desc).map (fun d => d.parameters.length) = some 2 := by decide +kernel
set_option maxHeartbeats 4000000 in
set_option maxRecDepth 100000 in
theorem c_X8_bound {l : Launch} {G : va_G} {ca : Nat → ClassId} {ev : Nat → Nat} {h0 h1 h2 h3 h4 h5 h6 h7 h8 h9 h10 h11 h12 h13 h14 h15 h16 h17 : Nat} {now : (Nat → Int32)} {kept : (Nat → Int32)} {isKept : Int32} {found : (Nat → Int32)} {order : (Nat → Int32)} {doubts : (Nat → Int32)} {doubtMany : Int32} {weights : (Nat → Int64)} {worn : (Nat → Int32)} {pairs : Int64} {isTwice : Int32} {doer : (Nat → Int32)} {doneTo : (Nat → Int32)} {doers : (Nat → Int64)} {tape : (Nat → Int32)} {taped : Int32} {begins : Int32} {ends : Int32} {sort : Int32} {value : Int32} {isWrong : Int32} {items : (Nat → Int32)} {itemMany : Int32} {bowThen : Int32} {doubtThen : Int32} {deedThen : Int32} {sayingThen : Int32} {widths : (Nat → Int32)} {sizes : (Nat → Int32)} {numbers : (Nat → Int64)} {moved : (Nat → Int64)} {a1 : Int32} {a2 : Int32} {N : Nat} {res : Int64 × (Nat → Int32) × (Nat → Int32) × (Nat → Int32) × Int32 × (Nat → Int64) × (Nat → Int32) × Int64 × Int32 × (Nat → Int32) × (Nat → Int32)} (h : f_X8_bound N now found order doubts doubtMany weights worn pairs isTwice doer doneTo a1 a2 = some res) : CtL l yX8_bound wsX8_bound rm_X8_bound G ca ev [.ref h0, .int a1, .int a2] (wM ca ev h0 h1 h2 h3 h4 h5 h6 h7 h8 h9 h10 h11 h12 h13 h14 h15 h16 h17 now kept isKept found order doubts doubtMany weights worn pairs isTwice doer doneTo doers tape taped begins ends sort value isWrong items itemMany bowThen doubtThen deedThen sayingThen widths sizes numbers moved) (wM ca ev h0 h1 h2 h3 h4 h5 h6 h7 h8 h9 h10 h11 h12 h13 h14 h15 h16 h17 now kept isKept res.2.1 res.2.2.1 res.2.2.2.1 res.2.2.2.2.1 res.2.2.2.2.2.1 res.2.2.2.2.2.2.1 res.2.2.2.2.2.2.2.1 res.2.2.2.2.2.2.2.2.1 res.2.2.2.2.2.2.2.2.2.1 res.2.2.2.2.2.2.2.2.2.2 doers tape taped begins ends sort value isWrong items itemMany bowThen doubtThen deedThen sayingThen widths sizes numbers moved) res.1 := by
  unfold f_X8_bound at h
  refine en_l (by decide) rfl (Nat.le_of_ble_eq_true rfl) ?_
  intro p e s m args below meth c A Q H locs ls hx hb hml hown hts hA hP hK hD hE hS hl hRet
  have hown : s.vm.findClass RX8 = some m.cls := hown
  have hl : lv_has ls 9 [(0, .ref h0), (1, .int a1), (2, .int a2)] := hl
  have hin_X8 : ∀ w ∈ u_ws RX8 TX8 32, w ∈ wsX8_bound := fun w h9 => List.mem_cons_of_mem _ (List.mem_append_right _ h9)
  have fk_25 := hts (.fieldLink RX8 25 "MaskBowsModel" "weights" "[J") (by decide +kernel)
  have fk_32 := hts (.fieldLink RX8 32 "MaskBowsModel" "doer" "[I") (by decide +kernel)
  have fk_35 := hts (.fieldLink RX8 35 "MaskBowsModel" "doneTo" "[I") (by decide +kernel)
  have fk_9 := hts (.fieldLink RX8 9 "MaskBowsModel" "now" "[I") (by decide +kernel)
  refine lv_aload_n hx hb dX8_bound_0 rfl (lv_at hl 0 rfl) ?_
  refine lv_iload_n hx hb dX8_bound_1 rfl (lv_at hl 1 rfl) ?_
  refine lv_iload_n hx hb dX8_bound_2 rfl (lv_at hl 2 rfl) ?_
  obtain ⟨u_1, e_1, h⟩ := bd_some h
  refine cm_Vi (As := [.int a1, .int a2]) (rest := []) ⟨hx, hb, hml, hown, hts⟩ (c_X8_areTwo (ca := ca) (ev := ev) (h0 := h0) (h1 := h1) (h2 := h2) (h3 := h3) (h4 := h4) (h5 := h5) (h6 := h6) (h7 := h7) (h8 := h8) (h9 := h9) (h10 := h10) (h11 := h11) (h12 := h12) (h13 := h13) (h14 := h14) (h15 := h15) (h16 := h16) (h17 := h17) (now := now) (kept := kept) (isKept := isKept) (found := found) (order := order) (doubts := doubts) (doubtMany := doubtMany) (weights := weights) (worn := worn) (pairs := pairs) (isTwice := isTwice) (doer := doer) (doneTo := doneTo) (doers := doers) (tape := tape) (taped := taped) (begins := begins) (ends := ends) (sort := sort) (value := value) (isWrong := isWrong) (items := items) (itemMany := itemMany) (bowThen := bowThen) (doubtThen := doubtThen) (deedThen := deedThen) (sayingThen := sayingThen) (widths := widths) (sizes := sizes) (numbers := numbers) (moved := moved) e_1) (cwV 2 hts gX8_bound_X8_areTwo rfl rfl rfl hd_X8_areTwo ⟨Nat.le_of_ble_eq_true rfl, Nat.le_of_ble_eq_true rfl⟩) hK hP hD hS hA hE (q0 := 0) (ci := 8) rfl rfl rfl rfl hl.1 rfl (Nat.le_of_ble_eq_true rfl) dX8_bound_3 ⟨Nat.zero_le _, Nat.zero_le _⟩ (fun H locs hP hD hS => ?_)
  refine lv_if_ne (tgt := 17) hx hb dX8_bound_6 (by decide) (fun c_2 => ?_) (fun c_2 => ?_)
  · have h := ifn c_2 h
    refine lv_aload_n hx hb dX8_bound_17 rfl (lv_at hl 0 rfl) ?_
    obtain ⟨u_3, e_3, h⟩ := bd_some h
    refine cm_Vl (As := []) (rest := []) ⟨hx, hb, hml, hown, hts⟩ (c_X8_weigh (ca := ca) (ev := ev) (h0 := h0) (h1 := h1) (h2 := h2) (h3 := h3) (h4 := h4) (h5 := h5) (h6 := h6) (h7 := h7) (h8 := h8) (h9 := h9) (h10 := h10) (h11 := h11) (h12 := h12) (h13 := h13) (h14 := h14) (h15 := h15) (h16 := h16) (h17 := h17) (now := now) (kept := kept) (isKept := isKept) (found := found) (order := order) (doubts := doubts) (doubtMany := doubtMany) (weights := weights) (worn := worn) (pairs := pairs) (isTwice := isTwice) (doer := doer) (doneTo := doneTo) (doers := doers) (tape := tape) (taped := taped) (begins := begins) (ends := ends) (sort := sort) (value := value) (isWrong := isWrong) (items := items) (itemMany := itemMany) (bowThen := bowThen) (doubtThen := doubtThen) (deedThen := deedThen) (sayingThen := sayingThen) (widths := widths) (sizes := sizes) (numbers := numbers) (moved := moved) e_3) (cwV 0 hts gX8_bound_X8_weigh rfl rfl rfl hd_X8_weigh ⟨Nat.le_of_ble_eq_true rfl, Nat.le_of_ble_eq_true rfl⟩) hK hP hD hS hA hE (q0 := 0) (ci := 8) rfl rfl rfl rfl hl.1 rfl (Nat.le_of_ble_eq_true rfl) dX8_bound_18 ⟨Nat.zero_le _, Nat.zero_le _⟩ (fun H locs hP hD hS => ?_)
    refine lv_pop2_2 hx hb dX8_bound_21 rfl ?_
    refine lv_lconst (v := (0 : Int64)) hx hb dX8_bound_22 (by decide) ?_
    refine lv_lstore_n (lv' := [(3, .long (0 : Int64)), (0, .ref h0), (1, .int a1), (2, .int a2)]) hx hb dX8_bound_23 rfl hl (by decide) rfl (fun ls hl => ?_)
    refine lv_iconst (v := (0 : Int32)) hx hb dX8_bound_24 (by decide) ?_
    refine lv_istore (lv' := [(5, .int (0 : Int32)), (3, .long (0 : Int64)), (0, .ref h0), (1, .int a1), (2, .int a2)]) hx hb dX8_bound_25 hl (by decide) rfl (fun ls hl => ?_)
    have L_27 : ∀ {x1_27 : Int32} {x2_27 : Int32} {now_27 : (Nat → Int32)} {order_27 : (Nat → Int32)} {doubts_27 : (Nat → Int32)} {doubtMany_27 : Int32} {weights_27 : (Nat → Int64)} (n_27 : Nat) {x3_27 : Int64} {x5_27 : Int32} {worn_27 : (Nat → Int32)} {pairs_27 : Int64} {isTwice_27 : Int32} {doer_27 : (Nat → Int32)} {doneTo_27 : (Nat → Int32)} {uL_27 : Int64 × (Nat → Int32) × Int64 × Int32 × (Nat → Int32) × (Nat → Int32)} {H : Heap} {locs : List Loc} {ls : Array Slot}, f_X8_bound_27 N x1_27 x2_27 now_27 order_27 doubts_27 doubtMany_27 weights_27  n_27 x3_27 x5_27 worn_27 pairs_27 isTwice_27 doer_27 doneTo_27 = some uL_27 → va_P G vwCl (wM ca ev h0 h1 h2 h3 h4 h5 h6 h7 h8 h9 h10 h11 h12 h13 h14 h15 h16 h17 now_27 kept isKept found order_27 doubts_27 doubtMany_27 weights_27 worn_27 pairs_27 isTwice_27 doer_27 doneTo_27 doers tape taped begins ends sort value isWrong items itemMany bowThen doubtThen deedThen sayingThen widths sizes numbers moved) H → va_D A (wM ca ev h0 h1 h2 h3 h4 h5 h6 h7 h8 h9 h10 h11 h12 h13 h14 h15 h16 h17 now_27 kept isKept found order_27 doubts_27 doubtMany_27 weights_27 worn_27 pairs_27 isTwice_27 doer_27 doneTo_27 doers tape taped begins ends sort value isWrong items itemMany bowThen doubtThen deedThen sayingThen widths sizes numbers moved) → va_S A s.heap H locs → lv_has ls 9 [(0, .ref h0), (1, .int x1_27), (2, .int x2_27), (3, .long x3_27), (5, .int x5_27)] → (∀ {H : Heap} {locs : List Loc} {ls : Array Slot}, va_P G vwCl (wM ca ev h0 h1 h2 h3 h4 h5 h6 h7 h8 h9 h10 h11 h12 h13 h14 h15 h16 h17 now_27 kept isKept found order_27 doubts_27 doubtMany_27 weights_27 uL_27.2.1 uL_27.2.2.1 uL_27.2.2.2.1 uL_27.2.2.2.2.1 uL_27.2.2.2.2.2 doers tape taped begins ends sort value isWrong items itemMany bowThen doubtThen deedThen sayingThen widths sizes numbers moved) H → va_D A (wM ca ev h0 h1 h2 h3 h4 h5 h6 h7 h8 h9 h10 h11 h12 h13 h14 h15 h16 h17 now_27 kept isKept found order_27 doubts_27 doubtMany_27 weights_27 uL_27.2.1 uL_27.2.2.1 uL_27.2.2.2.1 uL_27.2.2.2.2.1 uL_27.2.2.2.2.2 doers tape taped begins ends sort value isWrong items itemMany bowThen doubtThen deedThen sayingThen widths sizes numbers moved) → va_S A s.heap H locs → lv_has ls 9 [(3, .long uL_27.1)] → W p l e rm_X8_bound s m args below meth c H locs 0 0 Q (F0 m 169 ls [])) → W p l e rm_X8_bound s m args below meth c H locs 0 0 Q (F0 m 27 ls []) := by
      intro x1_27 x2_27 now_27 order_27 doubts_27 doubtMany_27 weights_27 n_27
      induction n_27 with
      | zero => intro x3_27 x5_27 worn_27 pairs_27 isTwice_27 doer_27 doneTo_27 uL_27 H locs ls h; exact absurd h (by rw [f_X8_bound_27]; exact fun z => nomatch z)
      | succ n_27 ih =>
        intro x3_27 x5_27 worn_27 pairs_27 isTwice_27 doer_27 doneTo_27 uL_27 H locs ls h hP hD hS hl JK_27
        rw [f_X8_bound_27] at h
        refine lv_iload hx hb dX8_bound_27 (lv_at hl 4 rfl) ?_
        refine lv_aload_n hx hb dX8_bound_29 rfl (lv_at hl 0 rfl) ?_
        obtain ⟨u_4, e_4, h⟩ := bd_some h
        refine cm_Vi (As := []) (rest := [.int x5_27]) ⟨hx, hb, hml, hown, hts⟩ (c_X8_nightsThere (ca := ca) (ev := ev) (h0 := h0) (h1 := h1) (h2 := h2) (h3 := h3) (h4 := h4) (h5 := h5) (h6 := h6) (h7 := h7) (h8 := h8) (h9 := h9) (h10 := h10) (h11 := h11) (h12 := h12) (h13 := h13) (h14 := h14) (h15 := h15) (h16 := h16) (h17 := h17) (now := now_27) (kept := kept) (isKept := isKept) (found := found) (order := order_27) (doubts := doubts_27) (doubtMany := doubtMany_27) (weights := weights_27) (worn := worn_27) (pairs := pairs_27) (isTwice := isTwice_27) (doer := doer_27) (doneTo := doneTo_27) (doers := doers) (tape := tape) (taped := taped) (begins := begins) (ends := ends) (sort := sort) (value := value) (isWrong := isWrong) (items := items) (itemMany := itemMany) (bowThen := bowThen) (doubtThen := doubtThen) (deedThen := deedThen) (sayingThen := sayingThen) (widths := widths) (sizes := sizes) (numbers := numbers) (moved := moved) e_4) (cwV 0 hts gX8_bound_X8_nightsThere rfl rfl rfl hd_X8_nightsThere ⟨Nat.le_of_ble_eq_true rfl, Nat.le_of_ble_eq_true rfl⟩) hK hP hD hS hA hE (q0 := 0) (ci := 8) rfl rfl rfl rfl hl.1 rfl (Nat.le_of_ble_eq_true rfl) dX8_bound_30 ⟨Nat.zero_le _, Nat.zero_le _⟩ (fun H locs hP hD hS => ?_)
        refine lv_icmp_ge (tgt := 169) hx hb dX8_bound_33 (by decide) (fun c_5 => ?_) (fun c_5 => ?_)
        · have h := ifp c_5 h
          obtain rfl := Option.some.inj h
          exact JK_27 hP hD hS (lv_sub hl [3] rfl)
        · have h := ifn c_5 h
          refine lv_aload_n hx hb dX8_bound_36 rfl (lv_at hl 0 rfl) ?_
          refine lv_iload hx hb dX8_bound_37 (lv_at hl 4 rfl) ?_
          obtain ⟨u_6, e_6, h⟩ := bd_some h
          refine cm_Vv (As := [.int x5_27]) (rest := []) ⟨hx, hb, hml, hown, hts⟩ (c_X8_findDoers (ca := ca) (ev := ev) (h0 := h0) (h1 := h1) (h2 := h2) (h3 := h3) (h4 := h4) (h5 := h5) (h6 := h6) (h7 := h7) (h8 := h8) (h9 := h9) (h10 := h10) (h11 := h11) (h12 := h12) (h13 := h13) (h14 := h14) (h15 := h15) (h16 := h16) (h17 := h17) (now := now_27) (kept := kept) (isKept := isKept) (found := found) (order := order_27) (doubts := doubts_27) (doubtMany := doubtMany_27) (weights := weights_27) (worn := worn_27) (pairs := pairs_27) (isTwice := isTwice_27) (doer := doer_27) (doneTo := doneTo_27) (doers := doers) (tape := tape) (taped := taped) (begins := begins) (ends := ends) (sort := sort) (value := value) (isWrong := isWrong) (items := items) (itemMany := itemMany) (bowThen := bowThen) (doubtThen := doubtThen) (deedThen := deedThen) (sayingThen := sayingThen) (widths := widths) (sizes := sizes) (numbers := numbers) (moved := moved) e_6) (cwV 1 hts gX8_bound_X8_findDoers rfl rfl rfl hd_X8_findDoers ⟨Nat.le_of_ble_eq_true rfl, Nat.le_of_ble_eq_true rfl⟩) hK hP hD hS hA hE (q0 := 0) (ci := 8) rfl rfl rfl rfl hl.1 rfl (Nat.le_of_ble_eq_true rfl) dX8_bound_39 ⟨Nat.zero_le _, Nat.zero_le _⟩ (fun H locs hP hD hS => ?_)
          refine lv_iconst (v := (0 : Int32)) hx hb dX8_bound_42 (by decide) ?_
          refine lv_istore (lv' := [(6, .int (0 : Int32)), (0, .ref h0), (1, .int x1_27), (2, .int x2_27), (3, .long x3_27), (5, .int x5_27)]) hx hb dX8_bound_43 hl (by decide) rfl (fun ls hl => ?_)
          refine lv_iconst (v := (0 : Int32)) hx hb dX8_bound_45 (by decide) ?_
          refine lv_istore (lv' := [(7, .int (0 : Int32)), (6, .int (0 : Int32)), (0, .ref h0), (1, .int x1_27), (2, .int x2_27), (3, .long x3_27), (5, .int x5_27)]) hx hb dX8_bound_46 hl (by decide) rfl (fun ls hl => ?_)
          have L_48 : ∀ {x1_48 : Int32} {x2_48 : Int32} {now_48 : (Nat → Int32)} {doer_48 : (Nat → Int32)} {doneTo_48 : (Nat → Int32)} (n_48 : Nat) {x6_48 : Int32} {x7_48 : Int32} {uL_48 : Int32} {H : Heap} {locs : List Loc} {ls : Array Slot}, f_X8_bound_48 x1_48 x2_48 now_48 doer_48 doneTo_48  n_48 x6_48 x7_48 = some uL_48 → va_P G vwCl (wM ca ev h0 h1 h2 h3 h4 h5 h6 h7 h8 h9 h10 h11 h12 h13 h14 h15 h16 h17 now_48 kept isKept found order_27 doubts_27 doubtMany_27 weights_27 u_6.1 u_6.2.1 u_6.2.2.1 doer_48 doneTo_48 doers tape taped begins ends sort value isWrong items itemMany bowThen doubtThen deedThen sayingThen widths sizes numbers moved) H → va_D A (wM ca ev h0 h1 h2 h3 h4 h5 h6 h7 h8 h9 h10 h11 h12 h13 h14 h15 h16 h17 now_48 kept isKept found order_27 doubts_27 doubtMany_27 weights_27 u_6.1 u_6.2.1 u_6.2.2.1 doer_48 doneTo_48 doers tape taped begins ends sort value isWrong items itemMany bowThen doubtThen deedThen sayingThen widths sizes numbers moved) → va_S A s.heap H locs → lv_has ls 9 [(0, .ref h0), (1, .int x1_48), (2, .int x2_48), (3, .long x3_27), (5, .int x5_27), (6, .int x6_48), (7, .int x7_48)] → (∀ {H : Heap} {locs : List Loc} {ls : Array Slot}, va_P G vwCl (wM ca ev h0 h1 h2 h3 h4 h5 h6 h7 h8 h9 h10 h11 h12 h13 h14 h15 h16 h17 now_48 kept isKept found order_27 doubts_27 doubtMany_27 weights_27 u_6.1 u_6.2.1 u_6.2.2.1 doer_48 doneTo_48 doers tape taped begins ends sort value isWrong items itemMany bowThen doubtThen deedThen sayingThen widths sizes numbers moved) H → va_D A (wM ca ev h0 h1 h2 h3 h4 h5 h6 h7 h8 h9 h10 h11 h12 h13 h14 h15 h16 h17 now_48 kept isKept found order_27 doubts_27 doubtMany_27 weights_27 u_6.1 u_6.2.1 u_6.2.2.1 doer_48 doneTo_48 doers tape taped begins ends sort value isWrong items itemMany bowThen doubtThen deedThen sayingThen widths sizes numbers moved) → va_S A s.heap H locs → lv_has ls 9 [(0, .ref h0), (1, .int x1_48), (2, .int x2_48), (3, .long x3_27), (5, .int x5_27), (6, .int uL_48)] → W p l e rm_X8_bound s m args below meth c H locs 0 0 Q (F0 m 144 ls [])) → W p l e rm_X8_bound s m args below meth c H locs 0 0 Q (F0 m 48 ls []) := by
            intro x1_48 x2_48 now_48 doer_48 doneTo_48 n_48
            induction n_48 with
            | zero => intro x6_48 x7_48 uL_48 H locs ls h; exact absurd h (by rw [f_X8_bound_48]; exact fun z => nomatch z)
            | succ n_48 ih =>
              intro x6_48 x7_48 uL_48 H locs ls h hP hD hS hl JK_48
              rw [f_X8_bound_48] at h
              refine lv_iload hx hb dX8_bound_48 (lv_at hl 6 rfl) ?_
              refine lv_aload_n hx hb dX8_bound_50 rfl (lv_at hl 0 rfl) ?_
              refine va_get (D := G) (ci := 8) (v := .ref h1) (C := RX8) (T := TX8) (N := 32) hx hb hts hin_X8 hown hK hP 0 rfl rfl 0 (by decide) fk_9 (fun _ h9 => h9) rfl dX8_bound_51 ?_
              refine lv_iconst (v := (4 : Int32)) hx hb dX8_bound_54 (by decide) ?_
              refine va_iald hx hb hK hP 1 0 rfl rfl (ix_in (by decide)) dX8_bound_55 ?_
              refine lv_icmp_ge (tgt := 144) hx hb dX8_bound_56 (by decide) (fun c_7 => ?_) (fun c_7 => ?_)
              · have h := ifp c_7 h
                obtain rfl := Option.some.inj h
                exact JK_48 hP hD hS (lv_sub hl [0, 1, 2, 3, 4, 5] rfl)
              · have h := ifn c_7 h
                refine lv_aload_n hx hb dX8_bound_59 rfl (lv_at hl 0 rfl) ?_
                refine va_get (D := G) (ci := 8) (v := .ref h8) (C := RX8) (T := TX8) (N := 32) hx hb hts hin_X8 hown hK hP 0 rfl rfl 11 (by decide) fk_32 (fun _ h9 => h9) rfl dX8_bound_60 ?_
                refine lv_iload hx hb dX8_bound_63 (lv_at hl 6 rfl) ?_
                obtain ⟨i_8, h⟩ := gd_some h
                refine va_iald hx hb hK hP 8 0 rfl rfl (ix_in i_8) dX8_bound_65 ?_
                refine lv_iload_n hx hb dX8_bound_66 rfl (lv_at hl 1 rfl) ?_
                obtain ⟨u_9, e_9, h⟩ := bd_some h
                have J_9 : ∀ {H : Heap} {locs : List Loc} {ls : Array Slot}, va_P G vwCl (wM ca ev h0 h1 h2 h3 h4 h5 h6 h7 h8 h9 h10 h11 h12 h13 h14 h15 h16 h17 now_48 kept isKept found order_27 doubts_27 doubtMany_27 weights_27 u_6.1 u_6.2.1 u_6.2.2.1 doer_48 doneTo_48 doers tape taped begins ends sort value isWrong items itemMany bowThen doubtThen deedThen sayingThen widths sizes numbers moved) H → va_D A (wM ca ev h0 h1 h2 h3 h4 h5 h6 h7 h8 h9 h10 h11 h12 h13 h14 h15 h16 h17 now_48 kept isKept found order_27 doubts_27 doubtMany_27 weights_27 u_6.1 u_6.2.1 u_6.2.2.1 doer_48 doneTo_48 doers tape taped begins ends sort value isWrong items itemMany bowThen doubtThen deedThen sayingThen widths sizes numbers moved) → va_S A s.heap H locs → lv_has ls 9 [(0, .ref h0), (1, .int x1_48), (2, .int x2_48), (3, .long x3_27), (5, .int x5_27), (6, .int x6_48), (7, .int x7_48)] → (u_9 = 0 ∨ u_9 = 1) → W p l e rm_X8_bound s m args below meth c H locs 0 0 Q (F0 m 108 ls [.int u_9]) := by
                  intro H locs ls hP hD hS hl zj_9_0
                  refine lv_istore (lv' := [(8, .int u_9), (0, .ref h0), (1, .int x1_48), (2, .int x2_48), (3, .long x3_27), (5, .int x5_27), (6, .int x6_48), (7, .int x7_48)]) hx hb dX8_bound_108 hl (by decide) rfl (fun ls hl => ?_)
                  refine lv_iload hx hb dX8_bound_110 (lv_at hl 6 rfl) ?_
                  obtain ⟨u_15, e_15, h⟩ := bd_some h
                  have J_15 : ∀ {H : Heap} {locs : List Loc} {ls : Array Slot}, va_P G vwCl (wM ca ev h0 h1 h2 h3 h4 h5 h6 h7 h8 h9 h10 h11 h12 h13 h14 h15 h16 h17 now_48 kept isKept found order_27 doubts_27 doubtMany_27 weights_27 u_6.1 u_6.2.1 u_6.2.2.1 doer_48 doneTo_48 doers tape taped begins ends sort value isWrong items itemMany bowThen doubtThen deedThen sayingThen widths sizes numbers moved) H → va_D A (wM ca ev h0 h1 h2 h3 h4 h5 h6 h7 h8 h9 h10 h11 h12 h13 h14 h15 h16 h17 now_48 kept isKept found order_27 doubts_27 doubtMany_27 weights_27 u_6.1 u_6.2.1 u_6.2.2.1 doer_48 doneTo_48 doers tape taped begins ends sort value isWrong items itemMany bowThen doubtThen deedThen sayingThen widths sizes numbers moved) → va_S A s.heap H locs → lv_has ls 9 [(0, .ref h0), (1, .int x1_48), (2, .int x2_48), (3, .long x3_27), (5, .int x5_27), (7, .int x7_48)] → (u_15 = 0 ∨ u_15 = 1) → W p l e rm_X8_bound s m args below meth c H locs 0 0 Q (F0 m 136 ls [.int u_15]) := by
                    intro H locs ls hP hD hS hl zj_15_0
                    refine lv_istore (lv' := [(6, .int u_15), (0, .ref h0), (1, .int x1_48), (2, .int x2_48), (3, .long x3_27), (5, .int x5_27), (7, .int x7_48)]) hx hb dX8_bound_136 hl (by decide) rfl (fun ls hl => ?_)
                    refine lv_iinc (v := (x7_48 + (1 : Int32))) (lv' := [(7, .int (x7_48 + (1 : Int32))), (6, .int u_15), (0, .ref h0), (1, .int x1_48), (2, .int x2_48), (3, .long x3_27), (5, .int x5_27)]) hx hb dX8_bound_138 hl (k := 6) rfl rfl (by decide) rfl (fun ls hl => ?_)
                    refine lv_goto (tgt := 48) hx hb dX8_bound_141 (by decide) ?_
                    exact ih h hP hD hS (lv_sub hl [2, 3, 4, 5, 6, 1, 0] rfl) JK_48
                  have h := e_15
                  clear e_15
                  refine lv_if_ne (tgt := 131) hx hb dX8_bound_112 (by decide) (fun c_15 => ?_) (fun c_15 => ?_)
                  · have h := ifn c_15 h
                    refine lv_iconst (v := (1 : Int32)) hx hb dX8_bound_131 (by decide) ?_
                    refine lv_goto (tgt := 136) hx hb dX8_bound_132 (by decide) ?_
                    obtain rfl := Option.some.inj h
                    exact J_15 hP hD hS (lv_sub hl [1, 2, 3, 4, 5, 7] rfl) zb_1
                  · have h := ifp c_15 h
                    refine lv_iload hx hb dX8_bound_115 (lv_at hl 0 rfl) ?_
                    refine lv_if_eq (tgt := 135) hx hb dX8_bound_117 (by decide) (fun c_16 => ?_) (fun c_16 => ?_)
                    · have h := ifp c_16 h
                      refine lv_iconst (v := (0 : Int32)) hx hb dX8_bound_135 (by decide) ?_
                      obtain rfl := Option.some.inj h
                      exact J_15 hP hD hS (lv_sub hl [1, 2, 3, 4, 5, 7] rfl) zb_0
                    · have h := ifn c_16 h
                      refine lv_aload_n hx hb dX8_bound_120 rfl (lv_at hl 1 rfl) ?_
                      refine lv_iload hx hb dX8_bound_121 (lv_at hl 7 rfl) ?_
                      refine lv_iconst (v := (0 : Int32)) hx hb dX8_bound_123 (by decide) ?_
                      obtain ⟨u_17, e_17, h⟩ := bd_some h
                      refine cm_Vi (As := [.int x7_48, .int (0 : Int32)]) (rest := []) ⟨hx, hb, hml, hown, hts⟩ (c_X8_deedIs (ca := ca) (ev := ev) (h0 := h0) (h1 := h1) (h2 := h2) (h3 := h3) (h4 := h4) (h5 := h5) (h6 := h6) (h7 := h7) (h8 := h8) (h9 := h9) (h10 := h10) (h11 := h11) (h12 := h12) (h13 := h13) (h14 := h14) (h15 := h15) (h16 := h16) (h17 := h17) (now := now_48) (kept := kept) (isKept := isKept) (found := found) (order := order_27) (doubts := doubts_27) (doubtMany := doubtMany_27) (weights := weights_27) (worn := u_6.1) (pairs := u_6.2.1) (isTwice := u_6.2.2.1) (doer := doer_48) (doneTo := doneTo_48) (doers := doers) (tape := tape) (taped := taped) (begins := begins) (ends := ends) (sort := sort) (value := value) (isWrong := isWrong) (items := items) (itemMany := itemMany) (bowThen := bowThen) (doubtThen := doubtThen) (deedThen := deedThen) (sayingThen := sayingThen) (widths := widths) (sizes := sizes) (numbers := numbers) (moved := moved) e_17) (cwV 2 hts gX8_bound_X8_deedIs rfl rfl rfl hd_X8_deedIs ⟨Nat.le_of_ble_eq_true rfl, Nat.le_of_ble_eq_true rfl⟩) hK hP hD hS hA hE (q0 := 0) (ci := 8) rfl rfl rfl rfl hl.1 rfl (Nat.le_of_ble_eq_true rfl) dX8_bound_124 ⟨Nat.zero_le _, Nat.zero_le _⟩ (fun H locs hP hD hS => ?_)
                      refine lv_iconst (v := (4 : Int32)) hx hb dX8_bound_127 (by decide) ?_
                      refine lv_icmp_ne (tgt := 135) hx hb dX8_bound_128 (by decide) (fun c_18 => ?_) (fun c_18 => ?_)
                      · have h := ifn c_18 h
                        refine lv_iconst (v := (0 : Int32)) hx hb dX8_bound_135 (by decide) ?_
                        obtain rfl := Option.some.inj h
                        exact J_15 hP hD hS (lv_sub hl [1, 2, 3, 4, 5, 7] rfl) zb_0
                      · have h := ifp c_18 h
                        refine lv_iconst (v := (1 : Int32)) hx hb dX8_bound_131 (by decide) ?_
                        refine lv_goto (tgt := 136) hx hb dX8_bound_132 (by decide) ?_
                        obtain rfl := Option.some.inj h
                        exact J_15 hP hD hS (lv_sub hl [1, 2, 3, 4, 5, 7] rfl) zb_1
                have h := e_9
                clear e_9
                refine lv_icmp_ne (tgt := 81) hx hb dX8_bound_67 (by decide) (fun c_9 => ?_) (fun c_9 => ?_)
                · have h := ifn c_9 h
                  refine lv_aload_n hx hb dX8_bound_81 rfl (lv_at hl 0 rfl) ?_
                  refine va_get (D := G) (ci := 8) (v := .ref h8) (C := RX8) (T := TX8) (N := 32) hx hb hts hin_X8 hown hK hP 0 rfl rfl 11 (by decide) fk_32 (fun _ h9 => h9) rfl dX8_bound_82 ?_
                  refine lv_iload hx hb dX8_bound_85 (lv_at hl 6 rfl) ?_
                  refine va_iald hx hb hK hP 8 0 rfl rfl (ix_in i_8) dX8_bound_87 ?_
                  refine lv_iload_n hx hb dX8_bound_88 rfl (lv_at hl 2 rfl) ?_
                  refine lv_icmp_ne (tgt := 107) hx hb dX8_bound_89 (by decide) (fun c_10 => ?_) (fun c_10 => ?_)
                  · have h := ifn c_10 h
                    refine lv_iconst (v := (0 : Int32)) hx hb dX8_bound_107 (by decide) ?_
                    obtain rfl := Option.some.inj h
                    exact J_9 hP hD hS (lv_sub hl [0, 1, 2, 3, 4, 5, 6] rfl) zb_0
                  · have h := ifp c_10 h
                    refine lv_aload_n hx hb dX8_bound_92 rfl (lv_at hl 0 rfl) ?_
                    refine va_get (D := G) (ci := 8) (v := .ref h9) (C := RX8) (T := TX8) (N := 32) hx hb hts hin_X8 hown hK hP 0 rfl rfl 12 (by decide) fk_35 (fun _ h9 => h9) rfl dX8_bound_93 ?_
                    refine lv_iload hx hb dX8_bound_96 (lv_at hl 6 rfl) ?_
                    refine va_iald hx hb hK hP 9 0 rfl rfl (ix_in i_8) dX8_bound_98 ?_
                    refine lv_iload_n hx hb dX8_bound_99 rfl (lv_at hl 1 rfl) ?_
                    refine lv_icmp_ne (tgt := 107) hx hb dX8_bound_100 (by decide) (fun c_11 => ?_) (fun c_11 => ?_)
                    · have h := ifn c_11 h
                      refine lv_iconst (v := (0 : Int32)) hx hb dX8_bound_107 (by decide) ?_
                      obtain rfl := Option.some.inj h
                      exact J_9 hP hD hS (lv_sub hl [0, 1, 2, 3, 4, 5, 6] rfl) zb_0
                    · have h := ifp c_11 h
                      refine lv_iconst (v := (1 : Int32)) hx hb dX8_bound_103 (by decide) ?_
                      refine lv_goto (tgt := 108) hx hb dX8_bound_104 (by decide) ?_
                      obtain rfl := Option.some.inj h
                      exact J_9 hP hD hS (lv_sub hl [0, 1, 2, 3, 4, 5, 6] rfl) zb_1
                · have h := ifp c_9 h
                  refine lv_aload_n hx hb dX8_bound_70 rfl (lv_at hl 0 rfl) ?_
                  refine va_get (D := G) (ci := 8) (v := .ref h9) (C := RX8) (T := TX8) (N := 32) hx hb hts hin_X8 hown hK hP 0 rfl rfl 12 (by decide) fk_35 (fun _ h9 => h9) rfl dX8_bound_71 ?_
                  refine lv_iload hx hb dX8_bound_74 (lv_at hl 6 rfl) ?_
                  refine va_iald hx hb hK hP 9 0 rfl rfl (ix_in i_8) dX8_bound_76 ?_
                  refine lv_iload_n hx hb dX8_bound_77 rfl (lv_at hl 2 rfl) ?_
                  refine lv_icmp_eq (tgt := 103) hx hb dX8_bound_78 (by decide) (fun c_12 => ?_) (fun c_12 => ?_)
                  · have h := ifp c_12 h
                    refine lv_iconst (v := (1 : Int32)) hx hb dX8_bound_103 (by decide) ?_
                    refine lv_goto (tgt := 108) hx hb dX8_bound_104 (by decide) ?_
                    obtain rfl := Option.some.inj h
                    exact J_9 hP hD hS (lv_sub hl [0, 1, 2, 3, 4, 5, 6] rfl) zb_1
                  · have h := ifn c_12 h
                    refine lv_aload_n hx hb dX8_bound_81 rfl (lv_at hl 0 rfl) ?_
                    refine va_get (D := G) (ci := 8) (v := .ref h8) (C := RX8) (T := TX8) (N := 32) hx hb hts hin_X8 hown hK hP 0 rfl rfl 11 (by decide) fk_32 (fun _ h9 => h9) rfl dX8_bound_82 ?_
                    refine lv_iload hx hb dX8_bound_85 (lv_at hl 6 rfl) ?_
                    refine va_iald hx hb hK hP 8 0 rfl rfl (ix_in i_8) dX8_bound_87 ?_
                    refine lv_iload_n hx hb dX8_bound_88 rfl (lv_at hl 2 rfl) ?_
                    refine lv_icmp_ne (tgt := 107) hx hb dX8_bound_89 (by decide) (fun c_13 => ?_) (fun c_13 => ?_)
                    · have h := ifn c_13 h
                      refine lv_iconst (v := (0 : Int32)) hx hb dX8_bound_107 (by decide) ?_
                      obtain rfl := Option.some.inj h
                      exact J_9 hP hD hS (lv_sub hl [0, 1, 2, 3, 4, 5, 6] rfl) zb_0
                    · have h := ifp c_13 h
                      refine lv_aload_n hx hb dX8_bound_92 rfl (lv_at hl 0 rfl) ?_
                      refine va_get (D := G) (ci := 8) (v := .ref h9) (C := RX8) (T := TX8) (N := 32) hx hb hts hin_X8 hown hK hP 0 rfl rfl 12 (by decide) fk_35 (fun _ h9 => h9) rfl dX8_bound_93 ?_
                      refine lv_iload hx hb dX8_bound_96 (lv_at hl 6 rfl) ?_
                      refine va_iald hx hb hK hP 9 0 rfl rfl (ix_in i_8) dX8_bound_98 ?_
                      refine lv_iload_n hx hb dX8_bound_99 rfl (lv_at hl 1 rfl) ?_
                      refine lv_icmp_ne (tgt := 107) hx hb dX8_bound_100 (by decide) (fun c_14 => ?_) (fun c_14 => ?_)
                      · have h := ifn c_14 h
                        refine lv_iconst (v := (0 : Int32)) hx hb dX8_bound_107 (by decide) ?_
                        obtain rfl := Option.some.inj h
                        exact J_9 hP hD hS (lv_sub hl [0, 1, 2, 3, 4, 5, 6] rfl) zb_0
                      · have h := ifp c_14 h
                        refine lv_iconst (v := (1 : Int32)) hx hb dX8_bound_103 (by decide) ?_
                        refine lv_goto (tgt := 108) hx hb dX8_bound_104 (by decide) ?_
                        obtain rfl := Option.some.inj h
                        exact J_9 hP hD hS (lv_sub hl [0, 1, 2, 3, 4, 5, 6] rfl) zb_1
          obtain ⟨u_19, e_19, h⟩ := bd_some h
          refine L_48 _ e_19 hP hD hS (lv_sub hl [2, 3, 4, 5, 6, 1, 0] rfl) ?_
          intro H locs ls hP hD hS hl
          refine lv_lload_n hx hb dX8_bound_144 rfl (lv_at hl 3 rfl) ?_
          refine lv_iload hx hb dX8_bound_145 (lv_at hl 5 rfl) ?_
          obtain ⟨u_20, e_20, h⟩ := bd_some h
          have J_20 : ∀ {H : Heap} {locs : List Loc} {ls : Array Slot}, va_P G vwCl (wM ca ev h0 h1 h2 h3 h4 h5 h6 h7 h8 h9 h10 h11 h12 h13 h14 h15 h16 h17 now_27 kept isKept found order_27 doubts_27 doubtMany_27 weights_27 u_6.1 u_6.2.1 u_6.2.2.1 u_6.2.2.2.1 u_6.2.2.2.2 doers tape taped begins ends sort value isWrong items itemMany bowThen doubtThen deedThen sayingThen widths sizes numbers moved) H → va_D A (wM ca ev h0 h1 h2 h3 h4 h5 h6 h7 h8 h9 h10 h11 h12 h13 h14 h15 h16 h17 now_27 kept isKept found order_27 doubts_27 doubtMany_27 weights_27 u_6.1 u_6.2.1 u_6.2.2.1 u_6.2.2.2.1 u_6.2.2.2.2 doers tape taped begins ends sort value isWrong items itemMany bowThen doubtThen deedThen sayingThen widths sizes numbers moved) → va_S A s.heap H locs → lv_has ls 9 [(0, .ref h0), (1, .int x1_27), (2, .int x2_27), (5, .int x5_27)] → W p l e rm_X8_bound s m args below meth c H locs 0 0 Q (F0 m 161 ls [.long u_20, .long x3_27]) := by
            intro H locs ls hP hD hS hl 
            refine lv_ladd hx hb dX8_bound_161 ?_
            refine lv_lstore_n (lv' := [(3, .long (x3_27 + u_20)), (0, .ref h0), (1, .int x1_27), (2, .int x2_27), (5, .int x5_27)]) hx hb dX8_bound_162 rfl hl (by decide) rfl (fun ls hl => ?_)
            refine lv_iinc (v := (x5_27 + (1 : Int32))) (lv' := [(5, .int (x5_27 + (1 : Int32))), (3, .long (x3_27 + u_20)), (0, .ref h0), (1, .int x1_27), (2, .int x2_27)]) hx hb dX8_bound_163 hl (k := 4) rfl rfl (by decide) rfl (fun ls hl => ?_)
            refine lv_goto (tgt := 27) hx hb dX8_bound_166 (by decide) ?_
            exact ih h hP hD hS (lv_sub hl [2, 3, 4, 1, 0] rfl) JK_27
          have h := e_20
          clear e_20
          refine lv_if_eq (tgt := 160) hx hb dX8_bound_147 (by decide) (fun c_20 => ?_) (fun c_20 => ?_)
          · have h := ifp c_20 h
            refine lv_lconst (v := (0 : Int64)) hx hb dX8_bound_160 (by decide) ?_
            obtain rfl := Option.some.inj h
            exact J_20 hP hD hS (lv_sub hl [0, 1, 2, 4] rfl)
          · have h := ifn c_20 h
            refine lv_aload_n hx hb dX8_bound_150 rfl (lv_at hl 0 rfl) ?_
            refine va_get (D := G) (ci := 8) (v := .ref h6) (C := RX8) (T := TX8) (N := 32) hx hb hts hin_X8 hown hK hP 0 rfl rfl 7 (by decide) fk_25 (fun _ h9 => h9) rfl dX8_bound_151 ?_
            refine lv_iload hx hb dX8_bound_154 (lv_at hl 4 rfl) ?_
            obtain ⟨i_21, h⟩ := gd_some h
            refine va_lald hx hb hK hP 6 1 rfl rfl (ix_in i_21) dX8_bound_156 ?_
            refine lv_goto (tgt := 161) hx hb dX8_bound_157 (by decide) ?_
            obtain rfl := Option.some.inj h
            exact J_20 hP hD hS (lv_sub hl [0, 1, 2, 4] rfl)
    obtain ⟨u_22, e_22, h⟩ := bd_some h
    refine L_27 _ e_22 hP hD hS (lv_sub hl [2, 3, 4, 1, 0] rfl) ?_
    intro H locs ls hP hD hS hl
    refine lv_lload_n hx hb dX8_bound_169 rfl (lv_at hl 0 rfl) ?_
    obtain rfl := Option.some.inj h
    exact hRet hP hD hS dX8_bound_170
  · have h := ifp c_2 h
    refine lv_aload_n hx hb dX8_bound_9 rfl (lv_at hl 0 rfl) ?_
    refine lv_ldc (v := (-1000000001 : Int32)) hx hb hown (hts (.constant RX8 77 (-1000000001)) (by decide +kernel)) dX8_bound_10 ?_
    obtain ⟨u_23, e_23, h⟩ := bd_some h
    refine cm_Vi (As := [.int (-1000000001 : Int32)]) (rest := []) ⟨hx, hb, hml, hown, hts⟩ (c_X8_finding (ca := ca) (ev := ev) (h0 := h0) (h1 := h1) (h2 := h2) (h3 := h3) (h4 := h4) (h5 := h5) (h6 := h6) (h7 := h7) (h8 := h8) (h9 := h9) (h10 := h10) (h11 := h11) (h12 := h12) (h13 := h13) (h14 := h14) (h15 := h15) (h16 := h16) (h17 := h17) (now := now) (kept := kept) (isKept := isKept) (found := found) (order := order) (doubts := doubts) (doubtMany := doubtMany) (weights := weights) (worn := worn) (pairs := pairs) (isTwice := isTwice) (doer := doer) (doneTo := doneTo) (doers := doers) (tape := tape) (taped := taped) (begins := begins) (ends := ends) (sort := sort) (value := value) (isWrong := isWrong) (items := items) (itemMany := itemMany) (bowThen := bowThen) (doubtThen := doubtThen) (deedThen := deedThen) (sayingThen := sayingThen) (widths := widths) (sizes := sizes) (numbers := numbers) (moved := moved) e_23) (cwV 1 hts gX8_bound_X8_finding rfl rfl rfl hd_X8_finding ⟨Nat.le_of_ble_eq_true rfl, Nat.le_of_ble_eq_true rfl⟩) hK hP hD hS hA hE (q0 := 0) (ci := 8) rfl rfl rfl rfl hl.1 rfl (Nat.le_of_ble_eq_true rfl) dX8_bound_12 ⟨Nat.zero_le _, Nat.zero_le _⟩ (fun H locs hP hD hS => ?_)
    refine lv_i2l (v := u_23.1.toInt64) hx hb dX8_bound_15 rfl ?_
    obtain rfl := Option.some.inj h
    exact hRet hP hD hS dX8_bound_16
abbrev rm_X8_ask : Room := { frames := 5, cells := 0, slots := 0, locals := 120 }
theorem hd_X8_ask : yX8_ask.cls = RX8 ∧ yX8_ask.cls ≠ "java/lang/invoke/MethodHandle" ∧ yX8_ask.cls ≠ "java/lang/invoke/VarHandle" ∧ (parseMethodDescriptor yX8_ask.desc).map (fun d => d.parameters.length) = some 0 := by decide +kernel
set_option maxHeartbeats 4000000 in
set_option maxRecDepth 100000 in
theorem c_X8_ask {l : Launch} {G : va_G} {ca : Nat → ClassId} {ev : Nat → Nat} {h0 h1 h2 h3 h4 h5 h6 h7 h8 h9 h10 h11 h12 h13 h14 h15 h16 h17 : Nat} {now : (Nat → Int32)} {kept : (Nat → Int32)} {isKept : Int32} {found : (Nat → Int32)} {order : (Nat → Int32)} {doubts : (Nat → Int32)} {doubtMany : Int32} {weights : (Nat → Int64)} {worn : (Nat → Int32)} {pairs : Int64} {isTwice : Int32} {doer : (Nat → Int32)} {doneTo : (Nat → Int32)} {doers : (Nat → Int64)} {tape : (Nat → Int32)} {taped : Int32} {begins : Int32} {ends : Int32} {sort : Int32} {value : Int32} {isWrong : Int32} {items : (Nat → Int32)} {itemMany : Int32} {bowThen : Int32} {doubtThen : Int32} {deedThen : Int32} {sayingThen : Int32} {widths : (Nat → Int32)} {sizes : (Nat → Int32)} {numbers : (Nat → Int64)} {moved : (Nat → Int64)}  {N : Nat} {res : Int32 × (Nat → Int32) × (Nat → Int32) × (Nat → Int32) × Int32 × (Nat → Int64) × (Nat → Int32) × Int64 × Int32} (h : f_X8_ask N now found order doubts doubtMany weights worn pairs isTwice = some res) : CtI l yX8_ask wsX8_ask rm_X8_ask G ca ev [.ref h0] (wM ca ev h0 h1 h2 h3 h4 h5 h6 h7 h8 h9 h10 h11 h12 h13 h14 h15 h16 h17 now kept isKept found order doubts doubtMany weights worn pairs isTwice doer doneTo doers tape taped begins ends sort value isWrong items itemMany bowThen doubtThen deedThen sayingThen widths sizes numbers moved) (wM ca ev h0 h1 h2 h3 h4 h5 h6 h7 h8 h9 h10 h11 h12 h13 h14 h15 h16 h17 now kept isKept res.2.1 res.2.2.1 res.2.2.2.1 res.2.2.2.2.1 res.2.2.2.2.2.1 res.2.2.2.2.2.2.1 res.2.2.2.2.2.2.2.1 res.2.2.2.2.2.2.2.2 doer doneTo doers tape taped begins ends sort value isWrong items itemMany bowThen doubtThen deedThen sayingThen widths sizes numbers moved) res.1 := by
  unfold f_X8_ask at h
  refine en_i (by decide) rfl (Nat.le_of_ble_eq_true rfl) ?_
  intro p e s m args below meth c A Q H locs ls hx hb hml hown hts hA hP hK hD hE hS hl hRet
  have hown : s.vm.findClass RX8 = some m.cls := hown
  have hl : lv_has ls 11 [(0, .ref h0)] := hl
  have hin_X8 : ∀ w ∈ u_ws RX8 TX8 32, w ∈ wsX8_ask := fun w h9 => List.mem_cons_of_mem _ (List.mem_append_right _ h9)
  have fk_126 := hts (.fieldLink RX8 126 "MaskBowsModel" "doubtMany" "I") (by decide +kernel)
  have fk_22 := hts (.fieldLink RX8 22 "MaskBowsModel" "doubts" "[I") (by decide +kernel)
  have fk_25 := hts (.fieldLink RX8 25 "MaskBowsModel" "weights" "[J") (by decide +kernel)
  refine lv_aload_n hx hb dX8_ask_0 rfl (lv_at hl 0 rfl) ?_
  obtain ⟨u_1, e_1, h⟩ := bd_some h
  refine cm_Vl (As := []) (rest := []) ⟨hx, hb, hml, hown, hts⟩ (c_X8_weigh (ca := ca) (ev := ev) (h0 := h0) (h1 := h1) (h2 := h2) (h3 := h3) (h4 := h4) (h5 := h5) (h6 := h6) (h7 := h7) (h8 := h8) (h9 := h9) (h10 := h10) (h11 := h11) (h12 := h12) (h13 := h13) (h14 := h14) (h15 := h15) (h16 := h16) (h17 := h17) (now := now) (kept := kept) (isKept := isKept) (found := found) (order := order) (doubts := doubts) (doubtMany := doubtMany) (weights := weights) (worn := worn) (pairs := pairs) (isTwice := isTwice) (doer := doer) (doneTo := doneTo) (doers := doers) (tape := tape) (taped := taped) (begins := begins) (ends := ends) (sort := sort) (value := value) (isWrong := isWrong) (items := items) (itemMany := itemMany) (bowThen := bowThen) (doubtThen := doubtThen) (deedThen := deedThen) (sayingThen := sayingThen) (widths := widths) (sizes := sizes) (numbers := numbers) (moved := moved) e_1) (cwV 0 hts gX8_ask_X8_weigh rfl rfl rfl hd_X8_weigh ⟨Nat.le_of_ble_eq_true rfl, Nat.le_of_ble_eq_true rfl⟩) hK hP hD hS hA hE (q0 := 0) (ci := 8) rfl rfl rfl rfl hl.1 rfl (Nat.le_of_ble_eq_true rfl) dX8_ask_1 ⟨Nat.zero_le _, Nat.zero_le _⟩ (fun H locs hP hD hS => ?_)
  refine lv_lstore_n (lv' := [(1, .long u_1.1), (0, .ref h0)]) hx hb dX8_ask_4 rfl hl (by decide) rfl (fun ls hl => ?_)
  refine lv_iconst (v := (-1 : Int32)) hx hb dX8_ask_5 (by decide) ?_
  refine lv_istore_n (lv' := [(3, .int (-1 : Int32)), (1, .long u_1.1), (0, .ref h0)]) hx hb dX8_ask_6 rfl hl (by decide) rfl (fun ls hl => ?_)
  refine lv_lconst (v := (0 : Int64)) hx hb dX8_ask_7 (by decide) ?_
  refine lv_lstore (lv' := [(4, .long (0 : Int64)), (3, .int (-1 : Int32)), (1, .long u_1.1), (0, .ref h0)]) hx hb dX8_ask_8 hl (by decide) rfl (fun ls hl => ?_)
  refine lv_iconst (v := (0 : Int32)) hx hb dX8_ask_10 (by decide) ?_
  refine lv_istore (lv' := [(6, .int (0 : Int32)), (4, .long (0 : Int64)), (3, .int (-1 : Int32)), (1, .long u_1.1), (0, .ref h0)]) hx hb dX8_ask_11 hl (by decide) rfl (fun ls hl => ?_)
  have L_13 : ∀ {x1_13 : Int64} {doubts_13 : (Nat → Int32)} {doubtMany_13 : Int32} {weights_13 : (Nat → Int64)} (n_13 : Nat) {x3_13 : Int32} {x4_13 : Int64} {x6_13 : Int32} {uL_13 : Int32} {H : Heap} {locs : List Loc} {ls : Array Slot}, f_X8_ask_13 N x1_13 doubts_13 doubtMany_13 weights_13  n_13 x3_13 x4_13 x6_13 = some uL_13 → va_P G vwCl (wM ca ev h0 h1 h2 h3 h4 h5 h6 h7 h8 h9 h10 h11 h12 h13 h14 h15 h16 h17 now kept isKept found u_1.2.1 doubts_13 doubtMany_13 weights_13 u_1.2.2.2.2.2.1 u_1.2.2.2.2.2.2.1 u_1.2.2.2.2.2.2.2 doer doneTo doers tape taped begins ends sort value isWrong items itemMany bowThen doubtThen deedThen sayingThen widths sizes numbers moved) H → va_D A (wM ca ev h0 h1 h2 h3 h4 h5 h6 h7 h8 h9 h10 h11 h12 h13 h14 h15 h16 h17 now kept isKept found u_1.2.1 doubts_13 doubtMany_13 weights_13 u_1.2.2.2.2.2.1 u_1.2.2.2.2.2.2.1 u_1.2.2.2.2.2.2.2 doer doneTo doers tape taped begins ends sort value isWrong items itemMany bowThen doubtThen deedThen sayingThen widths sizes numbers moved) → va_S A s.heap H locs → lv_has ls 11 [(0, .ref h0), (1, .long x1_13), (3, .int x3_13), (4, .long x4_13), (6, .int x6_13)] → (∀ {H : Heap} {locs : List Loc} {ls : Array Slot}, va_P G vwCl (wM ca ev h0 h1 h2 h3 h4 h5 h6 h7 h8 h9 h10 h11 h12 h13 h14 h15 h16 h17 now kept isKept found u_1.2.1 doubts_13 doubtMany_13 weights_13 u_1.2.2.2.2.2.1 u_1.2.2.2.2.2.2.1 u_1.2.2.2.2.2.2.2 doer doneTo doers tape taped begins ends sort value isWrong items itemMany bowThen doubtThen deedThen sayingThen widths sizes numbers moved) H → va_D A (wM ca ev h0 h1 h2 h3 h4 h5 h6 h7 h8 h9 h10 h11 h12 h13 h14 h15 h16 h17 now kept isKept found u_1.2.1 doubts_13 doubtMany_13 weights_13 u_1.2.2.2.2.2.1 u_1.2.2.2.2.2.2.1 u_1.2.2.2.2.2.2.2 doer doneTo doers tape taped begins ends sort value isWrong items itemMany bowThen doubtThen deedThen sayingThen widths sizes numbers moved) → va_S A s.heap H locs → lv_has ls 11 [(0, .ref h0), (3, .int uL_13)] → W p l e rm_X8_ask s m args below meth c H locs 0 0 Q (F0 m 117 ls [])) → W p l e rm_X8_ask s m args below meth c H locs 0 0 Q (F0 m 13 ls []) := by
    intro x1_13 doubts_13 doubtMany_13 weights_13 n_13
    induction n_13 with
    | zero => intro x3_13 x4_13 x6_13 uL_13 H locs ls h; exact absurd h (by rw [f_X8_ask_13]; exact fun z => nomatch z)
    | succ n_13 ih =>
      intro x3_13 x4_13 x6_13 uL_13 H locs ls h hP hD hS hl JK_13
      rw [f_X8_ask_13] at h
      refine lv_iload hx hb dX8_ask_13 (lv_at hl 4 rfl) ?_
      refine lv_aload_n hx hb dX8_ask_15 rfl (lv_at hl 0 rfl) ?_
      refine va_get (D := G) (ci := 8) (v := .int doubtMany_13) (C := RX8) (T := TX8) (N := 32) hx hb hts hin_X8 hown hK hP 0 rfl rfl 6 (by decide) fk_126 (fun _ h9 => h9) rfl dX8_ask_16 ?_
      refine lv_icmp_ge (tgt := 117) hx hb dX8_ask_19 (by decide) (fun c_2 => ?_) (fun c_2 => ?_)
      · have h := ifp c_2 h
        obtain rfl := Option.some.inj h
        exact JK_13 hP hD hS (lv_sub hl [0, 2] rfl)
      · have h := ifn c_2 h
        refine lv_lload_n hx hb dX8_ask_22 rfl (lv_at hl 1 rfl) ?_
        refine lv_lconst (v := (0 : Int64)) hx hb dX8_ask_23 (by decide) ?_
        refine W.lcmp hx hb dX8_ask_24 ?_
        refine lv_if_le (tgt := 117) hx hb dX8_ask_25 (by decide) (fun c_3 => ?_) (fun c_3 => ?_)
        · have h := ifp c_3 h
          obtain rfl := Option.some.inj h
          exact JK_13 hP hD hS (lv_sub hl [0, 2] rfl)
        · have h := ifn c_3 h
          refine lv_lconst (v := (0 : Int64)) hx hb dX8_ask_28 (by decide) ?_
          refine lv_lstore (lv' := [(7, .long (0 : Int64)), (0, .ref h0), (1, .long x1_13), (3, .int x3_13), (4, .long x4_13), (6, .int x6_13)]) hx hb dX8_ask_29 hl (by decide) rfl (fun ls hl => ?_)
          refine lv_iconst (v := (0 : Int32)) hx hb dX8_ask_31 (by decide) ?_
          refine lv_istore (lv' := [(9, .int (0 : Int32)), (7, .long (0 : Int64)), (0, .ref h0), (1, .long x1_13), (3, .int x3_13), (4, .long x4_13), (6, .int x6_13)]) hx hb dX8_ask_32 hl (by decide) rfl (fun ls hl => ?_)
          have L_34 : ∀ {x6_34 : Int32} {doubtMany_34 : Int32} {weights_34 : (Nat → Int64)} (n_34 : Nat) {x7_34 : Int64} {x9_34 : Int32} {uL_34 : Int64} {H : Heap} {locs : List Loc} {ls : Array Slot}, f_X8_ask_34 x6_34 doubtMany_34 weights_34  n_34 x7_34 x9_34 = some uL_34 → va_P G vwCl (wM ca ev h0 h1 h2 h3 h4 h5 h6 h7 h8 h9 h10 h11 h12 h13 h14 h15 h16 h17 now kept isKept found u_1.2.1 doubts_13 doubtMany_34 weights_34 u_1.2.2.2.2.2.1 u_1.2.2.2.2.2.2.1 u_1.2.2.2.2.2.2.2 doer doneTo doers tape taped begins ends sort value isWrong items itemMany bowThen doubtThen deedThen sayingThen widths sizes numbers moved) H → va_D A (wM ca ev h0 h1 h2 h3 h4 h5 h6 h7 h8 h9 h10 h11 h12 h13 h14 h15 h16 h17 now kept isKept found u_1.2.1 doubts_13 doubtMany_34 weights_34 u_1.2.2.2.2.2.1 u_1.2.2.2.2.2.2.1 u_1.2.2.2.2.2.2.2 doer doneTo doers tape taped begins ends sort value isWrong items itemMany bowThen doubtThen deedThen sayingThen widths sizes numbers moved) → va_S A s.heap H locs → lv_has ls 11 [(0, .ref h0), (1, .long x1_13), (3, .int x3_13), (4, .long x4_13), (6, .int x6_34), (7, .long x7_34), (9, .int x9_34)] → (∀ {H : Heap} {locs : List Loc} {ls : Array Slot}, va_P G vwCl (wM ca ev h0 h1 h2 h3 h4 h5 h6 h7 h8 h9 h10 h11 h12 h13 h14 h15 h16 h17 now kept isKept found u_1.2.1 doubts_13 doubtMany_34 weights_34 u_1.2.2.2.2.2.1 u_1.2.2.2.2.2.2.1 u_1.2.2.2.2.2.2.2 doer doneTo doers tape taped begins ends sort value isWrong items itemMany bowThen doubtThen deedThen sayingThen widths sizes numbers moved) H → va_D A (wM ca ev h0 h1 h2 h3 h4 h5 h6 h7 h8 h9 h10 h11 h12 h13 h14 h15 h16 h17 now kept isKept found u_1.2.1 doubts_13 doubtMany_34 weights_34 u_1.2.2.2.2.2.1 u_1.2.2.2.2.2.2.1 u_1.2.2.2.2.2.2.2 doer doneTo doers tape taped begins ends sort value isWrong items itemMany bowThen doubtThen deedThen sayingThen widths sizes numbers moved) → va_S A s.heap H locs → lv_has ls 11 [(0, .ref h0), (1, .long x1_13), (3, .int x3_13), (4, .long x4_13), (6, .int x6_34), (7, .long uL_34)] → W p l e rm_X8_ask s m args below meth c H locs 0 0 Q (F0 m 76 ls [])) → W p l e rm_X8_ask s m args below meth c H locs 0 0 Q (F0 m 34 ls []) := by
            intro x6_34 doubtMany_34 weights_34 n_34
            induction n_34 with
            | zero => intro x7_34 x9_34 uL_34 H locs ls h; exact absurd h (by rw [f_X8_ask_34]; exact fun z => nomatch z)
            | succ n_34 ih =>
              intro x7_34 x9_34 uL_34 H locs ls h hP hD hS hl JK_34
              rw [f_X8_ask_34] at h
              refine lv_iload hx hb dX8_ask_34 (lv_at hl 6 rfl) ?_
              refine lv_aload_n hx hb dX8_ask_36 rfl (lv_at hl 0 rfl) ?_
              obtain ⟨u_4, e_4, h⟩ := bd_some h
              refine cm_Vi (As := []) (rest := [.int x9_34]) ⟨hx, hb, hml, hown, hts⟩ (c_X8_nightsThere (ca := ca) (ev := ev) (h0 := h0) (h1 := h1) (h2 := h2) (h3 := h3) (h4 := h4) (h5 := h5) (h6 := h6) (h7 := h7) (h8 := h8) (h9 := h9) (h10 := h10) (h11 := h11) (h12 := h12) (h13 := h13) (h14 := h14) (h15 := h15) (h16 := h16) (h17 := h17) (now := now) (kept := kept) (isKept := isKept) (found := found) (order := u_1.2.1) (doubts := doubts_13) (doubtMany := doubtMany_34) (weights := weights_34) (worn := u_1.2.2.2.2.2.1) (pairs := u_1.2.2.2.2.2.2.1) (isTwice := u_1.2.2.2.2.2.2.2) (doer := doer) (doneTo := doneTo) (doers := doers) (tape := tape) (taped := taped) (begins := begins) (ends := ends) (sort := sort) (value := value) (isWrong := isWrong) (items := items) (itemMany := itemMany) (bowThen := bowThen) (doubtThen := doubtThen) (deedThen := deedThen) (sayingThen := sayingThen) (widths := widths) (sizes := sizes) (numbers := numbers) (moved := moved) e_4) (cwV 0 hts gX8_ask_X8_nightsThere rfl rfl rfl hd_X8_nightsThere ⟨Nat.le_of_ble_eq_true rfl, Nat.le_of_ble_eq_true rfl⟩) hK hP hD hS hA hE (q0 := 0) (ci := 8) rfl rfl rfl rfl hl.1 rfl (Nat.le_of_ble_eq_true rfl) dX8_ask_37 ⟨Nat.zero_le _, Nat.zero_le _⟩ (fun H locs hP hD hS => ?_)
              refine lv_icmp_ge (tgt := 76) hx hb dX8_ask_40 (by decide) (fun c_5 => ?_) (fun c_5 => ?_)
              · have h := ifp c_5 h
                obtain rfl := Option.some.inj h
                exact JK_34 hP hD hS (lv_sub hl [0, 1, 2, 3, 4, 5] rfl)
              · have h := ifn c_5 h
                refine lv_lload hx hb dX8_ask_43 (lv_at hl 5 rfl) ?_
                refine lv_iload hx hb dX8_ask_45 (lv_at hl 6 rfl) ?_
                refine lv_iload hx hb dX8_ask_47 (lv_at hl 4 rfl) ?_
                refine lv_ishr hx hb dX8_ask_49 ?_
                refine lv_iconst (v := (1 : Int32)) hx hb dX8_ask_50 (by decide) ?_
                refine lv_iand hx hb dX8_ask_51 ?_
                refine lv_iconst (v := (1 : Int32)) hx hb dX8_ask_52 (by decide) ?_
                obtain ⟨u_6, e_6, h⟩ := bd_some h
                have J_6 : ∀ {H : Heap} {locs : List Loc} {ls : Array Slot}, va_P G vwCl (wM ca ev h0 h1 h2 h3 h4 h5 h6 h7 h8 h9 h10 h11 h12 h13 h14 h15 h16 h17 now kept isKept found u_1.2.1 doubts_13 doubtMany_34 weights_34 u_1.2.2.2.2.2.1 u_1.2.2.2.2.2.2.1 u_1.2.2.2.2.2.2.2 doer doneTo doers tape taped begins ends sort value isWrong items itemMany bowThen doubtThen deedThen sayingThen widths sizes numbers moved) H → va_D A (wM ca ev h0 h1 h2 h3 h4 h5 h6 h7 h8 h9 h10 h11 h12 h13 h14 h15 h16 h17 now kept isKept found u_1.2.1 doubts_13 doubtMany_34 weights_34 u_1.2.2.2.2.2.1 u_1.2.2.2.2.2.2.1 u_1.2.2.2.2.2.2.2 doer doneTo doers tape taped begins ends sort value isWrong items itemMany bowThen doubtThen deedThen sayingThen widths sizes numbers moved) → va_S A s.heap H locs → lv_has ls 11 [(0, .ref h0), (1, .long x1_13), (3, .int x3_13), (4, .long x4_13), (6, .int x6_34), (9, .int x9_34)] → W p l e rm_X8_ask s m args below meth c H locs 0 0 Q (F0 m 67 ls [.long u_6, .long x7_34]) := by
                  intro H locs ls hP hD hS hl 
                  refine lv_ladd hx hb dX8_ask_67 ?_
                  refine lv_lstore (lv' := [(7, .long (x7_34 + u_6)), (0, .ref h0), (1, .long x1_13), (3, .int x3_13), (4, .long x4_13), (6, .int x6_34), (9, .int x9_34)]) hx hb dX8_ask_68 hl (by decide) rfl (fun ls hl => ?_)
                  refine lv_iinc (v := (x9_34 + (1 : Int32))) (lv' := [(9, .int (x9_34 + (1 : Int32))), (7, .long (x7_34 + u_6)), (0, .ref h0), (1, .long x1_13), (3, .int x3_13), (4, .long x4_13), (6, .int x6_34)]) hx hb dX8_ask_70 hl (k := 6) rfl rfl (by decide) rfl (fun ls hl => ?_)
                  refine lv_goto (tgt := 34) hx hb dX8_ask_73 (by decide) ?_
                  exact ih h hP hD hS (lv_sub hl [2, 3, 4, 5, 6, 1, 0] rfl) JK_34
                have h := e_6
                clear e_6
                refine lv_icmp_ne (tgt := 66) hx hb dX8_ask_53 (by decide) (fun c_6 => ?_) (fun c_6 => ?_)
                · have h := ifn c_6 h
                  refine lv_lconst (v := (0 : Int64)) hx hb dX8_ask_66 (by decide) ?_
                  obtain rfl := Option.some.inj h
                  exact J_6 hP hD hS (lv_sub hl [0, 1, 2, 3, 4, 6] rfl)
                · have h := ifp c_6 h
                  refine lv_aload_n hx hb dX8_ask_56 rfl (lv_at hl 0 rfl) ?_
                  refine va_get (D := G) (ci := 8) (v := .ref h6) (C := RX8) (T := TX8) (N := 32) hx hb hts hin_X8 hown hK hP 0 rfl rfl 7 (by decide) fk_25 (fun _ h9 => h9) rfl dX8_ask_57 ?_
                  refine lv_iload hx hb dX8_ask_60 (lv_at hl 6 rfl) ?_
                  obtain ⟨i_7, h⟩ := gd_some h
                  refine va_lald hx hb hK hP 6 1 rfl rfl (ix_in i_7) dX8_ask_62 ?_
                  refine lv_goto (tgt := 67) hx hb dX8_ask_63 (by decide) ?_
                  obtain rfl := Option.some.inj h
                  exact J_6 hP hD hS (lv_sub hl [0, 1, 2, 3, 4, 6] rfl)
          obtain ⟨u_8, e_8, h⟩ := bd_some h
          refine L_34 _ e_8 hP hD hS (lv_sub hl [2, 3, 4, 5, 6, 1, 0] rfl) ?_
          intro H locs ls hP hD hS hl
          refine lv_lload hx hb dX8_ask_76 (lv_at hl 5 rfl) ?_
          refine lv_lload_n hx hb dX8_ask_78 rfl (lv_at hl 1 rfl) ?_
          refine lv_lload hx hb dX8_ask_79 (lv_at hl 5 rfl) ?_
          refine lv_lsub hx hb dX8_ask_81 ?_
          refine va_mmax_long hx hb (hml.trans hl.1.symm) hown (hts (.methodLink RX8 213 Lib.MathLoose.max_long.x) (by decide +kernel)) (hts (.static Lib.MathLoose.max_long.x) (by decide +kernel)) (hts (.initialized "java/lang/Math") (by decide +kernel)) (hts (.code Lib.MathLoose.max_long.x Lib.MathLoose.max_long.code 4 (some .long)) (by decide +kernel)) (Nat.le_of_ble_eq_true rfl) (Nat.le_of_ble_eq_true rfl) (Nat.zero_le _) (Nat.zero_le _) dX8_ask_82 ?_
          refine lv_lstore (lv' := [(9, .long (if (x1_13 - u_8) < u_8 then u_8 else (x1_13 - u_8))), (0, .ref h0), (1, .long x1_13), (3, .int x3_13), (4, .long x4_13), (6, .int x6_13), (7, .long u_8)]) hx hb dX8_ask_85 hl (by decide) rfl (fun ls hl => ?_)
          refine lv_iload_n hx hb dX8_ask_87 rfl (lv_at hl 3 rfl) ?_
          obtain ⟨u_9, e_9, h⟩ := bd_some h
          have J_9 : ∀ {H : Heap} {locs : List Loc} {ls : Array Slot}, va_P G vwCl (wM ca ev h0 h1 h2 h3 h4 h5 h6 h7 h8 h9 h10 h11 h12 h13 h14 h15 h16 h17 now kept isKept found u_1.2.1 doubts_13 doubtMany_13 weights_13 u_1.2.2.2.2.2.1 u_1.2.2.2.2.2.2.1 u_1.2.2.2.2.2.2.2 doer doneTo doers tape taped begins ends sort value isWrong items itemMany bowThen doubtThen deedThen sayingThen widths sizes numbers moved) H → va_D A (wM ca ev h0 h1 h2 h3 h4 h5 h6 h7 h8 h9 h10 h11 h12 h13 h14 h15 h16 h17 now kept isKept found u_1.2.1 doubts_13 doubtMany_13 weights_13 u_1.2.2.2.2.2.1 u_1.2.2.2.2.2.2.1 u_1.2.2.2.2.2.2.2 doer doneTo doers tape taped begins ends sort value isWrong items itemMany bowThen doubtThen deedThen sayingThen widths sizes numbers moved) → va_S A s.heap H locs → lv_has ls 11 [(0, .ref h0), (1, .long x1_13), (3, .int u_9.1), (4, .long u_9.2), (6, .int x6_13)] → W p l e rm_X8_ask s m args below meth c H locs 0 0 Q (F0 m 111 ls []) := by
            intro H locs ls hP hD hS hl 
            refine lv_iinc (v := (x6_13 + (1 : Int32))) (lv' := [(6, .int (x6_13 + (1 : Int32))), (0, .ref h0), (1, .long x1_13), (3, .int u_9.1), (4, .long u_9.2)]) hx hb dX8_ask_111 hl (k := 4) rfl rfl (by decide) rfl (fun ls hl => ?_)
            refine lv_goto (tgt := 13) hx hb dX8_ask_114 (by decide) ?_
            exact ih h hP hD hS (lv_sub hl [1, 2, 3, 4, 0] rfl) JK_13
          have h := e_9
          clear e_9
          refine lv_if_lt (tgt := 99) hx hb dX8_ask_88 (by decide) (fun c_9 => ?_) (fun c_9 => ?_)
          · have h := ifp c_9 h
            refine lv_lload hx hb dX8_ask_99 (lv_at hl 0 rfl) ?_
            refine lv_lstore (lv' := [(4, .long (if (x1_13 - u_8) < u_8 then u_8 else (x1_13 - u_8))), (9, .long (if (x1_13 - u_8) < u_8 then u_8 else (x1_13 - u_8))), (0, .ref h0), (1, .long x1_13), (3, .int x3_13), (6, .int x6_13), (7, .long u_8)]) hx hb dX8_ask_101 hl (by decide) rfl (fun ls hl => ?_)
            refine lv_aload_n hx hb dX8_ask_103 rfl (lv_at hl 2 rfl) ?_
            refine va_get (D := G) (ci := 8) (v := .ref h5) (C := RX8) (T := TX8) (N := 32) hx hb hts hin_X8 hown hK hP 0 rfl rfl 5 (by decide) fk_22 (fun _ h9 => h9) rfl dX8_ask_104 ?_
            refine lv_iload hx hb dX8_ask_107 (lv_at hl 5 rfl) ?_
            obtain ⟨i_10, h⟩ := gd_some h
            refine va_iald hx hb hK hP 5 0 rfl rfl (ix_in i_10) dX8_ask_109 ?_
            refine lv_istore_n (lv' := [(3, .int (doubts_13 x6_13.toNatClampNeg)), (4, .long (if (x1_13 - u_8) < u_8 then u_8 else (x1_13 - u_8))), (9, .long (if (x1_13 - u_8) < u_8 then u_8 else (x1_13 - u_8))), (0, .ref h0), (1, .long x1_13), (6, .int x6_13), (7, .long u_8)]) hx hb dX8_ask_110 rfl hl (by decide) rfl (fun ls hl => ?_)
            obtain rfl := Option.some.inj h
            exact J_9 hP hD hS (lv_sub hl [3, 4, 0, 1, 5] rfl)
          · have h := ifn c_9 h
            refine lv_lload hx hb dX8_ask_91 (lv_at hl 0 rfl) ?_
            refine lv_lload hx hb dX8_ask_93 (lv_at hl 4 rfl) ?_
            refine W.lcmp hx hb dX8_ask_95 ?_
            refine lv_if_ge (tgt := 111) hx hb dX8_ask_96 (by decide) (fun c_11 => ?_) (fun c_11 => ?_)
            · have h := ifp c_11 h
              obtain rfl := Option.some.inj h
              exact J_9 hP hD hS (lv_sub hl [1, 2, 3, 4, 5] rfl)
            · have h := ifn c_11 h
              refine lv_lload hx hb dX8_ask_99 (lv_at hl 0 rfl) ?_
              refine lv_lstore (lv' := [(4, .long (if (x1_13 - u_8) < u_8 then u_8 else (x1_13 - u_8))), (9, .long (if (x1_13 - u_8) < u_8 then u_8 else (x1_13 - u_8))), (0, .ref h0), (1, .long x1_13), (3, .int x3_13), (6, .int x6_13), (7, .long u_8)]) hx hb dX8_ask_101 hl (by decide) rfl (fun ls hl => ?_)
              refine lv_aload_n hx hb dX8_ask_103 rfl (lv_at hl 2 rfl) ?_
              refine va_get (D := G) (ci := 8) (v := .ref h5) (C := RX8) (T := TX8) (N := 32) hx hb hts hin_X8 hown hK hP 0 rfl rfl 5 (by decide) fk_22 (fun _ h9 => h9) rfl dX8_ask_104 ?_
              refine lv_iload hx hb dX8_ask_107 (lv_at hl 5 rfl) ?_
              obtain ⟨i_12, h⟩ := gd_some h
              refine va_iald hx hb hK hP 5 0 rfl rfl (ix_in i_12) dX8_ask_109 ?_
              refine lv_istore_n (lv' := [(3, .int (doubts_13 x6_13.toNatClampNeg)), (4, .long (if (x1_13 - u_8) < u_8 then u_8 else (x1_13 - u_8))), (9, .long (if (x1_13 - u_8) < u_8 then u_8 else (x1_13 - u_8))), (0, .ref h0), (1, .long x1_13), (6, .int x6_13), (7, .long u_8)]) hx hb dX8_ask_110 rfl hl (by decide) rfl (fun ls hl => ?_)
              obtain rfl := Option.some.inj h
              exact J_9 hP hD hS (lv_sub hl [3, 4, 0, 1, 5] rfl)
  obtain ⟨u_13, e_13, h⟩ := bd_some h
  refine L_13 _ e_13 hP hD hS (lv_sub hl [4, 3, 2, 1, 0] rfl) ?_
  intro H locs ls hP hD hS hl
  refine lv_iload_n hx hb dX8_ask_117 rfl (lv_at hl 1 rfl) ?_
  refine lv_if_ge (tgt := 130) hx hb dX8_ask_118 (by decide) (fun c_14 => ?_) (fun c_14 => ?_)
  · have h := ifp c_14 h
    refine lv_iload_n hx hb dX8_ask_130 rfl (lv_at hl 1 rfl) ?_
    obtain rfl := Option.some.inj h
    exact hRet hP hD hS dX8_ask_131
  · have h := ifn c_14 h
    refine lv_aload_n hx hb dX8_ask_121 rfl (lv_at hl 0 rfl) ?_
    refine lv_ldc (v := (-1000000004 : Int32)) hx hb hown (hts (.constant RX8 179 (-1000000004)) (by decide +kernel)) dX8_ask_122 ?_
    obtain ⟨u_15, e_15, h⟩ := bd_some h
    refine cm_Vi (As := [.int (-1000000004 : Int32)]) (rest := []) ⟨hx, hb, hml, hown, hts⟩ (c_X8_finding (ca := ca) (ev := ev) (h0 := h0) (h1 := h1) (h2 := h2) (h3 := h3) (h4 := h4) (h5 := h5) (h6 := h6) (h7 := h7) (h8 := h8) (h9 := h9) (h10 := h10) (h11 := h11) (h12 := h12) (h13 := h13) (h14 := h14) (h15 := h15) (h16 := h16) (h17 := h17) (now := now) (kept := kept) (isKept := isKept) (found := found) (order := u_1.2.1) (doubts := u_1.2.2.1) (doubtMany := u_1.2.2.2.1) (weights := u_1.2.2.2.2.1) (worn := u_1.2.2.2.2.2.1) (pairs := u_1.2.2.2.2.2.2.1) (isTwice := u_1.2.2.2.2.2.2.2) (doer := doer) (doneTo := doneTo) (doers := doers) (tape := tape) (taped := taped) (begins := begins) (ends := ends) (sort := sort) (value := value) (isWrong := isWrong) (items := items) (itemMany := itemMany) (bowThen := bowThen) (doubtThen := doubtThen) (deedThen := deedThen) (sayingThen := sayingThen) (widths := widths) (sizes := sizes) (numbers := numbers) (moved := moved) e_15) (cwV 1 hts gX8_ask_X8_finding rfl rfl rfl hd_X8_finding ⟨Nat.le_of_ble_eq_true rfl, Nat.le_of_ble_eq_true rfl⟩) hK hP hD hS hA hE (q0 := 0) (ci := 8) rfl rfl rfl rfl hl.1 rfl (Nat.le_of_ble_eq_true rfl) dX8_ask_124 ⟨Nat.zero_le _, Nat.zero_le _⟩ (fun H locs hP hD hS => ?_)
    refine lv_goto (tgt := 131) hx hb dX8_ask_127 (by decide) ?_
    obtain rfl := Option.some.inj h
    exact hRet hP hD hS dX8_ask_131
abbrev rm_X8_findAllDoers : Room := { frames := 4, cells := 0, slots := 0, locals := 94 }
theorem hd_X8_findAllDoers : yX8_findAllDoers.cls = RX8 ∧ yX8_findAllDoers.cls ≠ "java/lang/invoke/MethodHandle" ∧ yX8_findAllDoers.cls ≠ "java/lang/invoke/VarHandle" ∧ (parseMethodDescriptor yX8_findAllDoers.desc).map (fun d => d.parameters.length) = some 0 := by decide +kernel
set_option maxHeartbeats 4000000 in
set_option maxRecDepth 100000 in
theorem c_X8_findAllDoers {l : Launch} {G : va_G} {ca : Nat → ClassId} {ev : Nat → Nat} {h0 h1 h2 h3 h4 h5 h6 h7 h8 h9 h10 h11 h12 h13 h14 h15 h16 h17 : Nat} {now : (Nat → Int32)} {kept : (Nat → Int32)} {isKept : Int32} {found : (Nat → Int32)} {order : (Nat → Int32)} {doubts : (Nat → Int32)} {doubtMany : Int32} {weights : (Nat → Int64)} {worn : (Nat → Int32)} {pairs : Int64} {isTwice : Int32} {doer : (Nat → Int32)} {doneTo : (Nat → Int32)} {doers : (Nat → Int64)} {tape : (Nat → Int32)} {taped : Int32} {begins : Int32} {ends : Int32} {sort : Int32} {value : Int32} {isWrong : Int32} {items : (Nat → Int32)} {itemMany : Int32} {bowThen : Int32} {doubtThen : Int32} {deedThen : Int32} {sayingThen : Int32} {widths : (Nat → Int32)} {sizes : (Nat → Int32)} {numbers : (Nat → Int64)} {moved : (Nat → Int64)}  {N : Nat} {res : (Nat → Int32) × Int64 × Int32 × (Nat → Int32) × (Nat → Int32) × (Nat → Int64)} (h : f_X8_findAllDoers N now order doubts doubtMany worn pairs isTwice doer doneTo doers = some res) : CtV l yX8_findAllDoers wsX8_findAllDoers rm_X8_findAllDoers G ca ev [.ref h0] (wM ca ev h0 h1 h2 h3 h4 h5 h6 h7 h8 h9 h10 h11 h12 h13 h14 h15 h16 h17 now kept isKept found order doubts doubtMany weights worn pairs isTwice doer doneTo doers tape taped begins ends sort value isWrong items itemMany bowThen doubtThen deedThen sayingThen widths sizes numbers moved) (wM ca ev h0 h1 h2 h3 h4 h5 h6 h7 h8 h9 h10 h11 h12 h13 h14 h15 h16 h17 now kept isKept found order doubts doubtMany weights res.1 res.2.1 res.2.2.1 res.2.2.2.1 res.2.2.2.2.1 res.2.2.2.2.2 tape taped begins ends sort value isWrong items itemMany bowThen doubtThen deedThen sayingThen widths sizes numbers moved) := by
  unfold f_X8_findAllDoers at h
  refine en_v (by decide) rfl (Nat.le_of_ble_eq_true rfl) ?_
  intro p e s m args below meth c A Q H locs ls hx hb hml hown hts hA hP hK hD hE hS hl hRet
  have hown : s.vm.findClass RX8 = some m.cls := hown
  have hl : lv_has ls 3 [(0, .ref h0)] := hl
  have hin_X8 : ∀ w ∈ u_ws RX8 TX8 32, w ∈ wsX8_findAllDoers := fun w h9 => List.mem_cons_of_mem _ (List.mem_append_right _ h9)
  have fk_32 := hts (.fieldLink RX8 32 "MaskBowsModel" "doer" "[I") (by decide +kernel)
  have fk_38 := hts (.fieldLink RX8 38 "MaskBowsModel" "doers" "[J") (by decide +kernel)
  have fk_9 := hts (.fieldLink RX8 9 "MaskBowsModel" "now" "[I") (by decide +kernel)
  refine lv_iconst (v := (0 : Int32)) hx hb dX8_findAllDoers_0 (by decide) ?_
  refine lv_istore_n (lv' := [(1, .int (0 : Int32)), (0, .ref h0)]) hx hb dX8_findAllDoers_1 rfl hl (by decide) rfl (fun ls hl => ?_)
  have L_2 : ∀  {now_2 : (Nat → Int32)} {order_2 : (Nat → Int32)} {doubts_2 : (Nat → Int32)} {doubtMany_2 : Int32} (n_2 : Nat) {x1_2 : Int32} {worn_2 : (Nat → Int32)} {pairs_2 : Int64} {isTwice_2 : Int32} {doer_2 : (Nat → Int32)} {doneTo_2 : (Nat → Int32)} {doers_2 : (Nat → Int64)} {uL_2 : (Nat → Int32) × Int64 × Int32 × (Nat → Int32) × (Nat → Int32) × (Nat → Int64)} {H : Heap} {locs : List Loc} {ls : Array Slot}, f_X8_findAllDoers_2 N now_2 order_2 doubts_2 doubtMany_2  n_2 x1_2 worn_2 pairs_2 isTwice_2 doer_2 doneTo_2 doers_2 = some uL_2 → va_P G vwCl (wM ca ev h0 h1 h2 h3 h4 h5 h6 h7 h8 h9 h10 h11 h12 h13 h14 h15 h16 h17 now_2 kept isKept found order_2 doubts_2 doubtMany_2 weights worn_2 pairs_2 isTwice_2 doer_2 doneTo_2 doers_2 tape taped begins ends sort value isWrong items itemMany bowThen doubtThen deedThen sayingThen widths sizes numbers moved) H → va_D A (wM ca ev h0 h1 h2 h3 h4 h5 h6 h7 h8 h9 h10 h11 h12 h13 h14 h15 h16 h17 now_2 kept isKept found order_2 doubts_2 doubtMany_2 weights worn_2 pairs_2 isTwice_2 doer_2 doneTo_2 doers_2 tape taped begins ends sort value isWrong items itemMany bowThen doubtThen deedThen sayingThen widths sizes numbers moved) → va_S A s.heap H locs → lv_has ls 3 [(0, .ref h0), (1, .int x1_2)] → (∀ {H : Heap} {locs : List Loc} {ls : Array Slot}, va_P G vwCl (wM ca ev h0 h1 h2 h3 h4 h5 h6 h7 h8 h9 h10 h11 h12 h13 h14 h15 h16 h17 now_2 kept isKept found order_2 doubts_2 doubtMany_2 weights uL_2.1 uL_2.2.1 uL_2.2.2.1 uL_2.2.2.2.1 uL_2.2.2.2.2.1 uL_2.2.2.2.2.2 tape taped begins ends sort value isWrong items itemMany bowThen doubtThen deedThen sayingThen widths sizes numbers moved) H → va_D A (wM ca ev h0 h1 h2 h3 h4 h5 h6 h7 h8 h9 h10 h11 h12 h13 h14 h15 h16 h17 now_2 kept isKept found order_2 doubts_2 doubtMany_2 weights uL_2.1 uL_2.2.1 uL_2.2.2.1 uL_2.2.2.2.1 uL_2.2.2.2.2.1 uL_2.2.2.2.2.2 tape taped begins ends sort value isWrong items itemMany bowThen doubtThen deedThen sayingThen widths sizes numbers moved) → va_S A s.heap H locs → lv_has ls 3 [] → W p l e rm_X8_findAllDoers s m args below meth c H locs 0 0 Q (F0 m 66 ls [])) → W p l e rm_X8_findAllDoers s m args below meth c H locs 0 0 Q (F0 m 2 ls []) := by
    intro now_2 order_2 doubts_2 doubtMany_2 n_2
    induction n_2 with
    | zero => intro x1_2 worn_2 pairs_2 isTwice_2 doer_2 doneTo_2 doers_2 uL_2 H locs ls h; exact absurd h (by rw [f_X8_findAllDoers_2]; exact fun z => nomatch z)
    | succ n_2 ih =>
      intro x1_2 worn_2 pairs_2 isTwice_2 doer_2 doneTo_2 doers_2 uL_2 H locs ls h hP hD hS hl JK_2
      rw [f_X8_findAllDoers_2] at h
      refine lv_iload_n hx hb dX8_findAllDoers_2 rfl (lv_at hl 1 rfl) ?_
      refine lv_aload_n hx hb dX8_findAllDoers_3 rfl (lv_at hl 0 rfl) ?_
      obtain ⟨u_1, e_1, h⟩ := bd_some h
      refine cm_Vi (As := []) (rest := [.int x1_2]) ⟨hx, hb, hml, hown, hts⟩ (c_X8_nightsThere (ca := ca) (ev := ev) (h0 := h0) (h1 := h1) (h2 := h2) (h3 := h3) (h4 := h4) (h5 := h5) (h6 := h6) (h7 := h7) (h8 := h8) (h9 := h9) (h10 := h10) (h11 := h11) (h12 := h12) (h13 := h13) (h14 := h14) (h15 := h15) (h16 := h16) (h17 := h17) (now := now_2) (kept := kept) (isKept := isKept) (found := found) (order := order_2) (doubts := doubts_2) (doubtMany := doubtMany_2) (weights := weights) (worn := worn_2) (pairs := pairs_2) (isTwice := isTwice_2) (doer := doer_2) (doneTo := doneTo_2) (doers := doers_2) (tape := tape) (taped := taped) (begins := begins) (ends := ends) (sort := sort) (value := value) (isWrong := isWrong) (items := items) (itemMany := itemMany) (bowThen := bowThen) (doubtThen := doubtThen) (deedThen := deedThen) (sayingThen := sayingThen) (widths := widths) (sizes := sizes) (numbers := numbers) (moved := moved) e_1) (cwV 0 hts gX8_findAllDoers_X8_nightsThere rfl rfl rfl hd_X8_nightsThere ⟨Nat.le_of_ble_eq_true rfl, Nat.le_of_ble_eq_true rfl⟩) hK hP hD hS hA hE (q0 := 0) (ci := 8) rfl rfl rfl rfl hl.1 rfl (Nat.le_of_ble_eq_true rfl) dX8_findAllDoers_4 ⟨Nat.zero_le _, Nat.zero_le _⟩ (fun H locs hP hD hS => ?_)
      refine lv_icmp_ge (tgt := 66) hx hb dX8_findAllDoers_7 (by decide) (fun c_2 => ?_) (fun c_2 => ?_)
      · have h := ifp c_2 h
        obtain rfl := Option.some.inj h
        exact JK_2 hP hD hS (lv_sub hl [] rfl)
      · have h := ifn c_2 h
        refine lv_aload_n hx hb dX8_findAllDoers_10 rfl (lv_at hl 0 rfl) ?_
        refine lv_iload_n hx hb dX8_findAllDoers_11 rfl (lv_at hl 1 rfl) ?_
        obtain ⟨u_3, e_3, h⟩ := bd_some h
        refine cm_Vv (As := [.int x1_2]) (rest := []) ⟨hx, hb, hml, hown, hts⟩ (c_X8_findDoers (ca := ca) (ev := ev) (h0 := h0) (h1 := h1) (h2 := h2) (h3 := h3) (h4 := h4) (h5 := h5) (h6 := h6) (h7 := h7) (h8 := h8) (h9 := h9) (h10 := h10) (h11 := h11) (h12 := h12) (h13 := h13) (h14 := h14) (h15 := h15) (h16 := h16) (h17 := h17) (now := now_2) (kept := kept) (isKept := isKept) (found := found) (order := order_2) (doubts := doubts_2) (doubtMany := doubtMany_2) (weights := weights) (worn := worn_2) (pairs := pairs_2) (isTwice := isTwice_2) (doer := doer_2) (doneTo := doneTo_2) (doers := doers_2) (tape := tape) (taped := taped) (begins := begins) (ends := ends) (sort := sort) (value := value) (isWrong := isWrong) (items := items) (itemMany := itemMany) (bowThen := bowThen) (doubtThen := doubtThen) (deedThen := deedThen) (sayingThen := sayingThen) (widths := widths) (sizes := sizes) (numbers := numbers) (moved := moved) e_3) (cwV 1 hts gX8_findAllDoers_X8_findDoers rfl rfl rfl hd_X8_findDoers ⟨Nat.le_of_ble_eq_true rfl, Nat.le_of_ble_eq_true rfl⟩) hK hP hD hS hA hE (q0 := 0) (ci := 8) rfl rfl rfl rfl hl.1 rfl (Nat.le_of_ble_eq_true rfl) dX8_findAllDoers_12 ⟨Nat.zero_le _, Nat.zero_le _⟩ (fun H locs hP hD hS => ?_)
        refine lv_aload_n hx hb dX8_findAllDoers_15 rfl (lv_at hl 0 rfl) ?_
        refine va_get (D := G) (ci := 8) (v := .ref h10) (C := RX8) (T := TX8) (N := 32) hx hb hts hin_X8 hown hK hP 0 rfl rfl 13 (by decide) fk_38 (fun _ h9 => h9) rfl dX8_findAllDoers_16 ?_
        refine lv_iload_n hx hb dX8_findAllDoers_19 rfl (lv_at hl 1 rfl) ?_
        refine lv_lconst (v := (0 : Int64)) hx hb dX8_findAllDoers_20 (by decide) ?_
        obtain ⟨i_4, h⟩ := gd_some h
        refine va_last hx hb hK hP hD hS 10 1 rfl rfl (ix_in i_4) dX8_findAllDoers_21 (fun H locs hP hD hS => ?_)
        have hP : va_P G vwCl (wM ca ev h0 h1 h2 h3 h4 h5 h6 h7 h8 h9 h10 h11 h12 h13 h14 h15 h16 h17 now_2 kept isKept found order_2 doubts_2 doubtMany_2 weights u_3.1 u_3.2.1 u_3.2.2.1 u_3.2.2.2.1 u_3.2.2.2.2 (vp_updL doers_2 x1_2.toNatClampNeg (0 : Int64)) tape taped begins ends sort value isWrong items itemMany bowThen doubtThen deedThen sayingThen widths sizes numbers moved) H := hP
        have hD : va_D A (wM ca ev h0 h1 h2 h3 h4 h5 h6 h7 h8 h9 h10 h11 h12 h13 h14 h15 h16 h17 now_2 kept isKept found order_2 doubts_2 doubtMany_2 weights u_3.1 u_3.2.1 u_3.2.2.1 u_3.2.2.2.1 u_3.2.2.2.2 (vp_updL doers_2 x1_2.toNatClampNeg (0 : Int64)) tape taped begins ends sort value isWrong items itemMany bowThen doubtThen deedThen sayingThen widths sizes numbers moved) := hD
        refine lv_iconst (v := (0 : Int32)) hx hb dX8_findAllDoers_22 (by decide) ?_
        refine lv_istore_n (lv' := [(2, .int (0 : Int32)), (0, .ref h0), (1, .int x1_2)]) hx hb dX8_findAllDoers_23 rfl hl (by decide) rfl (fun ls hl => ?_)
        have L_24 : ∀ {x1_24 : Int32} {now_24 : (Nat → Int32)} {doer_24 : (Nat → Int32)} (n_24 : Nat) {x2_24 : Int32} {doers_24 : (Nat → Int64)} {uL_24 : (Nat → Int64)} {H : Heap} {locs : List Loc} {ls : Array Slot}, f_X8_findAllDoers_24 x1_24 now_24 doer_24  n_24 x2_24 doers_24 = some uL_24 → va_P G vwCl (wM ca ev h0 h1 h2 h3 h4 h5 h6 h7 h8 h9 h10 h11 h12 h13 h14 h15 h16 h17 now_24 kept isKept found order_2 doubts_2 doubtMany_2 weights u_3.1 u_3.2.1 u_3.2.2.1 doer_24 u_3.2.2.2.2 doers_24 tape taped begins ends sort value isWrong items itemMany bowThen doubtThen deedThen sayingThen widths sizes numbers moved) H → va_D A (wM ca ev h0 h1 h2 h3 h4 h5 h6 h7 h8 h9 h10 h11 h12 h13 h14 h15 h16 h17 now_24 kept isKept found order_2 doubts_2 doubtMany_2 weights u_3.1 u_3.2.1 u_3.2.2.1 doer_24 u_3.2.2.2.2 doers_24 tape taped begins ends sort value isWrong items itemMany bowThen doubtThen deedThen sayingThen widths sizes numbers moved) → va_S A s.heap H locs → lv_has ls 3 [(0, .ref h0), (1, .int x1_24), (2, .int x2_24)] → (∀ {H : Heap} {locs : List Loc} {ls : Array Slot}, va_P G vwCl (wM ca ev h0 h1 h2 h3 h4 h5 h6 h7 h8 h9 h10 h11 h12 h13 h14 h15 h16 h17 now_24 kept isKept found order_2 doubts_2 doubtMany_2 weights u_3.1 u_3.2.1 u_3.2.2.1 doer_24 u_3.2.2.2.2 uL_24 tape taped begins ends sort value isWrong items itemMany bowThen doubtThen deedThen sayingThen widths sizes numbers moved) H → va_D A (wM ca ev h0 h1 h2 h3 h4 h5 h6 h7 h8 h9 h10 h11 h12 h13 h14 h15 h16 h17 now_24 kept isKept found order_2 doubts_2 doubtMany_2 weights u_3.1 u_3.2.1 u_3.2.2.1 doer_24 u_3.2.2.2.2 uL_24 tape taped begins ends sort value isWrong items itemMany bowThen doubtThen deedThen sayingThen widths sizes numbers moved) → va_S A s.heap H locs → lv_has ls 3 [(0, .ref h0), (1, .int x1_24)] → W p l e rm_X8_findAllDoers s m args below meth c H locs 0 0 Q (F0 m 60 ls [])) → W p l e rm_X8_findAllDoers s m args below meth c H locs 0 0 Q (F0 m 24 ls []) := by
          intro x1_24 now_24 doer_24 n_24
          induction n_24 with
          | zero => intro x2_24 doers_24 uL_24 H locs ls h; exact absurd h (by rw [f_X8_findAllDoers_24]; exact fun z => nomatch z)
          | succ n_24 ih =>
            intro x2_24 doers_24 uL_24 H locs ls h hP hD hS hl JK_24
            rw [f_X8_findAllDoers_24] at h
            refine lv_iload_n hx hb dX8_findAllDoers_24 rfl (lv_at hl 2 rfl) ?_
            refine lv_aload_n hx hb dX8_findAllDoers_25 rfl (lv_at hl 0 rfl) ?_
            refine va_get (D := G) (ci := 8) (v := .ref h1) (C := RX8) (T := TX8) (N := 32) hx hb hts hin_X8 hown hK hP 0 rfl rfl 0 (by decide) fk_9 (fun _ h9 => h9) rfl dX8_findAllDoers_26 ?_
            refine lv_iconst (v := (4 : Int32)) hx hb dX8_findAllDoers_29 (by decide) ?_
            refine va_iald hx hb hK hP 1 0 rfl rfl (ix_in (by decide)) dX8_findAllDoers_30 ?_
            refine lv_icmp_ge (tgt := 60) hx hb dX8_findAllDoers_31 (by decide) (fun c_5 => ?_) (fun c_5 => ?_)
            · have h := ifp c_5 h
              obtain rfl := Option.some.inj h
              exact JK_24 hP hD hS (lv_sub hl [0, 1] rfl)
            · have h := ifn c_5 h
              refine lv_aload_n hx hb dX8_findAllDoers_34 rfl (lv_at hl 0 rfl) ?_
              refine va_get (D := G) (ci := 8) (v := .ref h10) (C := RX8) (T := TX8) (N := 32) hx hb hts hin_X8 hown hK hP 0 rfl rfl 13 (by decide) fk_38 (fun _ h9 => h9) rfl dX8_findAllDoers_35 ?_
              refine lv_iload_n hx hb dX8_findAllDoers_38 rfl (lv_at hl 1 rfl) ?_
              refine lv_dup2_11 hx hb dX8_findAllDoers_39 rfl rfl ?_
              obtain ⟨i_6, h⟩ := gd_some h
              refine va_lald hx hb hK hP 10 1 rfl rfl (ix_in i_6) dX8_findAllDoers_40 ?_
              refine lv_aload_n hx hb dX8_findAllDoers_41 rfl (lv_at hl 0 rfl) ?_
              refine va_get (D := G) (ci := 8) (v := .ref h8) (C := RX8) (T := TX8) (N := 32) hx hb hts hin_X8 hown hK hP 0 rfl rfl 11 (by decide) fk_32 (fun _ h9 => h9) rfl dX8_findAllDoers_42 ?_
              refine lv_iload_n hx hb dX8_findAllDoers_45 rfl (lv_at hl 2 rfl) ?_
              obtain ⟨i_7, h⟩ := gd_some h
              refine va_iald hx hb hK hP 8 0 rfl rfl (ix_in i_7) dX8_findAllDoers_46 ?_
              refine lv_i2l (v := (doer_24 x2_24.toNatClampNeg).toInt64) hx hb dX8_findAllDoers_47 rfl ?_
              refine lv_iconst (v := (3 : Int32)) hx hb dX8_findAllDoers_48 (by decide) ?_
              refine lv_iload_n hx hb dX8_findAllDoers_49 rfl (lv_at hl 2 rfl) ?_
              refine lv_imul hx hb dX8_findAllDoers_50 ?_
              refine lv_lshl (v := ((doer_24 x2_24.toNatClampNeg).toInt64 <<< (((3 : Int32) * x2_24).toInt64 &&& 63))) hx hb dX8_findAllDoers_51 rfl ?_
              refine lv_lor hx hb dX8_findAllDoers_52 ?_
              refine va_last hx hb hK hP hD hS 10 1 rfl rfl (ix_in i_6) dX8_findAllDoers_53 (fun H locs hP hD hS => ?_)
              have hP : va_P G vwCl (wM ca ev h0 h1 h2 h3 h4 h5 h6 h7 h8 h9 h10 h11 h12 h13 h14 h15 h16 h17 now_24 kept isKept found order_2 doubts_2 doubtMany_2 weights u_3.1 u_3.2.1 u_3.2.2.1 doer_24 u_3.2.2.2.2 (vp_updL doers_24 x1_24.toNatClampNeg ((doers_24 x1_24.toNatClampNeg) ||| ((doer_24 x2_24.toNatClampNeg).toInt64 <<< (((3 : Int32) * x2_24).toInt64 &&& 63)))) tape taped begins ends sort value isWrong items itemMany bowThen doubtThen deedThen sayingThen widths sizes numbers moved) H := hP
              have hD : va_D A (wM ca ev h0 h1 h2 h3 h4 h5 h6 h7 h8 h9 h10 h11 h12 h13 h14 h15 h16 h17 now_24 kept isKept found order_2 doubts_2 doubtMany_2 weights u_3.1 u_3.2.1 u_3.2.2.1 doer_24 u_3.2.2.2.2 (vp_updL doers_24 x1_24.toNatClampNeg ((doers_24 x1_24.toNatClampNeg) ||| ((doer_24 x2_24.toNatClampNeg).toInt64 <<< (((3 : Int32) * x2_24).toInt64 &&& 63)))) tape taped begins ends sort value isWrong items itemMany bowThen doubtThen deedThen sayingThen widths sizes numbers moved) := hD
              refine lv_iinc (v := (x2_24 + (1 : Int32))) (lv' := [(2, .int (x2_24 + (1 : Int32))), (0, .ref h0), (1, .int x1_24)]) hx hb dX8_findAllDoers_54 hl (k := 2) rfl rfl (by decide) rfl (fun ls hl => ?_)
              refine lv_goto (tgt := 24) hx hb dX8_findAllDoers_57 (by decide) ?_
              exact ih h hP hD hS (lv_sub hl [1, 2, 0] rfl) JK_24
        obtain ⟨u_8, e_8, h⟩ := bd_some h
        refine L_24 _ e_8 hP hD hS (lv_sub hl [1, 2, 0] rfl) ?_
        intro H locs ls hP hD hS hl
        refine lv_iinc (v := (x1_2 + (1 : Int32))) (lv' := [(1, .int (x1_2 + (1 : Int32))), (0, .ref h0)]) hx hb dX8_findAllDoers_60 hl (k := 1) rfl rfl (by decide) rfl (fun ls hl => ?_)
        refine lv_goto (tgt := 2) hx hb dX8_findAllDoers_63 (by decide) ?_
        exact ih h hP hD hS (lv_sub hl [1, 0] rfl) JK_2
  obtain ⟨u_9, e_9, h⟩ := bd_some h
  refine L_2 _ e_9 hP hD hS (lv_sub hl [1, 0] rfl) ?_
  intro H locs ls hP hD hS hl
  obtain rfl := Option.some.inj h
  exact hRet hP hD hS dX8_findAllDoers_66
abbrev rm_X8_isEnough : Room := { frames := 1, cells := 0, slots := 0, locals := 20 }
theorem hd_X8_isEnough : yX8_isEnough.cls = RX8 ∧ yX8_isEnough.cls ≠ "java/lang/invoke/MethodHandle" ∧ yX8_isEnough.cls ≠ "java/lang/invoke/VarHandle" ∧ (parseMethodDescriptor yX8_isEnough.desc).map (fun d => d.parameters.length) = some 1 := by decide +kernel
set_option maxHeartbeats 4000000 in
set_option maxRecDepth 100000 in
theorem c_X8_isEnough {l : Launch} {G : va_G} {ca : Nat → ClassId} {ev : Nat → Nat} {h0 h1 h2 h3 h4 h5 h6 h7 h8 h9 h10 h11 h12 h13 h14 h15 h16 h17 : Nat} {now : (Nat → Int32)} {kept : (Nat → Int32)} {isKept : Int32} {found : (Nat → Int32)} {order : (Nat → Int32)} {doubts : (Nat → Int32)} {doubtMany : Int32} {weights : (Nat → Int64)} {worn : (Nat → Int32)} {pairs : Int64} {isTwice : Int32} {doer : (Nat → Int32)} {doneTo : (Nat → Int32)} {doers : (Nat → Int64)} {tape : (Nat → Int32)} {taped : Int32} {begins : Int32} {ends : Int32} {sort : Int32} {value : Int32} {isWrong : Int32} {items : (Nat → Int32)} {itemMany : Int32} {bowThen : Int32} {doubtThen : Int32} {deedThen : Int32} {sayingThen : Int32} {widths : (Nat → Int32)} {sizes : (Nat → Int32)} {numbers : (Nat → Int64)} {moved : (Nat → Int64)} {a1 : Int32} {N : Nat} {res : Int32} (h : f_X8_isEnough N doubtMany weights doers a1 = some res) : CtI l yX8_isEnough wsX8_isEnough rm_X8_isEnough G ca ev [.ref h0, .int a1] (wM ca ev h0 h1 h2 h3 h4 h5 h6 h7 h8 h9 h10 h11 h12 h13 h14 h15 h16 h17 now kept isKept found order doubts doubtMany weights worn pairs isTwice doer doneTo doers tape taped begins ends sort value isWrong items itemMany bowThen doubtThen deedThen sayingThen widths sizes numbers moved) (wM ca ev h0 h1 h2 h3 h4 h5 h6 h7 h8 h9 h10 h11 h12 h13 h14 h15 h16 h17 now kept isKept found order doubts doubtMany weights worn pairs isTwice doer doneTo doers tape taped begins ends sort value isWrong items itemMany bowThen doubtThen deedThen sayingThen widths sizes numbers moved) res := by
  unfold f_X8_isEnough at h
  refine en_z (by decide) rfl (Nat.le_of_ble_eq_true rfl) ?_
  intro p e s m args below meth c A Q H locs ls hx hb hml hown hts hA hP hK hD hE hS hl hRet
  have hown : s.vm.findClass RX8 = some m.cls := hown
  have hl : lv_has ls 5 [(0, .ref h0), (1, .int a1)] := hl
  have hin_X8 : ∀ w ∈ u_ws RX8 TX8 32, w ∈ wsX8_isEnough := fun w h9 => List.mem_cons_of_mem _ (List.mem_append_right _ h9)
  have fk_25 := hts (.fieldLink RX8 25 "MaskBowsModel" "weights" "[J") (by decide +kernel)
  have fk_38 := hts (.fieldLink RX8 38 "MaskBowsModel" "doers" "[J") (by decide +kernel)
  refine lv_iconst (v := (1 : Int32)) hx hb dX8_isEnough_0 (by decide) ?_
  refine lv_istore_n (lv' := [(2, .int (1 : Int32)), (0, .ref h0), (1, .int a1)]) hx hb dX8_isEnough_1 rfl hl (by decide) rfl (fun ls hl => ?_)
  refine lv_iconst (v := (0 : Int32)) hx hb dX8_isEnough_2 (by decide) ?_
  refine lv_istore_n (lv' := [(3, .int (0 : Int32)), (2, .int (1 : Int32)), (0, .ref h0), (1, .int a1)]) hx hb dX8_isEnough_3 rfl hl (by decide) rfl (fun ls hl => ?_)
  have L_4 : ∀ {x1_4 : Int32} {doubtMany_4 : Int32} {weights_4 : (Nat → Int64)} {doers_4 : (Nat → Int64)} (n_4 : Nat) {x2_4 : Int32} {x3_4 : Int32} {uL_4 : Int32} {H : Heap} {locs : List Loc} {ls : Array Slot}, f_X8_isEnough_4 N x1_4 doubtMany_4 weights_4 doers_4  n_4 x2_4 x3_4 = some uL_4 → va_P G vwCl (wM ca ev h0 h1 h2 h3 h4 h5 h6 h7 h8 h9 h10 h11 h12 h13 h14 h15 h16 h17 now kept isKept found order doubts doubtMany_4 weights_4 worn pairs isTwice doer doneTo doers_4 tape taped begins ends sort value isWrong items itemMany bowThen doubtThen deedThen sayingThen widths sizes numbers moved) H → va_D A (wM ca ev h0 h1 h2 h3 h4 h5 h6 h7 h8 h9 h10 h11 h12 h13 h14 h15 h16 h17 now kept isKept found order doubts doubtMany_4 weights_4 worn pairs isTwice doer doneTo doers_4 tape taped begins ends sort value isWrong items itemMany bowThen doubtThen deedThen sayingThen widths sizes numbers moved) → va_S A s.heap H locs → lv_has ls 5 [(0, .ref h0), (1, .int x1_4), (2, .int x2_4), (3, .int x3_4)] → (∀ {H : Heap} {locs : List Loc} {ls : Array Slot}, va_P G vwCl (wM ca ev h0 h1 h2 h3 h4 h5 h6 h7 h8 h9 h10 h11 h12 h13 h14 h15 h16 h17 now kept isKept found order doubts doubtMany_4 weights_4 worn pairs isTwice doer doneTo doers_4 tape taped begins ends sort value isWrong items itemMany bowThen doubtThen deedThen sayingThen widths sizes numbers moved) H → va_D A (wM ca ev h0 h1 h2 h3 h4 h5 h6 h7 h8 h9 h10 h11 h12 h13 h14 h15 h16 h17 now kept isKept found order doubts doubtMany_4 weights_4 worn pairs isTwice doer doneTo doers_4 tape taped begins ends sort value isWrong items itemMany bowThen doubtThen deedThen sayingThen widths sizes numbers moved) → va_S A s.heap H locs → lv_has ls 5 [(2, .int uL_4)] → W p l e rm_X8_isEnough s m args below meth c H locs 0 0 Q (F0 m 93 ls [])) → W p l e rm_X8_isEnough s m args below meth c H locs 0 0 Q (F0 m 4 ls []) := by
    intro x1_4 doubtMany_4 weights_4 doers_4 n_4
    induction n_4 with
    | zero => intro x2_4 x3_4 uL_4 H locs ls h; exact absurd h (by rw [f_X8_isEnough_4]; exact fun z => nomatch z)
    | succ n_4 ih =>
      intro x2_4 x3_4 uL_4 H locs ls h hP hD hS hl JK_4
      rw [f_X8_isEnough_4] at h
      refine lv_iload_n hx hb dX8_isEnough_4 rfl (lv_at hl 3 rfl) ?_
      refine lv_aload_n hx hb dX8_isEnough_5 rfl (lv_at hl 0 rfl) ?_
      obtain ⟨u_1, e_1, h⟩ := bd_some h
      refine cm_Vi (As := []) (rest := [.int x3_4]) ⟨hx, hb, hml, hown, hts⟩ (c_X8_nightsThere (ca := ca) (ev := ev) (h0 := h0) (h1 := h1) (h2 := h2) (h3 := h3) (h4 := h4) (h5 := h5) (h6 := h6) (h7 := h7) (h8 := h8) (h9 := h9) (h10 := h10) (h11 := h11) (h12 := h12) (h13 := h13) (h14 := h14) (h15 := h15) (h16 := h16) (h17 := h17) (now := now) (kept := kept) (isKept := isKept) (found := found) (order := order) (doubts := doubts) (doubtMany := doubtMany_4) (weights := weights_4) (worn := worn) (pairs := pairs) (isTwice := isTwice) (doer := doer) (doneTo := doneTo) (doers := doers_4) (tape := tape) (taped := taped) (begins := begins) (ends := ends) (sort := sort) (value := value) (isWrong := isWrong) (items := items) (itemMany := itemMany) (bowThen := bowThen) (doubtThen := doubtThen) (deedThen := deedThen) (sayingThen := sayingThen) (widths := widths) (sizes := sizes) (numbers := numbers) (moved := moved) e_1) (cwV 0 hts gX8_isEnough_X8_nightsThere rfl rfl rfl hd_X8_nightsThere ⟨Nat.le_of_ble_eq_true rfl, Nat.le_of_ble_eq_true rfl⟩) hK hP hD hS hA hE (q0 := 0) (ci := 8) rfl rfl rfl rfl hl.1 rfl (Nat.le_of_ble_eq_true rfl) dX8_isEnough_6 ⟨Nat.zero_le _, Nat.zero_le _⟩ (fun H locs hP hD hS => ?_)
      refine lv_icmp_ge (tgt := 93) hx hb dX8_isEnough_9 (by decide) (fun c_2 => ?_) (fun c_2 => ?_)
      · have h := ifp c_2 h
        obtain rfl := Option.some.inj h
        exact JK_4 hP hD hS (lv_sub hl [2] rfl)
      · have h := ifn c_2 h
        refine lv_iconst (v := (0 : Int32)) hx hb dX8_isEnough_12 (by decide) ?_
        refine lv_istore (lv' := [(4, .int (0 : Int32)), (0, .ref h0), (1, .int x1_4), (2, .int x2_4), (3, .int x3_4)]) hx hb dX8_isEnough_13 hl (by decide) rfl (fun ls hl => ?_)
        have L_15 : ∀ {x1_15 : Int32} {x3_15 : Int32} {weights_15 : (Nat → Int64)} {doers_15 : (Nat → Int64)} (n_15 : Nat) {x2_15 : Int32} {x4_15 : Int32} {uL_15 : Int32} {H : Heap} {locs : List Loc} {ls : Array Slot}, f_X8_isEnough_15 x1_15 x3_15 weights_15 doers_15  n_15 x2_15 x4_15 = some uL_15 → va_P G vwCl (wM ca ev h0 h1 h2 h3 h4 h5 h6 h7 h8 h9 h10 h11 h12 h13 h14 h15 h16 h17 now kept isKept found order doubts doubtMany_4 weights_15 worn pairs isTwice doer doneTo doers_15 tape taped begins ends sort value isWrong items itemMany bowThen doubtThen deedThen sayingThen widths sizes numbers moved) H → va_D A (wM ca ev h0 h1 h2 h3 h4 h5 h6 h7 h8 h9 h10 h11 h12 h13 h14 h15 h16 h17 now kept isKept found order doubts doubtMany_4 weights_15 worn pairs isTwice doer doneTo doers_15 tape taped begins ends sort value isWrong items itemMany bowThen doubtThen deedThen sayingThen widths sizes numbers moved) → va_S A s.heap H locs → lv_has ls 5 [(0, .ref h0), (1, .int x1_15), (2, .int x2_15), (3, .int x3_15), (4, .int x4_15)] → (∀ {H : Heap} {locs : List Loc} {ls : Array Slot}, va_P G vwCl (wM ca ev h0 h1 h2 h3 h4 h5 h6 h7 h8 h9 h10 h11 h12 h13 h14 h15 h16 h17 now kept isKept found order doubts doubtMany_4 weights_15 worn pairs isTwice doer doneTo doers_15 tape taped begins ends sort value isWrong items itemMany bowThen doubtThen deedThen sayingThen widths sizes numbers moved) H → va_D A (wM ca ev h0 h1 h2 h3 h4 h5 h6 h7 h8 h9 h10 h11 h12 h13 h14 h15 h16 h17 now kept isKept found order doubts doubtMany_4 weights_15 worn pairs isTwice doer doneTo doers_15 tape taped begins ends sort value isWrong items itemMany bowThen doubtThen deedThen sayingThen widths sizes numbers moved) → va_S A s.heap H locs → lv_has ls 5 [(0, .ref h0), (1, .int x1_15), (2, .int uL_15), (3, .int x3_15)] → W p l e rm_X8_isEnough s m args below meth c H locs 0 0 Q (F0 m 87 ls [])) → W p l e rm_X8_isEnough s m args below meth c H locs 0 0 Q (F0 m 15 ls []) := by
          intro x1_15 x3_15 weights_15 doers_15 n_15
          induction n_15 with
          | zero => intro x2_15 x4_15 uL_15 H locs ls h; exact absurd h (by rw [f_X8_isEnough_15]; exact fun z => nomatch z)
          | succ n_15 ih =>
            intro x2_15 x4_15 uL_15 H locs ls h hP hD hS hl JK_15
            rw [f_X8_isEnough_15] at h
            refine lv_iload hx hb dX8_isEnough_15 (lv_at hl 4 rfl) ?_
            refine lv_iload_n hx hb dX8_isEnough_17 rfl (lv_at hl 3 rfl) ?_
            refine lv_icmp_ge (tgt := 87) hx hb dX8_isEnough_18 (by decide) (fun c_3 => ?_) (fun c_3 => ?_)
            · have h := ifp c_3 h
              obtain rfl := Option.some.inj h
              exact JK_15 hP hD hS (lv_sub hl [0, 1, 2, 3] rfl)
            · have h := ifn c_3 h
              refine lv_aload_n hx hb dX8_isEnough_21 rfl (lv_at hl 0 rfl) ?_
              refine va_get (D := G) (ci := 8) (v := .ref h6) (C := RX8) (T := TX8) (N := 32) hx hb hts hin_X8 hown hK hP 0 rfl rfl 7 (by decide) fk_25 (fun _ h9 => h9) rfl dX8_isEnough_22 ?_
              refine lv_iload_n hx hb dX8_isEnough_25 rfl (lv_at hl 3 rfl) ?_
              obtain ⟨i_4, h⟩ := gd_some h
              refine va_lald hx hb hK hP 6 1 rfl rfl (ix_in i_4) dX8_isEnough_26 ?_
              refine lv_lconst (v := (0 : Int64)) hx hb dX8_isEnough_27 (by decide) ?_
              refine W.lcmp hx hb dX8_isEnough_28 ?_
              refine lv_if_le (tgt := 87) hx hb dX8_isEnough_29 (by decide) (fun c_5 => ?_) (fun c_5 => ?_)
              · have h := ifp c_5 h
                obtain rfl := Option.some.inj h
                exact JK_15 hP hD hS (lv_sub hl [0, 1, 2, 3] rfl)
              · have h := ifn c_5 h
                refine lv_iload_n hx hb dX8_isEnough_32 rfl (lv_at hl 2 rfl) ?_
                obtain ⟨u_6, e_6, h⟩ := bd_some h
                have J_6 : ∀ {H : Heap} {locs : List Loc} {ls : Array Slot}, va_P G vwCl (wM ca ev h0 h1 h2 h3 h4 h5 h6 h7 h8 h9 h10 h11 h12 h13 h14 h15 h16 h17 now kept isKept found order doubts doubtMany_4 weights_15 worn pairs isTwice doer doneTo doers_15 tape taped begins ends sort value isWrong items itemMany bowThen doubtThen deedThen sayingThen widths sizes numbers moved) H → va_D A (wM ca ev h0 h1 h2 h3 h4 h5 h6 h7 h8 h9 h10 h11 h12 h13 h14 h15 h16 h17 now kept isKept found order doubts doubtMany_4 weights_15 worn pairs isTwice doer doneTo doers_15 tape taped begins ends sort value isWrong items itemMany bowThen doubtThen deedThen sayingThen widths sizes numbers moved) → va_S A s.heap H locs → lv_has ls 5 [(0, .ref h0), (1, .int x1_15), (3, .int x3_15), (4, .int x4_15)] → (u_6 = 0 ∨ u_6 = 1) → W p l e rm_X8_isEnough s m args below meth c H locs 0 0 Q (F0 m 80 ls [.int u_6]) := by
                  intro H locs ls hP hD hS hl zj_6_0
                  refine lv_istore_n (lv' := [(2, .int u_6), (0, .ref h0), (1, .int x1_15), (3, .int x3_15), (4, .int x4_15)]) hx hb dX8_isEnough_80 rfl hl (by decide) rfl (fun ls hl => ?_)
                  refine lv_iinc (v := (x4_15 + (1 : Int32))) (lv' := [(4, .int (x4_15 + (1 : Int32))), (2, .int u_6), (0, .ref h0), (1, .int x1_15), (3, .int x3_15)]) hx hb dX8_isEnough_81 hl (k := 4) rfl rfl (by decide) rfl (fun ls hl => ?_)
                  refine lv_goto (tgt := 15) hx hb dX8_isEnough_84 (by decide) ?_
                  exact ih h hP hD hS (lv_sub hl [2, 3, 1, 4, 0] rfl) JK_15
                have h := e_6
                clear e_6
                refine lv_if_eq (tgt := 79) hx hb dX8_isEnough_33 (by decide) (fun c_6 => ?_) (fun c_6 => ?_)
                · have h := ifp c_6 h
                  refine lv_iconst (v := (0 : Int32)) hx hb dX8_isEnough_79 (by decide) ?_
                  obtain rfl := Option.some.inj h
                  exact J_6 hP hD hS (lv_sub hl [0, 1, 3, 4] rfl) zb_0
                · have h := ifn c_6 h
                  refine lv_aload_n hx hb dX8_isEnough_36 rfl (lv_at hl 0 rfl) ?_
                  refine va_get (D := G) (ci := 8) (v := .ref h6) (C := RX8) (T := TX8) (N := 32) hx hb hts hin_X8 hown hK hP 0 rfl rfl 7 (by decide) fk_25 (fun _ h9 => h9) rfl dX8_isEnough_37 ?_
                  refine lv_iload hx hb dX8_isEnough_40 (lv_at hl 4 rfl) ?_
                  obtain ⟨i_7, h⟩ := gd_some h
                  refine va_lald hx hb hK hP 6 1 rfl rfl (ix_in i_7) dX8_isEnough_42 ?_
                  refine lv_lconst (v := (0 : Int64)) hx hb dX8_isEnough_43 (by decide) ?_
                  refine W.lcmp hx hb dX8_isEnough_44 ?_
                  refine lv_if_eq (tgt := 75) hx hb dX8_isEnough_45 (by decide) (fun c_8 => ?_) (fun c_8 => ?_)
                  · have h := ifp c_8 h
                    refine lv_iconst (v := (1 : Int32)) hx hb dX8_isEnough_75 (by decide) ?_
                    refine lv_goto (tgt := 80) hx hb dX8_isEnough_76 (by decide) ?_
                    obtain rfl := Option.some.inj h
                    exact J_6 hP hD hS (lv_sub hl [0, 1, 3, 4] rfl) zb_1
                  · have h := ifn c_8 h
                    refine lv_iload_n hx hb dX8_isEnough_48 rfl (lv_at hl 3 rfl) ?_
                    refine lv_iload_n hx hb dX8_isEnough_49 rfl (lv_at hl 1 rfl) ?_
                    refine lv_iand hx hb dX8_isEnough_50 ?_
                    refine lv_iload hx hb dX8_isEnough_51 (lv_at hl 4 rfl) ?_
                    refine lv_iload_n hx hb dX8_isEnough_53 rfl (lv_at hl 1 rfl) ?_
                    refine lv_iand hx hb dX8_isEnough_54 ?_
                    refine lv_icmp_ne (tgt := 75) hx hb dX8_isEnough_55 (by decide) (fun c_9 => ?_) (fun c_9 => ?_)
                    · have h := ifn c_9 h
                      refine lv_iconst (v := (1 : Int32)) hx hb dX8_isEnough_75 (by decide) ?_
                      refine lv_goto (tgt := 80) hx hb dX8_isEnough_76 (by decide) ?_
                      obtain rfl := Option.some.inj h
                      exact J_6 hP hD hS (lv_sub hl [0, 1, 3, 4] rfl) zb_1
                    · have h := ifp c_9 h
                      refine lv_aload_n hx hb dX8_isEnough_58 rfl (lv_at hl 0 rfl) ?_
                      refine va_get (D := G) (ci := 8) (v := .ref h10) (C := RX8) (T := TX8) (N := 32) hx hb hts hin_X8 hown hK hP 0 rfl rfl 13 (by decide) fk_38 (fun _ h9 => h9) rfl dX8_isEnough_59 ?_
                      refine lv_iload_n hx hb dX8_isEnough_62 rfl (lv_at hl 3 rfl) ?_
                      refine va_lald hx hb hK hP 10 1 rfl rfl (ix_in i_4) dX8_isEnough_63 ?_
                      refine lv_aload_n hx hb dX8_isEnough_64 rfl (lv_at hl 0 rfl) ?_
                      refine va_get (D := G) (ci := 8) (v := .ref h10) (C := RX8) (T := TX8) (N := 32) hx hb hts hin_X8 hown hK hP 0 rfl rfl 13 (by decide) fk_38 (fun _ h9 => h9) rfl dX8_isEnough_65 ?_
                      refine lv_iload hx hb dX8_isEnough_68 (lv_at hl 4 rfl) ?_
                      refine va_lald hx hb hK hP 10 1 rfl rfl (ix_in i_7) dX8_isEnough_70 ?_
                      refine W.lcmp hx hb dX8_isEnough_71 ?_
                      refine lv_if_ne (tgt := 79) hx hb dX8_isEnough_72 (by decide) (fun c_10 => ?_) (fun c_10 => ?_)
                      · have h := ifn c_10 h
                        refine lv_iconst (v := (0 : Int32)) hx hb dX8_isEnough_79 (by decide) ?_
                        obtain rfl := Option.some.inj h
                        exact J_6 hP hD hS (lv_sub hl [0, 1, 3, 4] rfl) zb_0
                      · have h := ifp c_10 h
                        refine lv_iconst (v := (1 : Int32)) hx hb dX8_isEnough_75 (by decide) ?_
                        refine lv_goto (tgt := 80) hx hb dX8_isEnough_76 (by decide) ?_
                        obtain rfl := Option.some.inj h
                        exact J_6 hP hD hS (lv_sub hl [0, 1, 3, 4] rfl) zb_1
        obtain ⟨u_11, e_11, h⟩ := bd_some h
        refine L_15 _ e_11 hP hD hS (lv_sub hl [1, 2, 3, 4, 0] rfl) ?_
        intro H locs ls hP hD hS hl
        refine lv_iinc (v := (x3_4 + (1 : Int32))) (lv' := [(3, .int (x3_4 + (1 : Int32))), (0, .ref h0), (1, .int x1_4), (2, .int u_11)]) hx hb dX8_isEnough_87 hl (k := 3) rfl rfl (by decide) rfl (fun ls hl => ?_)
        refine lv_goto (tgt := 4) hx hb dX8_isEnough_90 (by decide) ?_
        exact ih h hP hD hS (lv_sub hl [1, 2, 3, 0] rfl) JK_4
  obtain ⟨u_12, e_12, h⟩ := bd_some h
  refine L_4 _ e_12 hP hD hS (lv_sub hl [2, 3, 1, 0] rfl) ?_
  intro H locs ls hP hD hS hl
  refine lv_iload_n hx hb dX8_isEnough_93 rfl (lv_at hl 0 rfl) ?_
  obtain ⟨z_13, h⟩ := gd_some h
  obtain rfl := Option.some.inj h
  exact hRet hP hD hS (isb_or z_13) dX8_isEnough_94
abbrev rm_X8_bits : Room := { frames := 0, cells := 0, slots := 0, locals := 0 }
theorem hd_X8_bits : yX8_bits.cls ≠ "java/lang/invoke/MethodHandle" ∧ yX8_bits.cls ≠ "java/lang/invoke/VarHandle" ∧ (parseMethodDescriptor yX8_bits.desc).map (fun d => d.parameters.length) = some 1 := by decide +kernel
set_option maxHeartbeats 4000000 in
set_option maxRecDepth 100000 in
theorem c_X8_bits {l : Launch} {G : va_G} {ca : Nat → ClassId} {ev : Nat → Nat}  {a0 : Int32} {N : Nat} {res : Int32} (h : f_X8_bits N a0 = some res) : CtI l yX8_bits wsX8_bits rm_X8_bits G ca ev [.int a0] [] [] res := by
  unfold f_X8_bits at h
  refine en_i (by decide) rfl (Nat.le_of_ble_eq_true rfl) ?_
  intro p e s m args below meth c A Q H locs ls hx hb hml hown hts hA hP hK hD hE hS hl hRet
  have hown : s.vm.findClass RX8 = some m.cls := hown
  have hl : lv_has ls 3 [(0, .int a0)] := hl
  refine lv_iconst (v := (0 : Int32)) hx hb dX8_bits_0 (by decide) ?_
  refine lv_istore_n (lv' := [(1, .int (0 : Int32)), (0, .int a0)]) hx hb dX8_bits_1 rfl hl (by decide) rfl (fun ls hl => ?_)
  refine lv_iload_n hx hb dX8_bits_2 rfl (lv_at hl 1 rfl) ?_
  refine lv_istore_n (lv' := [(2, .int a0), (1, .int (0 : Int32)), (0, .int a0)]) hx hb dX8_bits_3 rfl hl (by decide) rfl (fun ls hl => ?_)
  have L_4 : ∀   (n_4 : Nat) {x1_4 : Int32} {x2_4 : Int32} {uL_4 : Int32} {H : Heap} {locs : List Loc} {ls : Array Slot}, f_X8_bits_4   n_4 x1_4 x2_4 = some uL_4 → va_P G vwCl [] H → va_D A [] → va_S A s.heap H locs → lv_has ls 3 [(1, .int x1_4), (2, .int x2_4)] → (∀ {H : Heap} {locs : List Loc} {ls : Array Slot}, va_P G vwCl [] H → va_D A [] → va_S A s.heap H locs → lv_has ls 3 [(1, .int uL_4)] → W p l e rm_X8_bits s m args below meth c H locs 0 0 Q (F0 m 20 ls [])) → W p l e rm_X8_bits s m args below meth c H locs 0 0 Q (F0 m 4 ls []) := by
    intro n_4
    induction n_4 with
    | zero => intro x1_4 x2_4 uL_4 H locs ls h; exact absurd h (by rw [f_X8_bits_4]; exact fun z => nomatch z)
    | succ n_4 ih =>
      intro x1_4 x2_4 uL_4 H locs ls h hP hD hS hl JK_4
      rw [f_X8_bits_4] at h
      refine lv_iload_n hx hb dX8_bits_4 rfl (lv_at hl 1 rfl) ?_
      refine lv_if_eq (tgt := 20) hx hb dX8_bits_5 (by decide) (fun c_1 => ?_) (fun c_1 => ?_)
      · have h := ifp c_1 h
        obtain rfl := Option.some.inj h
        exact JK_4 hP hD hS (lv_sub hl [0] rfl)
      · have h := ifn c_1 h
        refine lv_iinc (v := (x1_4 + (1 : Int32))) (lv' := [(1, .int (x1_4 + (1 : Int32))), (2, .int x2_4)]) hx hb dX8_bits_8 hl (k := 0) rfl rfl (by decide) rfl (fun ls hl => ?_)
        refine lv_iload_n hx hb dX8_bits_11 rfl (lv_at hl 1 rfl) ?_
        refine lv_iload_n hx hb dX8_bits_12 rfl (lv_at hl 1 rfl) ?_
        refine lv_iconst (v := (1 : Int32)) hx hb dX8_bits_13 (by decide) ?_
        refine lv_isub hx hb dX8_bits_14 ?_
        refine lv_iand hx hb dX8_bits_15 ?_
        refine lv_istore_n (lv' := [(2, .int (x2_4 &&& (x2_4 - (1 : Int32)))), (1, .int (x1_4 + (1 : Int32)))]) hx hb dX8_bits_16 rfl hl (by decide) rfl (fun ls hl => ?_)
        refine lv_goto (tgt := 4) hx hb dX8_bits_17 (by decide) ?_
        exact ih h hP hD hS (lv_sub hl [1, 0] rfl) JK_4
  obtain ⟨u_2, e_2, h⟩ := bd_some h
  refine L_4 _ e_2 hP hD hS (lv_sub hl [1, 0] rfl) ?_
  intro H locs ls hP hD hS hl
  refine lv_iload_n hx hb dX8_bits_20 rfl (lv_at hl 0 rfl) ?_
  obtain rfl := Option.some.inj h
  exact hRet hP hD hS dX8_bits_21
abbrev rm_X8_witnesses : Room := { frames := 5, cells := 0, slots := 0, locals := 120 }
theorem hd_X8_witnesses : yX8_witnesses.cls = RX8 ∧ yX8_witnesses.cls ≠ "java/lang/invoke/MethodHandle" ∧ yX8_witnesses.cls ≠ "java/lang/invoke/VarHandle" ∧ (parseMethodDescriptor yX8_witnesses.desc).map (fun d => d.parameters.length) = some 0 := by decide +kernel
set_option maxHeartbeats 4000000 in
set_option maxRecDepth 100000 in
theorem c_X8_witnesses {l : Launch} {G : va_G} {ca : Nat → ClassId} {ev : Nat → Nat} {h0 h1 h2 h3 h4 h5 h6 h7 h8 h9 h10 h11 h12 h13 h14 h15 h16 h17 : Nat} {now : (Nat → Int32)} {kept : (Nat → Int32)} {isKept : Int32} {found : (Nat → Int32)} {order : (Nat → Int32)} {doubts : (Nat → Int32)} {doubtMany : Int32} {weights : (Nat → Int64)} {worn : (Nat → Int32)} {pairs : Int64} {isTwice : Int32} {doer : (Nat → Int32)} {doneTo : (Nat → Int32)} {doers : (Nat → Int64)} {tape : (Nat → Int32)} {taped : Int32} {begins : Int32} {ends : Int32} {sort : Int32} {value : Int32} {isWrong : Int32} {items : (Nat → Int32)} {itemMany : Int32} {bowThen : Int32} {doubtThen : Int32} {deedThen : Int32} {sayingThen : Int32} {widths : (Nat → Int32)} {sizes : (Nat → Int32)} {numbers : (Nat → Int64)} {moved : (Nat → Int64)}  {N : Nat} {res : Int32 × (Nat → Int32) × (Nat → Int32) × Int32 × (Nat → Int64) × (Nat → Int32) × Int64 × Int32 × (Nat → Int32) × (Nat → Int32) × (Nat → Int64)} (h : f_X8_witnesses N now order doubts doubtMany weights worn pairs isTwice doer doneTo doers = some res) : CtI l yX8_witnesses wsX8_witnesses rm_X8_witnesses G ca ev [.ref h0] (wM ca ev h0 h1 h2 h3 h4 h5 h6 h7 h8 h9 h10 h11 h12 h13 h14 h15 h16 h17 now kept isKept found order doubts doubtMany weights worn pairs isTwice doer doneTo doers tape taped begins ends sort value isWrong items itemMany bowThen doubtThen deedThen sayingThen widths sizes numbers moved) (wM ca ev h0 h1 h2 h3 h4 h5 h6 h7 h8 h9 h10 h11 h12 h13 h14 h15 h16 h17 now kept isKept found res.2.1 res.2.2.1 res.2.2.2.1 res.2.2.2.2.1 res.2.2.2.2.2.1 res.2.2.2.2.2.2.1 res.2.2.2.2.2.2.2.1 res.2.2.2.2.2.2.2.2.1 res.2.2.2.2.2.2.2.2.2.1 res.2.2.2.2.2.2.2.2.2.2 tape taped begins ends sort value isWrong items itemMany bowThen doubtThen deedThen sayingThen widths sizes numbers moved) res.1 := by
  unfold f_X8_witnesses at h
  refine en_i (by decide) rfl (Nat.le_of_ble_eq_true rfl) ?_
  intro p e s m args below meth c A Q H locs ls hx hb hml hown hts hA hP hK hD hE hS hl hRet
  have hown : s.vm.findClass RX8 = some m.cls := hown
  have hl : lv_has ls 4 [(0, .ref h0)] := hl
  have hin_X8 : ∀ w ∈ u_ws RX8 TX8 32, w ∈ wsX8_witnesses := fun w h9 => List.mem_cons_of_mem _ (List.mem_append_right _ h9)
  have fk_126 := hts (.fieldLink RX8 126 "MaskBowsModel" "doubtMany" "I") (by decide +kernel)
  have fk_22 := hts (.fieldLink RX8 22 "MaskBowsModel" "doubts" "[I") (by decide +kernel)
  refine lv_aload_n hx hb dX8_witnesses_0 rfl (lv_at hl 0 rfl) ?_
  obtain ⟨u_1, e_1, h⟩ := bd_some h
  refine cm_Vl (As := []) (rest := []) ⟨hx, hb, hml, hown, hts⟩ (c_X8_weigh (ca := ca) (ev := ev) (h0 := h0) (h1 := h1) (h2 := h2) (h3 := h3) (h4 := h4) (h5 := h5) (h6 := h6) (h7 := h7) (h8 := h8) (h9 := h9) (h10 := h10) (h11 := h11) (h12 := h12) (h13 := h13) (h14 := h14) (h15 := h15) (h16 := h16) (h17 := h17) (now := now) (kept := kept) (isKept := isKept) (found := found) (order := order) (doubts := doubts) (doubtMany := doubtMany) (weights := weights) (worn := worn) (pairs := pairs) (isTwice := isTwice) (doer := doer) (doneTo := doneTo) (doers := doers) (tape := tape) (taped := taped) (begins := begins) (ends := ends) (sort := sort) (value := value) (isWrong := isWrong) (items := items) (itemMany := itemMany) (bowThen := bowThen) (doubtThen := doubtThen) (deedThen := deedThen) (sayingThen := sayingThen) (widths := widths) (sizes := sizes) (numbers := numbers) (moved := moved) e_1) (cwV 0 hts gX8_witnesses_X8_weigh rfl rfl rfl hd_X8_weigh ⟨Nat.le_of_ble_eq_true rfl, Nat.le_of_ble_eq_true rfl⟩) hK hP hD hS hA hE (q0 := 0) (ci := 8) rfl rfl rfl rfl hl.1 rfl (Nat.le_of_ble_eq_true rfl) dX8_witnesses_1 ⟨Nat.zero_le _, Nat.zero_le _⟩ (fun H locs hP hD hS => ?_)
  refine lv_pop2_2 hx hb dX8_witnesses_4 rfl ?_
  refine lv_aload_n hx hb dX8_witnesses_5 rfl (lv_at hl 0 rfl) ?_
  obtain ⟨u_2, e_2, h⟩ := bd_some h
  refine cm_Vv (As := []) (rest := []) ⟨hx, hb, hml, hown, hts⟩ (c_X8_findAllDoers (ca := ca) (ev := ev) (h0 := h0) (h1 := h1) (h2 := h2) (h3 := h3) (h4 := h4) (h5 := h5) (h6 := h6) (h7 := h7) (h8 := h8) (h9 := h9) (h10 := h10) (h11 := h11) (h12 := h12) (h13 := h13) (h14 := h14) (h15 := h15) (h16 := h16) (h17 := h17) (now := now) (kept := kept) (isKept := isKept) (found := found) (order := u_1.2.1) (doubts := u_1.2.2.1) (doubtMany := u_1.2.2.2.1) (weights := u_1.2.2.2.2.1) (worn := u_1.2.2.2.2.2.1) (pairs := u_1.2.2.2.2.2.2.1) (isTwice := u_1.2.2.2.2.2.2.2) (doer := doer) (doneTo := doneTo) (doers := doers) (tape := tape) (taped := taped) (begins := begins) (ends := ends) (sort := sort) (value := value) (isWrong := isWrong) (items := items) (itemMany := itemMany) (bowThen := bowThen) (doubtThen := doubtThen) (deedThen := deedThen) (sayingThen := sayingThen) (widths := widths) (sizes := sizes) (numbers := numbers) (moved := moved) e_2) (cwV 0 hts gX8_witnesses_X8_findAllDoers rfl rfl rfl hd_X8_findAllDoers ⟨Nat.le_of_ble_eq_true rfl, Nat.le_of_ble_eq_true rfl⟩) hK hP hD hS hA hE (q0 := 0) (ci := 8) rfl rfl rfl rfl hl.1 rfl (Nat.le_of_ble_eq_true rfl) dX8_witnesses_6 ⟨Nat.zero_le _, Nat.zero_le _⟩ (fun H locs hP hD hS => ?_)
  refine lv_aload_n hx hb dX8_witnesses_9 rfl (lv_at hl 0 rfl) ?_
  obtain ⟨u_3, e_3, h⟩ := bd_some h
  refine cm_Vi (As := []) (rest := []) ⟨hx, hb, hml, hown, hts⟩ (c_X8_nightsThere (ca := ca) (ev := ev) (h0 := h0) (h1 := h1) (h2 := h2) (h3 := h3) (h4 := h4) (h5 := h5) (h6 := h6) (h7 := h7) (h8 := h8) (h9 := h9) (h10 := h10) (h11 := h11) (h12 := h12) (h13 := h13) (h14 := h14) (h15 := h15) (h16 := h16) (h17 := h17) (now := now) (kept := kept) (isKept := isKept) (found := found) (order := u_1.2.1) (doubts := u_1.2.2.1) (doubtMany := u_1.2.2.2.1) (weights := u_1.2.2.2.2.1) (worn := u_2.1) (pairs := u_2.2.1) (isTwice := u_2.2.2.1) (doer := u_2.2.2.2.1) (doneTo := u_2.2.2.2.2.1) (doers := u_2.2.2.2.2.2) (tape := tape) (taped := taped) (begins := begins) (ends := ends) (sort := sort) (value := value) (isWrong := isWrong) (items := items) (itemMany := itemMany) (bowThen := bowThen) (doubtThen := doubtThen) (deedThen := deedThen) (sayingThen := sayingThen) (widths := widths) (sizes := sizes) (numbers := numbers) (moved := moved) e_3) (cwV 0 hts gX8_witnesses_X8_nightsThere rfl rfl rfl hd_X8_nightsThere ⟨Nat.le_of_ble_eq_true rfl, Nat.le_of_ble_eq_true rfl⟩) hK hP hD hS hA hE (q0 := 0) (ci := 8) rfl rfl rfl rfl hl.1 rfl (Nat.le_of_ble_eq_true rfl) dX8_witnesses_10 ⟨Nat.zero_le _, Nat.zero_le _⟩ (fun H locs hP hD hS => ?_)
  refine lv_iconst (v := (1 : Int32)) hx hb dX8_witnesses_13 (by decide) ?_
  refine lv_isub hx hb dX8_witnesses_14 ?_
  refine lv_istore_n (lv' := [(1, .int (u_3 - (1 : Int32))), (0, .ref h0)]) hx hb dX8_witnesses_15 rfl hl (by decide) rfl (fun ls hl => ?_)
  refine lv_aload_n hx hb dX8_witnesses_16 rfl (lv_at hl 1 rfl) ?_
  obtain ⟨u_4, e_4, h⟩ := bd_some h
  refine cm_Vi (As := []) (rest := []) ⟨hx, hb, hml, hown, hts⟩ (c_X8_nightsThere (ca := ca) (ev := ev) (h0 := h0) (h1 := h1) (h2 := h2) (h3 := h3) (h4 := h4) (h5 := h5) (h6 := h6) (h7 := h7) (h8 := h8) (h9 := h9) (h10 := h10) (h11 := h11) (h12 := h12) (h13 := h13) (h14 := h14) (h15 := h15) (h16 := h16) (h17 := h17) (now := now) (kept := kept) (isKept := isKept) (found := found) (order := u_1.2.1) (doubts := u_1.2.2.1) (doubtMany := u_1.2.2.2.1) (weights := u_1.2.2.2.2.1) (worn := u_2.1) (pairs := u_2.2.1) (isTwice := u_2.2.2.1) (doer := u_2.2.2.2.1) (doneTo := u_2.2.2.2.2.1) (doers := u_2.2.2.2.2.2) (tape := tape) (taped := taped) (begins := begins) (ends := ends) (sort := sort) (value := value) (isWrong := isWrong) (items := items) (itemMany := itemMany) (bowThen := bowThen) (doubtThen := doubtThen) (deedThen := deedThen) (sayingThen := sayingThen) (widths := widths) (sizes := sizes) (numbers := numbers) (moved := moved) e_4) (cwV 0 hts gX8_witnesses_X8_nightsThere rfl rfl rfl hd_X8_nightsThere ⟨Nat.le_of_ble_eq_true rfl, Nat.le_of_ble_eq_true rfl⟩) hK hP hD hS hA hE (q0 := 0) (ci := 8) rfl rfl rfl rfl hl.1 rfl (Nat.le_of_ble_eq_true rfl) dX8_witnesses_17 ⟨Nat.zero_le _, Nat.zero_le _⟩ (fun H locs hP hD hS => ?_)
  refine lv_iconst (v := (1 : Int32)) hx hb dX8_witnesses_20 (by decide) ?_
  refine lv_isub hx hb dX8_witnesses_21 ?_
  refine lv_istore_n (lv' := [(2, .int (u_4 - (1 : Int32))), (1, .int (u_3 - (1 : Int32))), (0, .ref h0)]) hx hb dX8_witnesses_22 rfl hl (by decide) rfl (fun ls hl => ?_)
  have L_23 : ∀  {doubtMany_23 : Int32} {weights_23 : (Nat → Int64)} {doers_23 : (Nat → Int64)} (n_23 : Nat) {x1_23 : Int32} {x2_23 : Int32} {uL_23 : Int32} {H : Heap} {locs : List Loc} {ls : Array Slot}, f_X8_witnesses_23 N doubtMany_23 weights_23 doers_23  n_23 x1_23 x2_23 = some uL_23 → va_P G vwCl (wM ca ev h0 h1 h2 h3 h4 h5 h6 h7 h8 h9 h10 h11 h12 h13 h14 h15 h16 h17 now kept isKept found u_1.2.1 u_1.2.2.1 doubtMany_23 weights_23 u_2.1 u_2.2.1 u_2.2.2.1 u_2.2.2.2.1 u_2.2.2.2.2.1 doers_23 tape taped begins ends sort value isWrong items itemMany bowThen doubtThen deedThen sayingThen widths sizes numbers moved) H → va_D A (wM ca ev h0 h1 h2 h3 h4 h5 h6 h7 h8 h9 h10 h11 h12 h13 h14 h15 h16 h17 now kept isKept found u_1.2.1 u_1.2.2.1 doubtMany_23 weights_23 u_2.1 u_2.2.1 u_2.2.2.1 u_2.2.2.2.1 u_2.2.2.2.2.1 doers_23 tape taped begins ends sort value isWrong items itemMany bowThen doubtThen deedThen sayingThen widths sizes numbers moved) → va_S A s.heap H locs → lv_has ls 4 [(0, .ref h0), (1, .int x1_23), (2, .int x2_23)] → (∀ {H : Heap} {locs : List Loc} {ls : Array Slot}, va_P G vwCl (wM ca ev h0 h1 h2 h3 h4 h5 h6 h7 h8 h9 h10 h11 h12 h13 h14 h15 h16 h17 now kept isKept found u_1.2.1 u_1.2.2.1 doubtMany_23 weights_23 u_2.1 u_2.2.1 u_2.2.2.1 u_2.2.2.2.1 u_2.2.2.2.2.1 doers_23 tape taped begins ends sort value isWrong items itemMany bowThen doubtThen deedThen sayingThen widths sizes numbers moved) H → va_D A (wM ca ev h0 h1 h2 h3 h4 h5 h6 h7 h8 h9 h10 h11 h12 h13 h14 h15 h16 h17 now kept isKept found u_1.2.1 u_1.2.2.1 doubtMany_23 weights_23 u_2.1 u_2.2.1 u_2.2.2.1 u_2.2.2.2.1 u_2.2.2.2.2.1 doers_23 tape taped begins ends sort value isWrong items itemMany bowThen doubtThen deedThen sayingThen widths sizes numbers moved) → va_S A s.heap H locs → lv_has ls 4 [(0, .ref h0), (1, .int uL_23)] → W p l e rm_X8_witnesses s m args below meth c H locs 0 0 Q (F0 m 58 ls [])) → W p l e rm_X8_witnesses s m args below meth c H locs 0 0 Q (F0 m 23 ls []) := by
    intro doubtMany_23 weights_23 doers_23 n_23
    induction n_23 with
    | zero => intro x1_23 x2_23 uL_23 H locs ls h; exact absurd h (by rw [f_X8_witnesses_23]; exact fun z => nomatch z)
    | succ n_23 ih =>
      intro x1_23 x2_23 uL_23 H locs ls h hP hD hS hl JK_23
      rw [f_X8_witnesses_23] at h
      refine lv_iload_n hx hb dX8_witnesses_23 rfl (lv_at hl 2 rfl) ?_
      refine lv_if_lt (tgt := 58) hx hb dX8_witnesses_24 (by decide) (fun c_5 => ?_) (fun c_5 => ?_)
      · have h := ifp c_5 h
        obtain rfl := Option.some.inj h
        exact JK_23 hP hD hS (lv_sub hl [0, 1] rfl)
      · have h := ifn c_5 h
        refine lv_aload_n hx hb dX8_witnesses_27 rfl (lv_at hl 0 rfl) ?_
        refine lv_iload_n hx hb dX8_witnesses_28 rfl (lv_at hl 2 rfl) ?_
        obtain ⟨u_6, e_6, h⟩ := bd_some h
        refine cm_Vi (As := [.int x2_23]) (rest := []) ⟨hx, hb, hml, hown, hts⟩ (c_X8_isEnough (ca := ca) (ev := ev) (h0 := h0) (h1 := h1) (h2 := h2) (h3 := h3) (h4 := h4) (h5 := h5) (h6 := h6) (h7 := h7) (h8 := h8) (h9 := h9) (h10 := h10) (h11 := h11) (h12 := h12) (h13 := h13) (h14 := h14) (h15 := h15) (h16 := h16) (h17 := h17) (now := now) (kept := kept) (isKept := isKept) (found := found) (order := u_1.2.1) (doubts := u_1.2.2.1) (doubtMany := doubtMany_23) (weights := weights_23) (worn := u_2.1) (pairs := u_2.2.1) (isTwice := u_2.2.2.1) (doer := u_2.2.2.2.1) (doneTo := u_2.2.2.2.2.1) (doers := doers_23) (tape := tape) (taped := taped) (begins := begins) (ends := ends) (sort := sort) (value := value) (isWrong := isWrong) (items := items) (itemMany := itemMany) (bowThen := bowThen) (doubtThen := doubtThen) (deedThen := deedThen) (sayingThen := sayingThen) (widths := widths) (sizes := sizes) (numbers := numbers) (moved := moved) e_6) (cwV 1 hts gX8_witnesses_X8_isEnough rfl rfl rfl hd_X8_isEnough ⟨Nat.le_of_ble_eq_true rfl, Nat.le_of_ble_eq_true rfl⟩) hK hP hD hS hA hE (q0 := 0) (ci := 8) rfl rfl rfl rfl hl.1 rfl (Nat.le_of_ble_eq_true rfl) dX8_witnesses_29 ⟨Nat.zero_le _, Nat.zero_le _⟩ (fun H locs hP hD hS => ?_)
        obtain ⟨u_7, e_7, h⟩ := bd_some h
        have J_7 : ∀ {H : Heap} {locs : List Loc} {ls : Array Slot}, va_P G vwCl (wM ca ev h0 h1 h2 h3 h4 h5 h6 h7 h8 h9 h10 h11 h12 h13 h14 h15 h16 h17 now kept isKept found u_1.2.1 u_1.2.2.1 doubtMany_23 weights_23 u_2.1 u_2.2.1 u_2.2.2.1 u_2.2.2.2.1 u_2.2.2.2.2.1 doers_23 tape taped begins ends sort value isWrong items itemMany bowThen doubtThen deedThen sayingThen widths sizes numbers moved) H → va_D A (wM ca ev h0 h1 h2 h3 h4 h5 h6 h7 h8 h9 h10 h11 h12 h13 h14 h15 h16 h17 now kept isKept found u_1.2.1 u_1.2.2.1 doubtMany_23 weights_23 u_2.1 u_2.2.1 u_2.2.2.1 u_2.2.2.2.1 u_2.2.2.2.2.1 doers_23 tape taped begins ends sort value isWrong items itemMany bowThen doubtThen deedThen sayingThen widths sizes numbers moved) → va_S A s.heap H locs → lv_has ls 4 [(0, .ref h0), (2, .int x2_23)] → W p l e rm_X8_witnesses s m args below meth c H locs 0 0 Q (F0 m 51 ls [.int u_7]) := by
          intro H locs ls hP hD hS hl 
          refine lv_istore_n (lv' := [(1, .int u_7), (0, .ref h0), (2, .int x2_23)]) hx hb dX8_witnesses_51 rfl hl (by decide) rfl (fun ls hl => ?_)
          refine lv_iinc (v := (x2_23 + (-1 : Int32))) (lv' := [(2, .int (x2_23 + (-1 : Int32))), (1, .int u_7), (0, .ref h0)]) hx hb dX8_witnesses_52 hl (k := 2) rfl rfl (by decide) rfl (fun ls hl => ?_)
          refine lv_goto (tgt := 23) hx hb dX8_witnesses_55 (by decide) ?_
          exact ih h hP hD hS (lv_sub hl [2, 1, 0] rfl) JK_23
        have h := e_7
        clear e_7
        refine lv_if_eq (tgt := 50) hx hb dX8_witnesses_32 (by decide) (fun c_7 => ?_) (fun c_7 => ?_)
        · have h := ifp c_7 h
          refine lv_iload_n hx hb dX8_witnesses_50 rfl (lv_at hl 1 rfl) ?_
          obtain rfl := Option.some.inj h
          exact J_7 hP hD hS (lv_sub hl [0, 2] rfl)
        · have h := ifn c_7 h
          refine lv_iload_n hx hb dX8_witnesses_35 rfl (lv_at hl 2 rfl) ?_
          obtain ⟨u_8, e_8, h⟩ := bd_some h
          refine cn_Si (As := [.int x2_23]) (rest := []) ⟨hx, hb, hml, hown, hts⟩ (c_X8_bits e_8) (va_cwS 1 hts gX8_witnesses_X8_bits rfl rfl rfl hd_X8_bits ⟨Nat.le_of_ble_eq_true rfl, Nat.le_of_ble_eq_true rfl⟩) hK hP hD hS hA hE rfl hl.1 rfl (Nat.le_of_ble_eq_true rfl) dX8_witnesses_36 ⟨Nat.zero_le _, Nat.zero_le _⟩ (fun H locs hP hD hS => ?_)
          refine lv_iload_n hx hb dX8_witnesses_39 rfl (lv_at hl 1 rfl) ?_
          obtain ⟨u_9, e_9, h⟩ := bd_some h
          refine cn_Si (As := [.int x1_23]) (rest := [.int u_8]) ⟨hx, hb, hml, hown, hts⟩ (c_X8_bits e_9) (va_cwS 1 hts gX8_witnesses_X8_bits rfl rfl rfl hd_X8_bits ⟨Nat.le_of_ble_eq_true rfl, Nat.le_of_ble_eq_true rfl⟩) hK hP hD hS hA hE rfl hl.1 rfl (Nat.le_of_ble_eq_true rfl) dX8_witnesses_40 ⟨Nat.zero_le _, Nat.zero_le _⟩ (fun H locs hP hD hS => ?_)
          refine lv_icmp_gt (tgt := 50) hx hb dX8_witnesses_43 (by decide) (fun c_10 => ?_) (fun c_10 => ?_)
          · have h := ifp c_10 h
            refine lv_iload_n hx hb dX8_witnesses_50 rfl (lv_at hl 1 rfl) ?_
            obtain rfl := Option.some.inj h
            exact J_7 hP hD hS (lv_sub hl [0, 2] rfl)
          · have h := ifn c_10 h
            refine lv_iload_n hx hb dX8_witnesses_46 rfl (lv_at hl 2 rfl) ?_
            refine lv_goto (tgt := 51) hx hb dX8_witnesses_47 (by decide) ?_
            obtain rfl := Option.some.inj h
            exact J_7 hP hD hS (lv_sub hl [0, 2] rfl)
  obtain ⟨u_11, e_11, h⟩ := bd_some h
  refine L_23 _ e_11 hP hD hS (lv_sub hl [2, 1, 0] rfl) ?_
  intro H locs ls hP hD hS hl
  refine lv_iconst (v := (0 : Int32)) hx hb dX8_witnesses_58 (by decide) ?_
  refine lv_istore_n (lv' := [(2, .int (0 : Int32)), (0, .ref h0), (1, .int u_11)]) hx hb dX8_witnesses_59 rfl hl (by decide) rfl (fun ls hl => ?_)
  refine lv_iconst (v := (0 : Int32)) hx hb dX8_witnesses_60 (by decide) ?_
  refine lv_istore_n (lv' := [(3, .int (0 : Int32)), (2, .int (0 : Int32)), (0, .ref h0), (1, .int u_11)]) hx hb dX8_witnesses_61 rfl hl (by decide) rfl (fun ls hl => ?_)
  have L_62 : ∀ {x1_62 : Int32} {doubts_62 : (Nat → Int32)} {doubtMany_62 : Int32} (n_62 : Nat) {x2_62 : Int32} {x3_62 : Int32} {uL_62 : Int32} {H : Heap} {locs : List Loc} {ls : Array Slot}, f_X8_witnesses_62 x1_62 doubts_62 doubtMany_62  n_62 x2_62 x3_62 = some uL_62 → va_P G vwCl (wM ca ev h0 h1 h2 h3 h4 h5 h6 h7 h8 h9 h10 h11 h12 h13 h14 h15 h16 h17 now kept isKept found u_1.2.1 doubts_62 doubtMany_62 u_1.2.2.2.2.1 u_2.1 u_2.2.1 u_2.2.2.1 u_2.2.2.2.1 u_2.2.2.2.2.1 u_2.2.2.2.2.2 tape taped begins ends sort value isWrong items itemMany bowThen doubtThen deedThen sayingThen widths sizes numbers moved) H → va_D A (wM ca ev h0 h1 h2 h3 h4 h5 h6 h7 h8 h9 h10 h11 h12 h13 h14 h15 h16 h17 now kept isKept found u_1.2.1 doubts_62 doubtMany_62 u_1.2.2.2.2.1 u_2.1 u_2.2.1 u_2.2.2.1 u_2.2.2.2.1 u_2.2.2.2.2.1 u_2.2.2.2.2.2 tape taped begins ends sort value isWrong items itemMany bowThen doubtThen deedThen sayingThen widths sizes numbers moved) → va_S A s.heap H locs → lv_has ls 4 [(0, .ref h0), (1, .int x1_62), (2, .int x2_62), (3, .int x3_62)] → (∀ {H : Heap} {locs : List Loc} {ls : Array Slot}, va_P G vwCl (wM ca ev h0 h1 h2 h3 h4 h5 h6 h7 h8 h9 h10 h11 h12 h13 h14 h15 h16 h17 now kept isKept found u_1.2.1 doubts_62 doubtMany_62 u_1.2.2.2.2.1 u_2.1 u_2.2.1 u_2.2.2.1 u_2.2.2.2.1 u_2.2.2.2.2.1 u_2.2.2.2.2.2 tape taped begins ends sort value isWrong items itemMany bowThen doubtThen deedThen sayingThen widths sizes numbers moved) H → va_D A (wM ca ev h0 h1 h2 h3 h4 h5 h6 h7 h8 h9 h10 h11 h12 h13 h14 h15 h16 h17 now kept isKept found u_1.2.1 doubts_62 doubtMany_62 u_1.2.2.2.2.1 u_2.1 u_2.2.1 u_2.2.2.1 u_2.2.2.2.1 u_2.2.2.2.2.1 u_2.2.2.2.2.2 tape taped begins ends sort value isWrong items itemMany bowThen doubtThen deedThen sayingThen widths sizes numbers moved) → va_S A s.heap H locs → lv_has ls 4 [(2, .int uL_62)] → W p l e rm_X8_witnesses s m args below meth c H locs 0 0 Q (F0 m 91 ls [])) → W p l e rm_X8_witnesses s m args below meth c H locs 0 0 Q (F0 m 62 ls []) := by
    intro x1_62 doubts_62 doubtMany_62 n_62
    induction n_62 with
    | zero => intro x2_62 x3_62 uL_62 H locs ls h; exact absurd h (by rw [f_X8_witnesses_62]; exact fun z => nomatch z)
    | succ n_62 ih =>
      intro x2_62 x3_62 uL_62 H locs ls h hP hD hS hl JK_62
      rw [f_X8_witnesses_62] at h
      refine lv_iload_n hx hb dX8_witnesses_62 rfl (lv_at hl 3 rfl) ?_
      refine lv_aload_n hx hb dX8_witnesses_63 rfl (lv_at hl 0 rfl) ?_
      refine va_get (D := G) (ci := 8) (v := .int doubtMany_62) (C := RX8) (T := TX8) (N := 32) hx hb hts hin_X8 hown hK hP 0 rfl rfl 6 (by decide) fk_126 (fun _ h9 => h9) rfl dX8_witnesses_64 ?_
      refine lv_icmp_ge (tgt := 91) hx hb dX8_witnesses_67 (by decide) (fun c_12 => ?_) (fun c_12 => ?_)
      · have h := ifp c_12 h
        obtain rfl := Option.some.inj h
        exact JK_62 hP hD hS (lv_sub hl [2] rfl)
      · have h := ifn c_12 h
        refine lv_iload_n hx hb dX8_witnesses_70 rfl (lv_at hl 2 rfl) ?_
        refine lv_iload_n hx hb dX8_witnesses_71 rfl (lv_at hl 1 rfl) ?_
        refine lv_iload_n hx hb dX8_witnesses_72 rfl (lv_at hl 3 rfl) ?_
        refine lv_ishr hx hb dX8_witnesses_73 ?_
        refine lv_iconst (v := (1 : Int32)) hx hb dX8_witnesses_74 (by decide) ?_
        refine lv_iand hx hb dX8_witnesses_75 ?_
        refine lv_aload_n hx hb dX8_witnesses_76 rfl (lv_at hl 0 rfl) ?_
        refine va_get (D := G) (ci := 8) (v := .ref h5) (C := RX8) (T := TX8) (N := 32) hx hb hts hin_X8 hown hK hP 0 rfl rfl 5 (by decide) fk_22 (fun _ h9 => h9) rfl dX8_witnesses_77 ?_
        refine lv_iload_n hx hb dX8_witnesses_80 rfl (lv_at hl 3 rfl) ?_
        obtain ⟨i_13, h⟩ := gd_some h
        refine va_iald hx hb hK hP 5 0 rfl rfl (ix_in i_13) dX8_witnesses_81 ?_
        refine lv_ishl hx hb dX8_witnesses_82 ?_
        refine lv_ior hx hb dX8_witnesses_83 ?_
        refine lv_istore_n (lv' := [(2, .int (x2_62 ||| (((x1_62 >>> (x3_62 &&& 31)) &&& (1 : Int32)) <<< ((doubts_62 x3_62.toNatClampNeg) &&& 31)))), (0, .ref h0), (1, .int x1_62), (3, .int x3_62)]) hx hb dX8_witnesses_84 rfl hl (by decide) rfl (fun ls hl => ?_)
        refine lv_iinc (v := (x3_62 + (1 : Int32))) (lv' := [(3, .int (x3_62 + (1 : Int32))), (2, .int (x2_62 ||| (((x1_62 >>> (x3_62 &&& 31)) &&& (1 : Int32)) <<< ((doubts_62 x3_62.toNatClampNeg) &&& 31)))), (0, .ref h0), (1, .int x1_62)]) hx hb dX8_witnesses_85 hl (k := 3) rfl rfl (by decide) rfl (fun ls hl => ?_)
        refine lv_goto (tgt := 62) hx hb dX8_witnesses_88 (by decide) ?_
        exact ih h hP hD hS (lv_sub hl [2, 3, 1, 0] rfl) JK_62
  obtain ⟨u_14, e_14, h⟩ := bd_some h
  refine L_62 _ e_14 hP hD hS (lv_sub hl [2, 3, 1, 0] rfl) ?_
  intro H locs ls hP hD hS hl
  refine lv_iload_n hx hb dX8_witnesses_91 rfl (lv_at hl 0 rfl) ?_
  obtain rfl := Option.some.inj h
  exact hRet hP hD hS dX8_witnesses_92
abbrev rm_X8_unsure : Room := { frames := 6, cells := 0, slots := 0, locals := 144 }
theorem hd_X8_unsure : yX8_unsure.cls = RX8 ∧ yX8_unsure.cls ≠ "java/lang/invoke/MethodHandle" ∧ yX8_unsure.cls ≠ "java/lang/invoke/VarHandle" ∧ (parseMethodDescriptor yX8_unsure.desc).map (fun d => d.parameters.length) = some 0 := by decide +kernel
set_option maxHeartbeats 4000000 in
set_option maxRecDepth 100000 in
theorem c_X8_unsure {l : Launch} {G : va_G} {ca : Nat → ClassId} {ev : Nat → Nat} {h0 h1 h2 h3 h4 h5 h6 h7 h8 h9 h10 h11 h12 h13 h14 h15 h16 h17 : Nat} {now : (Nat → Int32)} {kept : (Nat → Int32)} {isKept : Int32} {found : (Nat → Int32)} {order : (Nat → Int32)} {doubts : (Nat → Int32)} {doubtMany : Int32} {weights : (Nat → Int64)} {worn : (Nat → Int32)} {pairs : Int64} {isTwice : Int32} {doer : (Nat → Int32)} {doneTo : (Nat → Int32)} {doers : (Nat → Int64)} {tape : (Nat → Int32)} {taped : Int32} {begins : Int32} {ends : Int32} {sort : Int32} {value : Int32} {isWrong : Int32} {items : (Nat → Int32)} {itemMany : Int32} {bowThen : Int32} {doubtThen : Int32} {deedThen : Int32} {sayingThen : Int32} {widths : (Nat → Int32)} {sizes : (Nat → Int32)} {numbers : (Nat → Int64)} {moved : (Nat → Int64)}  {N : Nat} {res : Int32 × (Nat → Int32) × (Nat → Int32) × Int32 × (Nat → Int64) × (Nat → Int32) × Int64 × Int32} (h : f_X8_unsure N now order doubts doubtMany weights worn pairs isTwice = some res) : CtI l yX8_unsure wsX8_unsure rm_X8_unsure G ca ev [.ref h0] (wM ca ev h0 h1 h2 h3 h4 h5 h6 h7 h8 h9 h10 h11 h12 h13 h14 h15 h16 h17 now kept isKept found order doubts doubtMany weights worn pairs isTwice doer doneTo doers tape taped begins ends sort value isWrong items itemMany bowThen doubtThen deedThen sayingThen widths sizes numbers moved) (wM ca ev h0 h1 h2 h3 h4 h5 h6 h7 h8 h9 h10 h11 h12 h13 h14 h15 h16 h17 now kept isKept found res.2.1 res.2.2.1 res.2.2.2.1 res.2.2.2.2.1 res.2.2.2.2.2.1 res.2.2.2.2.2.2.1 res.2.2.2.2.2.2.2 doer doneTo doers tape taped begins ends sort value isWrong items itemMany bowThen doubtThen deedThen sayingThen widths sizes numbers moved) res.1 := by
  unfold f_X8_unsure at h
  refine en_i (by decide) rfl (Nat.le_of_ble_eq_true rfl) ?_
  intro p e s m args below meth c A Q H locs ls hx hb hml hown hts hA hP hK hD hE hS hl hRet
  have hown : s.vm.findClass RX8 = some m.cls := hown
  have hl : lv_has ls 3 [(0, .ref h0)] := hl
  have hin_X8 : ∀ w ∈ u_ws RX8 TX8 32, w ∈ wsX8_unsure := fun w h9 => List.mem_cons_of_mem _ (List.mem_append_right _ h9)
  have fk_9 := hts (.fieldLink RX8 9 "MaskBowsModel" "now" "[I") (by decide +kernel)
  refine lv_aload_n hx hb dX8_unsure_0 rfl (lv_at hl 0 rfl) ?_
  obtain ⟨u_1, e_1, h⟩ := bd_some h
  refine cm_Vl (As := []) (rest := []) ⟨hx, hb, hml, hown, hts⟩ (c_X8_weigh (ca := ca) (ev := ev) (h0 := h0) (h1 := h1) (h2 := h2) (h3 := h3) (h4 := h4) (h5 := h5) (h6 := h6) (h7 := h7) (h8 := h8) (h9 := h9) (h10 := h10) (h11 := h11) (h12 := h12) (h13 := h13) (h14 := h14) (h15 := h15) (h16 := h16) (h17 := h17) (now := now) (kept := kept) (isKept := isKept) (found := found) (order := order) (doubts := doubts) (doubtMany := doubtMany) (weights := weights) (worn := worn) (pairs := pairs) (isTwice := isTwice) (doer := doer) (doneTo := doneTo) (doers := doers) (tape := tape) (taped := taped) (begins := begins) (ends := ends) (sort := sort) (value := value) (isWrong := isWrong) (items := items) (itemMany := itemMany) (bowThen := bowThen) (doubtThen := doubtThen) (deedThen := deedThen) (sayingThen := sayingThen) (widths := widths) (sizes := sizes) (numbers := numbers) (moved := moved) e_1) (cwV 0 hts gX8_unsure_X8_weigh rfl rfl rfl hd_X8_weigh ⟨Nat.le_of_ble_eq_true rfl, Nat.le_of_ble_eq_true rfl⟩) hK hP hD hS hA hE (q0 := 0) (ci := 8) rfl rfl rfl rfl hl.1 rfl (Nat.le_of_ble_eq_true rfl) dX8_unsure_1 ⟨Nat.zero_le _, Nat.zero_le _⟩ (fun H locs hP hD hS => ?_)
  refine lv_pop2_2 hx hb dX8_unsure_4 rfl ?_
  refine lv_iconst (v := (0 : Int32)) hx hb dX8_unsure_5 (by decide) ?_
  refine lv_istore_n (lv' := [(1, .int (0 : Int32)), (0, .ref h0)]) hx hb dX8_unsure_6 rfl hl (by decide) rfl (fun ls hl => ?_)
  refine lv_iconst (v := (0 : Int32)) hx hb dX8_unsure_7 (by decide) ?_
  refine lv_istore_n (lv' := [(2, .int (0 : Int32)), (1, .int (0 : Int32)), (0, .ref h0)]) hx hb dX8_unsure_8 rfl hl (by decide) rfl (fun ls hl => ?_)
  have L_9 : ∀  {now_9 : (Nat → Int32)} (n_9 : Nat) {x1_9 : Int32} {x2_9 : Int32} {order_9 : (Nat → Int32)} {doubts_9 : (Nat → Int32)} {doubtMany_9 : Int32} {weights_9 : (Nat → Int64)} {worn_9 : (Nat → Int32)} {pairs_9 : Int64} {isTwice_9 : Int32} {uL_9 : Int32 × (Nat → Int32) × (Nat → Int32) × Int32 × (Nat → Int64) × (Nat → Int32) × Int64 × Int32} {H : Heap} {locs : List Loc} {ls : Array Slot}, f_X8_unsure_9 N now_9  n_9 x1_9 x2_9 order_9 doubts_9 doubtMany_9 weights_9 worn_9 pairs_9 isTwice_9 = some uL_9 → va_P G vwCl (wM ca ev h0 h1 h2 h3 h4 h5 h6 h7 h8 h9 h10 h11 h12 h13 h14 h15 h16 h17 now_9 kept isKept found order_9 doubts_9 doubtMany_9 weights_9 worn_9 pairs_9 isTwice_9 doer doneTo doers tape taped begins ends sort value isWrong items itemMany bowThen doubtThen deedThen sayingThen widths sizes numbers moved) H → va_D A (wM ca ev h0 h1 h2 h3 h4 h5 h6 h7 h8 h9 h10 h11 h12 h13 h14 h15 h16 h17 now_9 kept isKept found order_9 doubts_9 doubtMany_9 weights_9 worn_9 pairs_9 isTwice_9 doer doneTo doers tape taped begins ends sort value isWrong items itemMany bowThen doubtThen deedThen sayingThen widths sizes numbers moved) → va_S A s.heap H locs → lv_has ls 3 [(0, .ref h0), (1, .int x1_9), (2, .int x2_9)] → (∀ {H : Heap} {locs : List Loc} {ls : Array Slot}, va_P G vwCl (wM ca ev h0 h1 h2 h3 h4 h5 h6 h7 h8 h9 h10 h11 h12 h13 h14 h15 h16 h17 now_9 kept isKept found uL_9.2.1 uL_9.2.2.1 uL_9.2.2.2.1 uL_9.2.2.2.2.1 uL_9.2.2.2.2.2.1 uL_9.2.2.2.2.2.2.1 uL_9.2.2.2.2.2.2.2 doer doneTo doers tape taped begins ends sort value isWrong items itemMany bowThen doubtThen deedThen sayingThen widths sizes numbers moved) H → va_D A (wM ca ev h0 h1 h2 h3 h4 h5 h6 h7 h8 h9 h10 h11 h12 h13 h14 h15 h16 h17 now_9 kept isKept found uL_9.2.1 uL_9.2.2.1 uL_9.2.2.2.1 uL_9.2.2.2.2.1 uL_9.2.2.2.2.2.1 uL_9.2.2.2.2.2.2.1 uL_9.2.2.2.2.2.2.2 doer doneTo doers tape taped begins ends sort value isWrong items itemMany bowThen doubtThen deedThen sayingThen widths sizes numbers moved) → va_S A s.heap H locs → lv_has ls 3 [(1, .int uL_9.1)] → W p l e rm_X8_unsure s m args below meth c H locs 0 0 Q (F0 m 57 ls [])) → W p l e rm_X8_unsure s m args below meth c H locs 0 0 Q (F0 m 9 ls []) := by
    intro now_9 n_9
    induction n_9 with
    | zero => intro x1_9 x2_9 order_9 doubts_9 doubtMany_9 weights_9 worn_9 pairs_9 isTwice_9 uL_9 H locs ls h; exact absurd h (by rw [f_X8_unsure_9]; exact fun z => nomatch z)
    | succ n_9 ih =>
      intro x1_9 x2_9 order_9 doubts_9 doubtMany_9 weights_9 worn_9 pairs_9 isTwice_9 uL_9 H locs ls h hP hD hS hl JK_9
      rw [f_X8_unsure_9] at h
      refine lv_iload_n hx hb dX8_unsure_9 rfl (lv_at hl 2 rfl) ?_
      refine lv_aload_n hx hb dX8_unsure_10 rfl (lv_at hl 0 rfl) ?_
      refine va_get (D := G) (ci := 8) (v := .ref h1) (C := RX8) (T := TX8) (N := 32) hx hb hts hin_X8 hown hK hP 0 rfl rfl 0 (by decide) fk_9 (fun _ h9 => h9) rfl dX8_unsure_11 ?_
      refine lv_iconst (v := (4 : Int32)) hx hb dX8_unsure_14 (by decide) ?_
      refine va_iald hx hb hK hP 1 0 rfl rfl (ix_in (by decide)) dX8_unsure_15 ?_
      refine lv_icmp_ge (tgt := 57) hx hb dX8_unsure_16 (by decide) (fun c_2 => ?_) (fun c_2 => ?_)
      · have h := ifp c_2 h
        obtain rfl := Option.some.inj h
        exact JK_9 hP hD hS (lv_sub hl [1] rfl)
      · have h := ifn c_2 h
        refine lv_iload_n hx hb dX8_unsure_19 rfl (lv_at hl 1 rfl) ?_
        refine lv_aload_n hx hb dX8_unsure_20 rfl (lv_at hl 0 rfl) ?_
        refine lv_aload_n hx hb dX8_unsure_21 rfl (lv_at hl 0 rfl) ?_
        refine lv_iload_n hx hb dX8_unsure_22 rfl (lv_at hl 2 rfl) ?_
        refine lv_iconst (v := (2 : Int32)) hx hb dX8_unsure_23 (by decide) ?_
        obtain ⟨u_3, e_3, h⟩ := bd_some h
        refine cm_Vi (As := [.int x2_9, .int (2 : Int32)]) (rest := [.ref h0, .int x1_9]) ⟨hx, hb, hml, hown, hts⟩ (c_X8_deedIs (ca := ca) (ev := ev) (h0 := h0) (h1 := h1) (h2 := h2) (h3 := h3) (h4 := h4) (h5 := h5) (h6 := h6) (h7 := h7) (h8 := h8) (h9 := h9) (h10 := h10) (h11 := h11) (h12 := h12) (h13 := h13) (h14 := h14) (h15 := h15) (h16 := h16) (h17 := h17) (now := now_9) (kept := kept) (isKept := isKept) (found := found) (order := order_9) (doubts := doubts_9) (doubtMany := doubtMany_9) (weights := weights_9) (worn := worn_9) (pairs := pairs_9) (isTwice := isTwice_9) (doer := doer) (doneTo := doneTo) (doers := doers) (tape := tape) (taped := taped) (begins := begins) (ends := ends) (sort := sort) (value := value) (isWrong := isWrong) (items := items) (itemMany := itemMany) (bowThen := bowThen) (doubtThen := doubtThen) (deedThen := deedThen) (sayingThen := sayingThen) (widths := widths) (sizes := sizes) (numbers := numbers) (moved := moved) e_3) (cwV 2 hts gX8_unsure_X8_deedIs rfl rfl rfl hd_X8_deedIs ⟨Nat.le_of_ble_eq_true rfl, Nat.le_of_ble_eq_true rfl⟩) hK hP hD hS hA hE (q0 := 0) (ci := 8) rfl rfl rfl rfl hl.1 rfl (Nat.le_of_ble_eq_true rfl) dX8_unsure_24 ⟨Nat.zero_le _, Nat.zero_le _⟩ (fun H locs hP hD hS => ?_)
        refine lv_aload_n hx hb dX8_unsure_27 rfl (lv_at hl 0 rfl) ?_
        refine lv_iload_n hx hb dX8_unsure_28 rfl (lv_at hl 2 rfl) ?_
        refine lv_iconst (v := (1 : Int32)) hx hb dX8_unsure_29 (by decide) ?_
        obtain ⟨u_4, e_4, h⟩ := bd_some h
        refine cm_Vi (As := [.int x2_9, .int (1 : Int32)]) (rest := [.int u_3, .ref h0, .int x1_9]) ⟨hx, hb, hml, hown, hts⟩ (c_X8_deedIs (ca := ca) (ev := ev) (h0 := h0) (h1 := h1) (h2 := h2) (h3 := h3) (h4 := h4) (h5 := h5) (h6 := h6) (h7 := h7) (h8 := h8) (h9 := h9) (h10 := h10) (h11 := h11) (h12 := h12) (h13 := h13) (h14 := h14) (h15 := h15) (h16 := h16) (h17 := h17) (now := now_9) (kept := kept) (isKept := isKept) (found := found) (order := order_9) (doubts := doubts_9) (doubtMany := doubtMany_9) (weights := weights_9) (worn := worn_9) (pairs := pairs_9) (isTwice := isTwice_9) (doer := doer) (doneTo := doneTo) (doers := doers) (tape := tape) (taped := taped) (begins := begins) (ends := ends) (sort := sort) (value := value) (isWrong := isWrong) (items := items) (itemMany := itemMany) (bowThen := bowThen) (doubtThen := doubtThen) (deedThen := deedThen) (sayingThen := sayingThen) (widths := widths) (sizes := sizes) (numbers := numbers) (moved := moved) e_4) (cwV 2 hts gX8_unsure_X8_deedIs rfl rfl rfl hd_X8_deedIs ⟨Nat.le_of_ble_eq_true rfl, Nat.le_of_ble_eq_true rfl⟩) hK hP hD hS hA hE (q0 := 0) (ci := 8) rfl rfl rfl rfl hl.1 rfl (Nat.le_of_ble_eq_true rfl) dX8_unsure_30 ⟨Nat.zero_le _, Nat.zero_le _⟩ (fun H locs hP hD hS => ?_)
        obtain ⟨u_5, e_5, h⟩ := bd_some h
        refine cm_Vi (As := [.int u_3, .int u_4]) (rest := [.int x1_9]) ⟨hx, hb, hml, hown, hts⟩ (c_X8_wornBy (ca := ca) (ev := ev) (h0 := h0) (h1 := h1) (h2 := h2) (h3 := h3) (h4 := h4) (h5 := h5) (h6 := h6) (h7 := h7) (h8 := h8) (h9 := h9) (h10 := h10) (h11 := h11) (h12 := h12) (h13 := h13) (h14 := h14) (h15 := h15) (h16 := h16) (h17 := h17) (now := now_9) (kept := kept) (isKept := isKept) (found := found) (order := order_9) (doubts := doubts_9) (doubtMany := doubtMany_9) (weights := weights_9) (worn := worn_9) (pairs := pairs_9) (isTwice := isTwice_9) (doer := doer) (doneTo := doneTo) (doers := doers) (tape := tape) (taped := taped) (begins := begins) (ends := ends) (sort := sort) (value := value) (isWrong := isWrong) (items := items) (itemMany := itemMany) (bowThen := bowThen) (doubtThen := doubtThen) (deedThen := deedThen) (sayingThen := sayingThen) (widths := widths) (sizes := sizes) (numbers := numbers) (moved := moved) e_5) (cwV 2 hts gX8_unsure_X8_wornBy rfl rfl rfl hd_X8_wornBy ⟨Nat.le_of_ble_eq_true rfl, Nat.le_of_ble_eq_true rfl⟩) hK hP hD hS hA hE (q0 := 0) (ci := 8) rfl rfl rfl rfl hl.1 rfl (Nat.le_of_ble_eq_true rfl) dX8_unsure_33 ⟨Nat.zero_le _, Nat.zero_le _⟩ (fun H locs hP hD hS => ?_)
        obtain ⟨u_6, e_6, h⟩ := bd_some h
        refine cn_Si (As := [.int u_5.1]) (rest := [.int x1_9]) ⟨hx, hb, hml, hown, hts⟩ (c_X8_only e_6) (va_cwS 1 hts gX8_unsure_X8_only rfl rfl rfl hd_X8_only ⟨Nat.le_of_ble_eq_true rfl, Nat.le_of_ble_eq_true rfl⟩) hK hP hD hS hA hE rfl hl.1 rfl (Nat.le_of_ble_eq_true rfl) dX8_unsure_36 ⟨Nat.zero_le _, Nat.zero_le _⟩ (fun H locs hP hD hS => ?_)
        obtain ⟨u_7, e_7, h⟩ := bd_some h
        have J_7 : ∀ {H : Heap} {locs : List Loc} {ls : Array Slot}, va_P G vwCl (wM ca ev h0 h1 h2 h3 h4 h5 h6 h7 h8 h9 h10 h11 h12 h13 h14 h15 h16 h17 now_9 kept isKept found u_5.2.1 u_5.2.2.1 u_5.2.2.2.1 u_5.2.2.2.2.1 u_5.2.2.2.2.2.1 u_5.2.2.2.2.2.2.1 u_5.2.2.2.2.2.2.2 doer doneTo doers tape taped begins ends sort value isWrong items itemMany bowThen doubtThen deedThen sayingThen widths sizes numbers moved) H → va_D A (wM ca ev h0 h1 h2 h3 h4 h5 h6 h7 h8 h9 h10 h11 h12 h13 h14 h15 h16 h17 now_9 kept isKept found u_5.2.1 u_5.2.2.1 u_5.2.2.2.1 u_5.2.2.2.2.1 u_5.2.2.2.2.2.1 u_5.2.2.2.2.2.2.1 u_5.2.2.2.2.2.2.2 doer doneTo doers tape taped begins ends sort value isWrong items itemMany bowThen doubtThen deedThen sayingThen widths sizes numbers moved) → va_S A s.heap H locs → lv_has ls 3 [(0, .ref h0), (2, .int x2_9)] → W p l e rm_X8_unsure s m args below meth c H locs 0 0 Q (F0 m 49 ls [.int u_7, .int x1_9]) := by
          intro H locs ls hP hD hS hl 
          refine lv_ior hx hb dX8_unsure_49 ?_
          refine lv_istore_n (lv' := [(1, .int (x1_9 ||| u_7)), (0, .ref h0), (2, .int x2_9)]) hx hb dX8_unsure_50 rfl hl (by decide) rfl (fun ls hl => ?_)
          refine lv_iinc (v := (x2_9 + (1 : Int32))) (lv' := [(2, .int (x2_9 + (1 : Int32))), (1, .int (x1_9 ||| u_7)), (0, .ref h0)]) hx hb dX8_unsure_51 hl (k := 2) rfl rfl (by decide) rfl (fun ls hl => ?_)
          refine lv_goto (tgt := 9) hx hb dX8_unsure_54 (by decide) ?_
          exact ih h hP hD hS (lv_sub hl [2, 1, 0] rfl) JK_9
        have h := e_7
        clear e_7
        refine lv_if_ge (tgt := 48) hx hb dX8_unsure_39 (by decide) (fun c_7 => ?_) (fun c_7 => ?_)
        · have h := ifp c_7 h
          refine lv_iconst (v := (0 : Int32)) hx hb dX8_unsure_48 (by decide) ?_
          obtain rfl := Option.some.inj h
          exact J_7 hP hD hS (lv_sub hl [0, 2] rfl)
        · have h := ifn c_7 h
          refine lv_iconst (v := (1 : Int32)) hx hb dX8_unsure_42 (by decide) ?_
          refine lv_iload_n hx hb dX8_unsure_43 rfl (lv_at hl 2 rfl) ?_
          refine lv_ishl hx hb dX8_unsure_44 ?_
          refine lv_goto (tgt := 49) hx hb dX8_unsure_45 (by decide) ?_
          obtain rfl := Option.some.inj h
          exact J_7 hP hD hS (lv_sub hl [0, 2] rfl)
  obtain ⟨u_8, e_8, h⟩ := bd_some h
  refine L_9 _ e_8 hP hD hS (lv_sub hl [2, 1, 0] rfl) ?_
  intro H locs ls hP hD hS hl
  refine lv_iload_n hx hb dX8_unsure_57 rfl (lv_at hl 0 rfl) ?_
  obtain rfl := Option.some.inj h
  exact hRet hP hD hS dX8_unsure_58
abbrev rm_X8_goesLikeliest : Room := { frames := 6, cells := 0, slots := 0, locals := 142 }
theorem hd_X8_goesLikeliest : yX8_goesLikeliest.cls = RX8 ∧ yX8_goesLikeliest.cls ≠ "java/lang/invoke/MethodHandle" ∧ yX8_goesLikeliest.cls ≠ "java/lang/invoke/VarHandle" ∧ (parseMethodDescriptor yX8_goesLikeliest.desc).map (fun d => d.parameters.length) = some 1 := by decide +kernel
set_option maxHeartbeats 4000000 in
set_option maxRecDepth 100000 in
theorem c_X8_goesLikeliest {l : Launch} {G : va_G} {ca : Nat → ClassId} {ev : Nat → Nat} {h0 h1 h2 h3 h4 h5 h6 h7 h8 h9 h10 h11 h12 h13 h14 h15 h16 h17 : Nat} {now : (Nat → Int32)} {kept : (Nat → Int32)} {isKept : Int32} {found : (Nat → Int32)} {order : (Nat → Int32)} {doubts : (Nat → Int32)} {doubtMany : Int32} {weights : (Nat → Int64)} {worn : (Nat → Int32)} {pairs : Int64} {isTwice : Int32} {doer : (Nat → Int32)} {doneTo : (Nat → Int32)} {doers : (Nat → Int64)} {tape : (Nat → Int32)} {taped : Int32} {begins : Int32} {ends : Int32} {sort : Int32} {value : Int32} {isWrong : Int32} {items : (Nat → Int32)} {itemMany : Int32} {bowThen : Int32} {doubtThen : Int32} {deedThen : Int32} {sayingThen : Int32} {widths : (Nat → Int32)} {sizes : (Nat → Int32)} {numbers : (Nat → Int64)} {moved : (Nat → Int64)} {a1 : Int32} {N : Nat} {res : Int32 × (Nat → Int32) × (Nat → Int32) × Int32 × (Nat → Int64) × (Nat → Int32) × Int64 × Int32} (h : f_X8_goesLikeliest N now order doubts doubtMany weights worn pairs isTwice a1 = some res) : CtI l yX8_goesLikeliest wsX8_goesLikeliest rm_X8_goesLikeliest G ca ev [.ref h0, .int a1] (wM ca ev h0 h1 h2 h3 h4 h5 h6 h7 h8 h9 h10 h11 h12 h13 h14 h15 h16 h17 now kept isKept found order doubts doubtMany weights worn pairs isTwice doer doneTo doers tape taped begins ends sort value isWrong items itemMany bowThen doubtThen deedThen sayingThen widths sizes numbers moved) (wM ca ev h0 h1 h2 h3 h4 h5 h6 h7 h8 h9 h10 h11 h12 h13 h14 h15 h16 h17 now kept isKept found res.2.1 res.2.2.1 res.2.2.2.1 res.2.2.2.2.1 res.2.2.2.2.2.1 res.2.2.2.2.2.2.1 res.2.2.2.2.2.2.2 doer doneTo doers tape taped begins ends sort value isWrong items itemMany bowThen doubtThen deedThen sayingThen widths sizes numbers moved) res.1 := by
  unfold f_X8_goesLikeliest at h
  refine en_z (by decide) rfl (Nat.le_of_ble_eq_true rfl) ?_
  intro p e s m args below meth c A Q H locs ls hx hb hml hown hts hA hP hK hD hE hS hl hRet
  have hown : s.vm.findClass RX8 = some m.cls := hown
  have hl : lv_has ls 3 [(0, .ref h0), (1, .int a1)] := hl
  refine lv_aload_n hx hb dX8_goesLikeliest_0 rfl (lv_at hl 0 rfl) ?_
  obtain ⟨u_1, e_1, h⟩ := bd_some h
  refine cm_Vi (As := []) (rest := []) ⟨hx, hb, hml, hown, hts⟩ (c_X8_bestNight (ca := ca) (ev := ev) (h0 := h0) (h1 := h1) (h2 := h2) (h3 := h3) (h4 := h4) (h5 := h5) (h6 := h6) (h7 := h7) (h8 := h8) (h9 := h9) (h10 := h10) (h11 := h11) (h12 := h12) (h13 := h13) (h14 := h14) (h15 := h15) (h16 := h16) (h17 := h17) (now := now) (kept := kept) (isKept := isKept) (found := found) (order := order) (doubts := doubts) (doubtMany := doubtMany) (weights := weights) (worn := worn) (pairs := pairs) (isTwice := isTwice) (doer := doer) (doneTo := doneTo) (doers := doers) (tape := tape) (taped := taped) (begins := begins) (ends := ends) (sort := sort) (value := value) (isWrong := isWrong) (items := items) (itemMany := itemMany) (bowThen := bowThen) (doubtThen := doubtThen) (deedThen := deedThen) (sayingThen := sayingThen) (widths := widths) (sizes := sizes) (numbers := numbers) (moved := moved) e_1) (cwV 0 hts gX8_goesLikeliest_X8_bestNight rfl rfl rfl hd_X8_bestNight ⟨Nat.le_of_ble_eq_true rfl, Nat.le_of_ble_eq_true rfl⟩) hK hP hD hS hA hE (q0 := 0) (ci := 8) rfl rfl rfl rfl hl.1 rfl (Nat.le_of_ble_eq_true rfl) dX8_goesLikeliest_1 ⟨Nat.zero_le _, Nat.zero_le _⟩ (fun H locs hP hD hS => ?_)
  refine lv_istore_n (lv' := [(2, .int u_1.1), (0, .ref h0), (1, .int a1)]) hx hb dX8_goesLikeliest_4 rfl hl (by decide) rfl (fun ls hl => ?_)
  refine lv_iload_n hx hb dX8_goesLikeliest_5 rfl (lv_at hl 0 rfl) ?_
  obtain ⟨u_2, e_2, h⟩ := bd_some h
  have J_2 : ∀ {H : Heap} {locs : List Loc} {ls : Array Slot}, va_P G vwCl (wM ca ev h0 h1 h2 h3 h4 h5 h6 h7 h8 h9 h10 h11 h12 h13 h14 h15 h16 h17 now kept isKept found u_1.2.1 u_1.2.2.1 u_1.2.2.2.1 u_1.2.2.2.2.1 u_2.1 u_2.2.1 u_2.2.2 doer doneTo doers tape taped begins ends sort value isWrong items itemMany bowThen doubtThen deedThen sayingThen widths sizes numbers moved) H → va_D A (wM ca ev h0 h1 h2 h3 h4 h5 h6 h7 h8 h9 h10 h11 h12 h13 h14 h15 h16 h17 now kept isKept found u_1.2.1 u_1.2.2.1 u_1.2.2.2.1 u_1.2.2.2.2.1 u_2.1 u_2.2.1 u_2.2.2 doer doneTo doers tape taped begins ends sort value isWrong items itemMany bowThen doubtThen deedThen sayingThen widths sizes numbers moved) → va_S A s.heap H locs → lv_has ls 3 [(2, .int u_1.1)] → W p l e rm_X8_goesLikeliest s m args below meth c H locs 0 0 Q (F0 m 15 ls []) := by
    intro H locs ls hP hD hS hl 
    refine lv_iload_n hx hb dX8_goesLikeliest_15 rfl (lv_at hl 0 rfl) ?_
    refine lv_if_lt (tgt := 23) hx hb dX8_goesLikeliest_16 (by decide) (fun c_4 => ?_) (fun c_4 => ?_)
    · have h := ifp c_4 h
      refine lv_iconst (v := (0 : Int32)) hx hb dX8_goesLikeliest_23 (by decide) ?_
      obtain rfl := Option.some.inj h
      exact hRet hP hD hS zb_0 dX8_goesLikeliest_24
    · have h := ifn c_4 h
      refine lv_iconst (v := (1 : Int32)) hx hb dX8_goesLikeliest_19 (by decide) ?_
      refine lv_goto (tgt := 24) hx hb dX8_goesLikeliest_20 (by decide) ?_
      obtain rfl := Option.some.inj h
      exact hRet hP hD hS zb_1 dX8_goesLikeliest_24
  have h := e_2
  clear e_2
  refine lv_if_lt (tgt := 15) hx hb dX8_goesLikeliest_6 (by decide) (fun c_2 => ?_) (fun c_2 => ?_)
  · have h := ifp c_2 h
    obtain rfl := Option.some.inj h
    exact J_2 hP hD hS (lv_sub hl [0] rfl)
  · have h := ifn c_2 h
    refine lv_aload_n hx hb dX8_goesLikeliest_9 rfl (lv_at hl 1 rfl) ?_
    refine lv_iload_n hx hb dX8_goesLikeliest_10 rfl (lv_at hl 0 rfl) ?_
    refine lv_iload_n hx hb dX8_goesLikeliest_11 rfl (lv_at hl 2 rfl) ?_
    obtain ⟨u_3, e_3, h⟩ := bd_some h
    refine cm_Vv (As := [.int u_1.1, .int a1]) (rest := []) ⟨hx, hb, hml, hown, hts⟩ (c_X8_goes (ca := ca) (ev := ev) (h0 := h0) (h1 := h1) (h2 := h2) (h3 := h3) (h4 := h4) (h5 := h5) (h6 := h6) (h7 := h7) (h8 := h8) (h9 := h9) (h10 := h10) (h11 := h11) (h12 := h12) (h13 := h13) (h14 := h14) (h15 := h15) (h16 := h16) (h17 := h17) (now := now) (kept := kept) (isKept := isKept) (found := found) (order := u_1.2.1) (doubts := u_1.2.2.1) (doubtMany := u_1.2.2.2.1) (weights := u_1.2.2.2.2.1) (worn := u_1.2.2.2.2.2.1) (pairs := u_1.2.2.2.2.2.2.1) (isTwice := u_1.2.2.2.2.2.2.2) (doer := doer) (doneTo := doneTo) (doers := doers) (tape := tape) (taped := taped) (begins := begins) (ends := ends) (sort := sort) (value := value) (isWrong := isWrong) (items := items) (itemMany := itemMany) (bowThen := bowThen) (doubtThen := doubtThen) (deedThen := deedThen) (sayingThen := sayingThen) (widths := widths) (sizes := sizes) (numbers := numbers) (moved := moved) e_3) (cwV 2 hts gX8_goesLikeliest_X8_goes rfl rfl rfl hd_X8_goes ⟨Nat.le_of_ble_eq_true rfl, Nat.le_of_ble_eq_true rfl⟩) hK hP hD hS hA hE (q0 := 0) (ci := 8) rfl rfl rfl rfl hl.1 rfl (Nat.le_of_ble_eq_true rfl) dX8_goesLikeliest_12 ⟨Nat.zero_le _, Nat.zero_le _⟩ (fun H locs hP hD hS => ?_)
    obtain rfl := Option.some.inj h
    exact J_2 hP hD hS (lv_sub hl [0] rfl)
abbrev rm_X8_notHome : Room := { frames := 0, cells := 0, slots := 0, locals := 0 }
theorem hd_X8_notHome : yX8_notHome.cls = RX8 ∧ yX8_notHome.cls ≠ "java/lang/invoke/MethodHandle" ∧ yX8_notHome.cls ≠ "java/lang/invoke/VarHandle" ∧ (parseMethodDescriptor yX8_notHome.desc).map (fun d => d.parameters.length) = some 0 := by decide +kernel
set_option maxHeartbeats 4000000 in
set_option maxRecDepth 100000 in
theorem c_X8_notHome {l : Launch} {G : va_G} {ca : Nat → ClassId} {ev : Nat → Nat} {h0 h1 h2 h3 h4 h5 h6 h7 h8 h9 h10 h11 h12 h13 h14 h15 h16 h17 : Nat} {now : (Nat → Int32)} {kept : (Nat → Int32)} {isKept : Int32} {found : (Nat → Int32)} {order : (Nat → Int32)} {doubts : (Nat → Int32)} {doubtMany : Int32} {weights : (Nat → Int64)} {worn : (Nat → Int32)} {pairs : Int64} {isTwice : Int32} {doer : (Nat → Int32)} {doneTo : (Nat → Int32)} {doers : (Nat → Int64)} {tape : (Nat → Int32)} {taped : Int32} {begins : Int32} {ends : Int32} {sort : Int32} {value : Int32} {isWrong : Int32} {items : (Nat → Int32)} {itemMany : Int32} {bowThen : Int32} {doubtThen : Int32} {deedThen : Int32} {sayingThen : Int32} {widths : (Nat → Int32)} {sizes : (Nat → Int32)} {numbers : (Nat → Int64)} {moved : (Nat → Int64)}  {N : Nat} {res : Int32} (h : f_X8_notHome N now worn = some res) : CtI l yX8_notHome wsX8_notHome rm_X8_notHome G ca ev [.ref h0] (wM ca ev h0 h1 h2 h3 h4 h5 h6 h7 h8 h9 h10 h11 h12 h13 h14 h15 h16 h17 now kept isKept found order doubts doubtMany weights worn pairs isTwice doer doneTo doers tape taped begins ends sort value isWrong items itemMany bowThen doubtThen deedThen sayingThen widths sizes numbers moved) (wM ca ev h0 h1 h2 h3 h4 h5 h6 h7 h8 h9 h10 h11 h12 h13 h14 h15 h16 h17 now kept isKept found order doubts doubtMany weights worn pairs isTwice doer doneTo doers tape taped begins ends sort value isWrong items itemMany bowThen doubtThen deedThen sayingThen widths sizes numbers moved) res := by
  unfold f_X8_notHome at h
  refine en_i (by decide) rfl (Nat.le_of_ble_eq_true rfl) ?_
  intro p e s m args below meth c A Q H locs ls hx hb hml hown hts hA hP hK hD hE hS hl hRet
  have hown : s.vm.findClass RX8 = some m.cls := hown
  have hl : lv_has ls 3 [(0, .ref h0)] := hl
  have hin_X8 : ∀ w ∈ u_ws RX8 TX8 32, w ∈ wsX8_notHome := fun w h9 => List.mem_cons_of_mem _ (List.mem_append_right _ h9)
  have fk_29 := hts (.fieldLink RX8 29 "MaskBowsModel" "worn" "[I") (by decide +kernel)
  have fk_9 := hts (.fieldLink RX8 9 "MaskBowsModel" "now" "[I") (by decide +kernel)
  refine lv_iconst (v := (-1 : Int32)) hx hb dX8_notHome_0 (by decide) ?_
  refine lv_istore_n (lv' := [(1, .int (-1 : Int32)), (0, .ref h0)]) hx hb dX8_notHome_1 rfl hl (by decide) rfl (fun ls hl => ?_)
  refine lv_aload_n hx hb dX8_notHome_2 rfl (lv_at hl 1 rfl) ?_
  refine va_get (D := G) (ci := 8) (v := .ref h1) (C := RX8) (T := TX8) (N := 32) hx hb hts hin_X8 hown hK hP 0 rfl rfl 0 (by decide) fk_9 (fun _ h9 => h9) rfl dX8_notHome_3 ?_
  refine lv_iconst (v := (0 : Int32)) hx hb dX8_notHome_6 (by decide) ?_
  refine va_iald hx hb hK hP 1 0 rfl rfl (ix_in (by decide)) dX8_notHome_7 ?_
  refine lv_iconst (v := (1 : Int32)) hx hb dX8_notHome_8 (by decide) ?_
  refine lv_isub hx hb dX8_notHome_9 ?_
  refine lv_istore_n (lv' := [(2, .int ((now (0 : Int32).toNatClampNeg) - (1 : Int32))), (1, .int (-1 : Int32)), (0, .ref h0)]) hx hb dX8_notHome_10 rfl hl (by decide) rfl (fun ls hl => ?_)
  have L_11 : ∀  {worn_11 : (Nat → Int32)} (n_11 : Nat) {x1_11 : Int32} {x2_11 : Int32} {uL_11 : Int32} {H : Heap} {locs : List Loc} {ls : Array Slot}, f_X8_notHome_11 worn_11  n_11 x1_11 x2_11 = some uL_11 → va_P G vwCl (wM ca ev h0 h1 h2 h3 h4 h5 h6 h7 h8 h9 h10 h11 h12 h13 h14 h15 h16 h17 now kept isKept found order doubts doubtMany weights worn_11 pairs isTwice doer doneTo doers tape taped begins ends sort value isWrong items itemMany bowThen doubtThen deedThen sayingThen widths sizes numbers moved) H → va_D A (wM ca ev h0 h1 h2 h3 h4 h5 h6 h7 h8 h9 h10 h11 h12 h13 h14 h15 h16 h17 now kept isKept found order doubts doubtMany weights worn_11 pairs isTwice doer doneTo doers tape taped begins ends sort value isWrong items itemMany bowThen doubtThen deedThen sayingThen widths sizes numbers moved) → va_S A s.heap H locs → lv_has ls 3 [(0, .ref h0), (1, .int x1_11), (2, .int x2_11)] → (∀ {H : Heap} {locs : List Loc} {ls : Array Slot}, va_P G vwCl (wM ca ev h0 h1 h2 h3 h4 h5 h6 h7 h8 h9 h10 h11 h12 h13 h14 h15 h16 h17 now kept isKept found order doubts doubtMany weights worn_11 pairs isTwice doer doneTo doers tape taped begins ends sort value isWrong items itemMany bowThen doubtThen deedThen sayingThen widths sizes numbers moved) H → va_D A (wM ca ev h0 h1 h2 h3 h4 h5 h6 h7 h8 h9 h10 h11 h12 h13 h14 h15 h16 h17 now kept isKept found order doubts doubtMany weights worn_11 pairs isTwice doer doneTo doers tape taped begins ends sort value isWrong items itemMany bowThen doubtThen deedThen sayingThen widths sizes numbers moved) → va_S A s.heap H locs → lv_has ls 3 [(1, .int uL_11)] → W p l e rm_X8_notHome s m args below meth c H locs 0 0 Q (F0 m 37 ls [])) → W p l e rm_X8_notHome s m args below meth c H locs 0 0 Q (F0 m 11 ls []) := by
    intro worn_11 n_11
    induction n_11 with
    | zero => intro x1_11 x2_11 uL_11 H locs ls h; exact absurd h (by rw [f_X8_notHome_11]; exact fun z => nomatch z)
    | succ n_11 ih =>
      intro x1_11 x2_11 uL_11 H locs ls h hP hD hS hl JK_11
      rw [f_X8_notHome_11] at h
      refine lv_iload_n hx hb dX8_notHome_11 rfl (lv_at hl 2 rfl) ?_
      refine lv_if_lt (tgt := 37) hx hb dX8_notHome_12 (by decide) (fun c_1 => ?_) (fun c_1 => ?_)
      · have h := ifp c_1 h
        obtain rfl := Option.some.inj h
        exact JK_11 hP hD hS (lv_sub hl [1] rfl)
      · have h := ifn c_1 h
        refine lv_aload_n hx hb dX8_notHome_15 rfl (lv_at hl 0 rfl) ?_
        refine va_get (D := G) (ci := 8) (v := .ref h7) (C := RX8) (T := TX8) (N := 32) hx hb hts hin_X8 hown hK hP 0 rfl rfl 8 (by decide) fk_29 (fun _ h9 => h9) rfl dX8_notHome_16 ?_
        refine lv_iload_n hx hb dX8_notHome_19 rfl (lv_at hl 2 rfl) ?_
        obtain ⟨i_2, h⟩ := gd_some h
        refine va_iald hx hb hK hP 7 0 rfl rfl (ix_in i_2) dX8_notHome_20 ?_
        refine lv_iload_n hx hb dX8_notHome_21 rfl (lv_at hl 2 rfl) ?_
        obtain ⟨u_3, e_3, h⟩ := bd_some h
        have J_3 : ∀ {H : Heap} {locs : List Loc} {ls : Array Slot}, va_P G vwCl (wM ca ev h0 h1 h2 h3 h4 h5 h6 h7 h8 h9 h10 h11 h12 h13 h14 h15 h16 h17 now kept isKept found order doubts doubtMany weights worn_11 pairs isTwice doer doneTo doers tape taped begins ends sort value isWrong items itemMany bowThen doubtThen deedThen sayingThen widths sizes numbers moved) H → va_D A (wM ca ev h0 h1 h2 h3 h4 h5 h6 h7 h8 h9 h10 h11 h12 h13 h14 h15 h16 h17 now kept isKept found order doubts doubtMany weights worn_11 pairs isTwice doer doneTo doers tape taped begins ends sort value isWrong items itemMany bowThen doubtThen deedThen sayingThen widths sizes numbers moved) → va_S A s.heap H locs → lv_has ls 3 [(0, .ref h0), (2, .int x2_11)] → W p l e rm_X8_notHome s m args below meth c H locs 0 0 Q (F0 m 30 ls [.int u_3]) := by
          intro H locs ls hP hD hS hl 
          refine lv_istore_n (lv' := [(1, .int u_3), (0, .ref h0), (2, .int x2_11)]) hx hb dX8_notHome_30 rfl hl (by decide) rfl (fun ls hl => ?_)
          refine lv_iinc (v := (x2_11 + (-1 : Int32))) (lv' := [(2, .int (x2_11 + (-1 : Int32))), (1, .int u_3), (0, .ref h0)]) hx hb dX8_notHome_31 hl (k := 2) rfl rfl (by decide) rfl (fun ls hl => ?_)
          refine lv_goto (tgt := 11) hx hb dX8_notHome_34 (by decide) ?_
          exact ih h hP hD hS (lv_sub hl [2, 1, 0] rfl) JK_11
        have h := e_3
        clear e_3
        refine lv_icmp_ne (tgt := 29) hx hb dX8_notHome_22 (by decide) (fun c_3 => ?_) (fun c_3 => ?_)
        · have h := ifn c_3 h
          refine lv_iload_n hx hb dX8_notHome_29 rfl (lv_at hl 2 rfl) ?_
          obtain rfl := Option.some.inj h
          exact J_3 hP hD hS (lv_sub hl [0, 2] rfl)
        · have h := ifp c_3 h
          refine lv_iload_n hx hb dX8_notHome_25 rfl (lv_at hl 1 rfl) ?_
          refine lv_goto (tgt := 30) hx hb dX8_notHome_26 (by decide) ?_
          obtain rfl := Option.some.inj h
          exact J_3 hP hD hS (lv_sub hl [0, 2] rfl)
  obtain ⟨u_4, e_4, h⟩ := bd_some h
  refine L_11 _ e_4 hP hD hS (lv_sub hl [2, 1, 0] rfl) ?_
  intro H locs ls hP hD hS hl
  refine lv_iload_n hx hb dX8_notHome_37 rfl (lv_at hl 0 rfl) ?_
  obtain rfl := Option.some.inj h
  exact hRet hP hD hS dX8_notHome_38
abbrev rm_X8_bowsHome : Room := { frames := 2, cells := 0, slots := 0, locals := 49 }
theorem hd_X8_bowsHome : yX8_bowsHome.cls = RX8 ∧ yX8_bowsHome.cls ≠ "java/lang/invoke/MethodHandle" ∧ yX8_bowsHome.cls ≠ "java/lang/invoke/VarHandle" ∧ (parseMethodDescriptor yX8_bowsHome.desc).map (fun d => d.parameters.length) = some 1 := by decide +kernel
set_option maxHeartbeats 4000000 in
set_option maxRecDepth 100000 in
theorem c_X8_bowsHome {l : Launch} {G : va_G} {ca : Nat → ClassId} {ev : Nat → Nat} {h0 h1 h2 h3 h4 h5 h6 h7 h8 h9 h10 h11 h12 h13 h14 h15 h16 h17 : Nat} {now : (Nat → Int32)} {kept : (Nat → Int32)} {isKept : Int32} {found : (Nat → Int32)} {order : (Nat → Int32)} {doubts : (Nat → Int32)} {doubtMany : Int32} {weights : (Nat → Int64)} {worn : (Nat → Int32)} {pairs : Int64} {isTwice : Int32} {doer : (Nat → Int32)} {doneTo : (Nat → Int32)} {doers : (Nat → Int64)} {tape : (Nat → Int32)} {taped : Int32} {begins : Int32} {ends : Int32} {sort : Int32} {value : Int32} {isWrong : Int32} {items : (Nat → Int32)} {itemMany : Int32} {bowThen : Int32} {doubtThen : Int32} {deedThen : Int32} {sayingThen : Int32} {widths : (Nat → Int32)} {sizes : (Nat → Int32)} {numbers : (Nat → Int64)} {moved : (Nat → Int64)} {a1 : Int32} {N : Nat} {res : Int32 × (Nat → Int32) × Int64 × Int32} (h : f_X8_bowsHome N worn pairs isTwice a1 = some res) : CtI l yX8_bowsHome wsX8_bowsHome rm_X8_bowsHome G ca ev [.ref h0, .int a1] (wM ca ev h0 h1 h2 h3 h4 h5 h6 h7 h8 h9 h10 h11 h12 h13 h14 h15 h16 h17 now kept isKept found order doubts doubtMany weights worn pairs isTwice doer doneTo doers tape taped begins ends sort value isWrong items itemMany bowThen doubtThen deedThen sayingThen widths sizes numbers moved) (wM ca ev h0 h1 h2 h3 h4 h5 h6 h7 h8 h9 h10 h11 h12 h13 h14 h15 h16 h17 now kept isKept found order doubts doubtMany weights res.2.1 res.2.2.1 res.2.2.2 doer doneTo doers tape taped begins ends sort value isWrong items itemMany bowThen doubtThen deedThen sayingThen widths sizes numbers moved) res.1 := by
  unfold f_X8_bowsHome at h
  refine en_i (by decide) rfl (Nat.le_of_ble_eq_true rfl) ?_
  intro p e s m args below meth c A Q H locs ls hx hb hml hown hts hA hP hK hD hE hS hl hRet
  have hown : s.vm.findClass RX8 = some m.cls := hown
  have hl : lv_has ls 3 [(0, .ref h0), (1, .int a1)] := hl
  refine lv_aload_n hx hb dX8_bowsHome_0 rfl (lv_at hl 0 rfl) ?_
  refine lv_iload_n hx hb dX8_bowsHome_1 rfl (lv_at hl 1 rfl) ?_
  obtain ⟨u_1, e_1, h⟩ := bd_some h
  refine cm_Vi (As := [.int a1]) (rest := []) ⟨hx, hb, hml, hown, hts⟩ (c_X8_maskOf (ca := ca) (ev := ev) (h0 := h0) (h1 := h1) (h2 := h2) (h3 := h3) (h4 := h4) (h5 := h5) (h6 := h6) (h7 := h7) (h8 := h8) (h9 := h9) (h10 := h10) (h11 := h11) (h12 := h12) (h13 := h13) (h14 := h14) (h15 := h15) (h16 := h16) (h17 := h17) (now := now) (kept := kept) (isKept := isKept) (found := found) (order := order) (doubts := doubts) (doubtMany := doubtMany) (weights := weights) (worn := worn) (pairs := pairs) (isTwice := isTwice) (doer := doer) (doneTo := doneTo) (doers := doers) (tape := tape) (taped := taped) (begins := begins) (ends := ends) (sort := sort) (value := value) (isWrong := isWrong) (items := items) (itemMany := itemMany) (bowThen := bowThen) (doubtThen := doubtThen) (deedThen := deedThen) (sayingThen := sayingThen) (widths := widths) (sizes := sizes) (numbers := numbers) (moved := moved) e_1) (cwV 1 hts gX8_bowsHome_X8_maskOf rfl rfl rfl hd_X8_maskOf ⟨Nat.le_of_ble_eq_true rfl, Nat.le_of_ble_eq_true rfl⟩) hK hP hD hS hA hE (q0 := 0) (ci := 8) rfl rfl rfl rfl hl.1 rfl (Nat.le_of_ble_eq_true rfl) dX8_bowsHome_2 ⟨Nat.zero_le _, Nat.zero_le _⟩ (fun H locs hP hD hS => ?_)
  refine lv_istore_n (lv' := [(2, .int u_1), (0, .ref h0), (1, .int a1)]) hx hb dX8_bowsHome_5 rfl hl (by decide) rfl (fun ls hl => ?_)
  refine lv_aload_n hx hb dX8_bowsHome_6 rfl (lv_at hl 1 rfl) ?_
  refine lv_iload_n hx hb dX8_bowsHome_7 rfl (lv_at hl 2 rfl) ?_
  refine lv_iload_n hx hb dX8_bowsHome_8 rfl (lv_at hl 0 rfl) ?_
  obtain ⟨u_2, e_2, h⟩ := bd_some h
  refine cm_Vv (As := [.int a1, .int u_1]) (rest := []) ⟨hx, hb, hml, hown, hts⟩ (c_X8_change (ca := ca) (ev := ev) (h0 := h0) (h1 := h1) (h2 := h2) (h3 := h3) (h4 := h4) (h5 := h5) (h6 := h6) (h7 := h7) (h8 := h8) (h9 := h9) (h10 := h10) (h11 := h11) (h12 := h12) (h13 := h13) (h14 := h14) (h15 := h15) (h16 := h16) (h17 := h17) (now := now) (kept := kept) (isKept := isKept) (found := found) (order := order) (doubts := doubts) (doubtMany := doubtMany) (weights := weights) (worn := worn) (pairs := pairs) (isTwice := isTwice) (doer := doer) (doneTo := doneTo) (doers := doers) (tape := tape) (taped := taped) (begins := begins) (ends := ends) (sort := sort) (value := value) (isWrong := isWrong) (items := items) (itemMany := itemMany) (bowThen := bowThen) (doubtThen := doubtThen) (deedThen := deedThen) (sayingThen := sayingThen) (widths := widths) (sizes := sizes) (numbers := numbers) (moved := moved) e_2) (cwV 2 hts gX8_bowsHome_X8_change rfl rfl rfl hd_X8_change ⟨Nat.le_of_ble_eq_true rfl, Nat.le_of_ble_eq_true rfl⟩) hK hP hD hS hA hE (q0 := 0) (ci := 8) rfl rfl rfl rfl hl.1 rfl (Nat.le_of_ble_eq_true rfl) dX8_bowsHome_9 ⟨Nat.zero_le _, Nat.zero_le _⟩ (fun H locs hP hD hS => ?_)
  refine lv_bipush (v := (10 : Int32)) hx hb dX8_bowsHome_12 (by decide) ?_
  refine lv_iload_n hx hb dX8_bowsHome_14 rfl (lv_at hl 2 rfl) ?_
  refine lv_iload_n hx hb dX8_bowsHome_15 rfl (lv_at hl 0 rfl) ?_
  refine va_mmin hx hb (hml.trans hl.1.symm) hown (hts (.methodLink RX8 145 Lib.Math.min.name) (by decide +kernel)) (hts (.static Lib.Math.min.name) (by decide +kernel)) (hts (.initialized "java/lang/Math") (by decide +kernel)) (hts (.code Lib.Math.min.name Lib.Math.min.code 2 (some .int)) (by decide +kernel)) (Nat.le_of_ble_eq_true rfl) (Nat.le_of_ble_eq_true rfl) (Nat.zero_le _) (Nat.zero_le _) dX8_bowsHome_16 ?_
  refine lv_imul hx hb dX8_bowsHome_19 ?_
  refine lv_iload_n hx hb dX8_bowsHome_20 rfl (lv_at hl 2 rfl) ?_
  refine lv_iload_n hx hb dX8_bowsHome_21 rfl (lv_at hl 0 rfl) ?_
  refine va_mmax hx hb (hml.trans hl.1.symm) hown (hts (.methodLink RX8 150 Lib.Math.max.name) (by decide +kernel)) (hts (.static Lib.Math.max.name) (by decide +kernel)) (hts (.initialized "java/lang/Math") (by decide +kernel)) (hts (.code Lib.Math.max.name Lib.Math.max.code 2 (some .int)) (by decide +kernel)) (Nat.le_of_ble_eq_true rfl) (Nat.le_of_ble_eq_true rfl) (Nat.zero_le _) (Nat.zero_le _) dX8_bowsHome_22 ?_
  refine lv_iadd hx hb dX8_bowsHome_25 ?_
  obtain rfl := Option.some.inj h
  exact hRet hP hD hS dX8_bowsHome_26
abbrev rm_X8_home : Room := { frames := 7, cells := 0, slots := 0, locals := 164 }
theorem hd_X8_home : yX8_home.cls = RX8 ∧ yX8_home.cls ≠ "java/lang/invoke/MethodHandle" ∧ yX8_home.cls ≠ "java/lang/invoke/VarHandle" ∧ (parseMethodDescriptor yX8_home.desc).map (fun d => d.parameters.length) = some 0 := by decide +kernel
set_option maxHeartbeats 4000000 in
set_option maxRecDepth 100000 in
theorem c_X8_home {l : Launch} {G : va_G} {ca : Nat → ClassId} {ev : Nat → Nat} {h0 h1 h2 h3 h4 h5 h6 h7 h8 h9 h10 h11 h12 h13 h14 h15 h16 h17 : Nat} {now : (Nat → Int32)} {kept : (Nat → Int32)} {isKept : Int32} {found : (Nat → Int32)} {order : (Nat → Int32)} {doubts : (Nat → Int32)} {doubtMany : Int32} {weights : (Nat → Int64)} {worn : (Nat → Int32)} {pairs : Int64} {isTwice : Int32} {doer : (Nat → Int32)} {doneTo : (Nat → Int32)} {doers : (Nat → Int64)} {tape : (Nat → Int32)} {taped : Int32} {begins : Int32} {ends : Int32} {sort : Int32} {value : Int32} {isWrong : Int32} {items : (Nat → Int32)} {itemMany : Int32} {bowThen : Int32} {doubtThen : Int32} {deedThen : Int32} {sayingThen : Int32} {widths : (Nat → Int32)} {sizes : (Nat → Int32)} {numbers : (Nat → Int64)} {moved : (Nat → Int64)}  {N : Nat} {res : Int32 × (Nat → Int32) × (Nat → Int32) × (Nat → Int32) × Int32 × (Nat → Int64) × (Nat → Int32) × Int64 × Int32} (h : f_X8_home N now found order doubts doubtMany weights worn pairs isTwice = some res) : CtI l yX8_home wsX8_home rm_X8_home G ca ev [.ref h0] (wM ca ev h0 h1 h2 h3 h4 h5 h6 h7 h8 h9 h10 h11 h12 h13 h14 h15 h16 h17 now kept isKept found order doubts doubtMany weights worn pairs isTwice doer doneTo doers tape taped begins ends sort value isWrong items itemMany bowThen doubtThen deedThen sayingThen widths sizes numbers moved) (wM ca ev h0 h1 h2 h3 h4 h5 h6 h7 h8 h9 h10 h11 h12 h13 h14 h15 h16 h17 now kept isKept res.2.1 res.2.2.1 res.2.2.2.1 res.2.2.2.2.1 res.2.2.2.2.2.1 res.2.2.2.2.2.2.1 res.2.2.2.2.2.2.2.1 res.2.2.2.2.2.2.2.2 doer doneTo doers tape taped begins ends sort value isWrong items itemMany bowThen doubtThen deedThen sayingThen widths sizes numbers moved) res.1 := by
  unfold f_X8_home at h
  refine en_i (by decide) rfl (Nat.le_of_ble_eq_true rfl) ?_
  intro p e s m args below meth c A Q H locs ls hx hb hml hown hts hA hP hK hD hE hS hl hRet
  have hown : s.vm.findClass RX8 = some m.cls := hown
  have hl : lv_has ls 3 [(0, .ref h0)] := hl
  refine lv_aload_n hx hb dX8_home_0 rfl (lv_at hl 0 rfl) ?_
  refine lv_bipush (v := (99 : Int32)) hx hb dX8_home_1 (by decide) ?_
  obtain ⟨u_1, e_1, h⟩ := bd_some h
  refine cm_Vi (As := [.int (99 : Int32)]) (rest := []) ⟨hx, hb, hml, hown, hts⟩ (c_X8_goesLikeliest (ca := ca) (ev := ev) (h0 := h0) (h1 := h1) (h2 := h2) (h3 := h3) (h4 := h4) (h5 := h5) (h6 := h6) (h7 := h7) (h8 := h8) (h9 := h9) (h10 := h10) (h11 := h11) (h12 := h12) (h13 := h13) (h14 := h14) (h15 := h15) (h16 := h16) (h17 := h17) (now := now) (kept := kept) (isKept := isKept) (found := found) (order := order) (doubts := doubts) (doubtMany := doubtMany) (weights := weights) (worn := worn) (pairs := pairs) (isTwice := isTwice) (doer := doer) (doneTo := doneTo) (doers := doers) (tape := tape) (taped := taped) (begins := begins) (ends := ends) (sort := sort) (value := value) (isWrong := isWrong) (items := items) (itemMany := itemMany) (bowThen := bowThen) (doubtThen := doubtThen) (deedThen := deedThen) (sayingThen := sayingThen) (widths := widths) (sizes := sizes) (numbers := numbers) (moved := moved) e_1) (cwV 1 hts gX8_home_X8_goesLikeliest rfl rfl rfl hd_X8_goesLikeliest ⟨Nat.le_of_ble_eq_true rfl, Nat.le_of_ble_eq_true rfl⟩) hK hP hD hS hA hE (q0 := 0) (ci := 8) rfl rfl rfl rfl hl.1 rfl (Nat.le_of_ble_eq_true rfl) dX8_home_3 ⟨Nat.zero_le _, Nat.zero_le _⟩ (fun H locs hP hD hS => ?_)
  refine lv_if_ne (tgt := 16) hx hb dX8_home_6 (by decide) (fun c_2 => ?_) (fun c_2 => ?_)
  · have h := ifn c_2 h
    refine lv_iconst (v := (0 : Int32)) hx hb dX8_home_16 (by decide) ?_
    refine lv_istore_n (lv' := [(1, .int (0 : Int32)), (0, .ref h0)]) hx hb dX8_home_17 rfl hl (by decide) rfl (fun ls hl => ?_)
    refine lv_aload_n hx hb dX8_home_18 rfl (lv_at hl 1 rfl) ?_
    obtain ⟨u_3, e_3, h⟩ := bd_some h
    refine cm_Vi (As := []) (rest := []) ⟨hx, hb, hml, hown, hts⟩ (c_X8_notHome (ca := ca) (ev := ev) (h0 := h0) (h1 := h1) (h2 := h2) (h3 := h3) (h4 := h4) (h5 := h5) (h6 := h6) (h7 := h7) (h8 := h8) (h9 := h9) (h10 := h10) (h11 := h11) (h12 := h12) (h13 := h13) (h14 := h14) (h15 := h15) (h16 := h16) (h17 := h17) (now := now) (kept := kept) (isKept := isKept) (found := found) (order := u_1.2.1) (doubts := u_1.2.2.1) (doubtMany := u_1.2.2.2.1) (weights := u_1.2.2.2.2.1) (worn := u_1.2.2.2.2.2.1) (pairs := u_1.2.2.2.2.2.2.1) (isTwice := u_1.2.2.2.2.2.2.2) (doer := doer) (doneTo := doneTo) (doers := doers) (tape := tape) (taped := taped) (begins := begins) (ends := ends) (sort := sort) (value := value) (isWrong := isWrong) (items := items) (itemMany := itemMany) (bowThen := bowThen) (doubtThen := doubtThen) (deedThen := deedThen) (sayingThen := sayingThen) (widths := widths) (sizes := sizes) (numbers := numbers) (moved := moved) e_3) (cwV 0 hts gX8_home_X8_notHome rfl rfl rfl hd_X8_notHome ⟨Nat.le_of_ble_eq_true rfl, Nat.le_of_ble_eq_true rfl⟩) hK hP hD hS hA hE (q0 := 0) (ci := 8) rfl rfl rfl rfl hl.1 rfl (Nat.le_of_ble_eq_true rfl) dX8_home_19 ⟨Nat.zero_le _, Nat.zero_le _⟩ (fun H locs hP hD hS => ?_)
    refine lv_istore_n (lv' := [(2, .int u_3), (1, .int (0 : Int32)), (0, .ref h0)]) hx hb dX8_home_22 rfl hl (by decide) rfl (fun ls hl => ?_)
    have L_23 : ∀  {now_23 : (Nat → Int32)} (n_23 : Nat) {x1_23 : Int32} {x2_23 : Int32} {worn_23 : (Nat → Int32)} {pairs_23 : Int64} {isTwice_23 : Int32} {uL_23 : Int32 × (Nat → Int32) × Int64 × Int32} {H : Heap} {locs : List Loc} {ls : Array Slot}, f_X8_home_23 N now_23  n_23 x1_23 x2_23 worn_23 pairs_23 isTwice_23 = some uL_23 → va_P G vwCl (wM ca ev h0 h1 h2 h3 h4 h5 h6 h7 h8 h9 h10 h11 h12 h13 h14 h15 h16 h17 now_23 kept isKept found u_1.2.1 u_1.2.2.1 u_1.2.2.2.1 u_1.2.2.2.2.1 worn_23 pairs_23 isTwice_23 doer doneTo doers tape taped begins ends sort value isWrong items itemMany bowThen doubtThen deedThen sayingThen widths sizes numbers moved) H → va_D A (wM ca ev h0 h1 h2 h3 h4 h5 h6 h7 h8 h9 h10 h11 h12 h13 h14 h15 h16 h17 now_23 kept isKept found u_1.2.1 u_1.2.2.1 u_1.2.2.2.1 u_1.2.2.2.2.1 worn_23 pairs_23 isTwice_23 doer doneTo doers tape taped begins ends sort value isWrong items itemMany bowThen doubtThen deedThen sayingThen widths sizes numbers moved) → va_S A s.heap H locs → lv_has ls 3 [(0, .ref h0), (1, .int x1_23), (2, .int x2_23)] → (∀ {H : Heap} {locs : List Loc} {ls : Array Slot}, va_P G vwCl (wM ca ev h0 h1 h2 h3 h4 h5 h6 h7 h8 h9 h10 h11 h12 h13 h14 h15 h16 h17 now_23 kept isKept found u_1.2.1 u_1.2.2.1 u_1.2.2.2.1 u_1.2.2.2.2.1 uL_23.2.1 uL_23.2.2.1 uL_23.2.2.2 doer doneTo doers tape taped begins ends sort value isWrong items itemMany bowThen doubtThen deedThen sayingThen widths sizes numbers moved) H → va_D A (wM ca ev h0 h1 h2 h3 h4 h5 h6 h7 h8 h9 h10 h11 h12 h13 h14 h15 h16 h17 now_23 kept isKept found u_1.2.1 u_1.2.2.1 u_1.2.2.2.1 u_1.2.2.2.2.1 uL_23.2.1 uL_23.2.2.1 uL_23.2.2.2 doer doneTo doers tape taped begins ends sort value isWrong items itemMany bowThen doubtThen deedThen sayingThen widths sizes numbers moved) → va_S A s.heap H locs → lv_has ls 3 [(1, .int uL_23.1)] → W p l e rm_X8_home s m args below meth c H locs 0 0 Q (F0 m 44 ls [])) → W p l e rm_X8_home s m args below meth c H locs 0 0 Q (F0 m 23 ls []) := by
      intro now_23 n_23
      induction n_23 with
      | zero => intro x1_23 x2_23 worn_23 pairs_23 isTwice_23 uL_23 H locs ls h; exact absurd h (by rw [f_X8_home_23]; exact fun z => nomatch z)
      | succ n_23 ih =>
        intro x1_23 x2_23 worn_23 pairs_23 isTwice_23 uL_23 H locs ls h hP hD hS hl JK_23
        rw [f_X8_home_23] at h
        refine lv_iload_n hx hb dX8_home_23 rfl (lv_at hl 2 rfl) ?_
        refine lv_if_lt (tgt := 44) hx hb dX8_home_24 (by decide) (fun c_4 => ?_) (fun c_4 => ?_)
        · have h := ifp c_4 h
          obtain rfl := Option.some.inj h
          exact JK_23 hP hD hS (lv_sub hl [1] rfl)
        · have h := ifn c_4 h
          refine lv_aload_n hx hb dX8_home_27 rfl (lv_at hl 0 rfl) ?_
          refine lv_iload_n hx hb dX8_home_28 rfl (lv_at hl 2 rfl) ?_
          obtain ⟨u_5, e_5, h⟩ := bd_some h
          refine cm_Vi (As := [.int x2_23]) (rest := []) ⟨hx, hb, hml, hown, hts⟩ (c_X8_bowsHome (ca := ca) (ev := ev) (h0 := h0) (h1 := h1) (h2 := h2) (h3 := h3) (h4 := h4) (h5 := h5) (h6 := h6) (h7 := h7) (h8 := h8) (h9 := h9) (h10 := h10) (h11 := h11) (h12 := h12) (h13 := h13) (h14 := h14) (h15 := h15) (h16 := h16) (h17 := h17) (now := now_23) (kept := kept) (isKept := isKept) (found := found) (order := u_1.2.1) (doubts := u_1.2.2.1) (doubtMany := u_1.2.2.2.1) (weights := u_1.2.2.2.2.1) (worn := worn_23) (pairs := pairs_23) (isTwice := isTwice_23) (doer := doer) (doneTo := doneTo) (doers := doers) (tape := tape) (taped := taped) (begins := begins) (ends := ends) (sort := sort) (value := value) (isWrong := isWrong) (items := items) (itemMany := itemMany) (bowThen := bowThen) (doubtThen := doubtThen) (deedThen := deedThen) (sayingThen := sayingThen) (widths := widths) (sizes := sizes) (numbers := numbers) (moved := moved) e_5) (cwV 1 hts gX8_home_X8_bowsHome rfl rfl rfl hd_X8_bowsHome ⟨Nat.le_of_ble_eq_true rfl, Nat.le_of_ble_eq_true rfl⟩) hK hP hD hS hA hE (q0 := 0) (ci := 8) rfl rfl rfl rfl hl.1 rfl (Nat.le_of_ble_eq_true rfl) dX8_home_29 ⟨Nat.zero_le _, Nat.zero_le _⟩ (fun H locs hP hD hS => ?_)
          refine lv_pop hx hb dX8_home_32 rfl ?_
          refine lv_iinc (v := (x1_23 + (1 : Int32))) (lv' := [(1, .int (x1_23 + (1 : Int32))), (0, .ref h0), (2, .int x2_23)]) hx hb dX8_home_33 hl (k := 1) rfl rfl (by decide) rfl (fun ls hl => ?_)
          refine lv_aload_n hx hb dX8_home_36 rfl (lv_at hl 1 rfl) ?_
          obtain ⟨u_6, e_6, h⟩ := bd_some h
          refine cm_Vi (As := []) (rest := []) ⟨hx, hb, hml, hown, hts⟩ (c_X8_notHome (ca := ca) (ev := ev) (h0 := h0) (h1 := h1) (h2 := h2) (h3 := h3) (h4 := h4) (h5 := h5) (h6 := h6) (h7 := h7) (h8 := h8) (h9 := h9) (h10 := h10) (h11 := h11) (h12 := h12) (h13 := h13) (h14 := h14) (h15 := h15) (h16 := h16) (h17 := h17) (now := now_23) (kept := kept) (isKept := isKept) (found := found) (order := u_1.2.1) (doubts := u_1.2.2.1) (doubtMany := u_1.2.2.2.1) (weights := u_1.2.2.2.2.1) (worn := u_5.2.1) (pairs := u_5.2.2.1) (isTwice := u_5.2.2.2) (doer := doer) (doneTo := doneTo) (doers := doers) (tape := tape) (taped := taped) (begins := begins) (ends := ends) (sort := sort) (value := value) (isWrong := isWrong) (items := items) (itemMany := itemMany) (bowThen := bowThen) (doubtThen := doubtThen) (deedThen := deedThen) (sayingThen := sayingThen) (widths := widths) (sizes := sizes) (numbers := numbers) (moved := moved) e_6) (cwV 0 hts gX8_home_X8_notHome rfl rfl rfl hd_X8_notHome ⟨Nat.le_of_ble_eq_true rfl, Nat.le_of_ble_eq_true rfl⟩) hK hP hD hS hA hE (q0 := 0) (ci := 8) rfl rfl rfl rfl hl.1 rfl (Nat.le_of_ble_eq_true rfl) dX8_home_37 ⟨Nat.zero_le _, Nat.zero_le _⟩ (fun H locs hP hD hS => ?_)
          refine lv_istore_n (lv' := [(2, .int u_6), (1, .int (x1_23 + (1 : Int32))), (0, .ref h0)]) hx hb dX8_home_40 rfl hl (by decide) rfl (fun ls hl => ?_)
          refine lv_goto (tgt := 23) hx hb dX8_home_41 (by decide) ?_
          exact ih h hP hD hS (lv_sub hl [2, 1, 0] rfl) JK_23
    obtain ⟨u_7, e_7, h⟩ := bd_some h
    refine L_23 _ e_7 hP hD hS (lv_sub hl [2, 1, 0] rfl) ?_
    intro H locs ls hP hD hS hl
    refine lv_iload_n hx hb dX8_home_44 rfl (lv_at hl 0 rfl) ?_
    obtain rfl := Option.some.inj h
    exact hRet hP hD hS dX8_home_45
  · have h := ifp c_2 h
    refine lv_aload_n hx hb dX8_home_9 rfl (lv_at hl 0 rfl) ?_
    refine lv_ldc (v := (-1000000004 : Int32)) hx hb hown (hts (.constant RX8 179 (-1000000004)) (by decide +kernel)) dX8_home_10 ?_
    obtain ⟨u_8, e_8, h⟩ := bd_some h
    refine cm_Vi (As := [.int (-1000000004 : Int32)]) (rest := []) ⟨hx, hb, hml, hown, hts⟩ (c_X8_finding (ca := ca) (ev := ev) (h0 := h0) (h1 := h1) (h2 := h2) (h3 := h3) (h4 := h4) (h5 := h5) (h6 := h6) (h7 := h7) (h8 := h8) (h9 := h9) (h10 := h10) (h11 := h11) (h12 := h12) (h13 := h13) (h14 := h14) (h15 := h15) (h16 := h16) (h17 := h17) (now := now) (kept := kept) (isKept := isKept) (found := found) (order := u_1.2.1) (doubts := u_1.2.2.1) (doubtMany := u_1.2.2.2.1) (weights := u_1.2.2.2.2.1) (worn := u_1.2.2.2.2.2.1) (pairs := u_1.2.2.2.2.2.2.1) (isTwice := u_1.2.2.2.2.2.2.2) (doer := doer) (doneTo := doneTo) (doers := doers) (tape := tape) (taped := taped) (begins := begins) (ends := ends) (sort := sort) (value := value) (isWrong := isWrong) (items := items) (itemMany := itemMany) (bowThen := bowThen) (doubtThen := doubtThen) (deedThen := deedThen) (sayingThen := sayingThen) (widths := widths) (sizes := sizes) (numbers := numbers) (moved := moved) e_8) (cwV 1 hts gX8_home_X8_finding rfl rfl rfl hd_X8_finding ⟨Nat.le_of_ble_eq_true rfl, Nat.le_of_ble_eq_true rfl⟩) hK hP hD hS hA hE (q0 := 0) (ci := 8) rfl rfl rfl rfl hl.1 rfl (Nat.le_of_ble_eq_true rfl) dX8_home_12 ⟨Nat.zero_le _, Nat.zero_le _⟩ (fun H locs hP hD hS => ?_)
    obtain rfl := Option.some.inj h
    exact hRet hP hD hS dX8_home_15
abbrev rm_X8_homeBow : Room := { frames := 7, cells := 0, slots := 0, locals := 164 }
theorem hd_X8_homeBow : yX8_homeBow.cls = RX8 ∧ yX8_homeBow.cls ≠ "java/lang/invoke/MethodHandle" ∧ yX8_homeBow.cls ≠ "java/lang/invoke/VarHandle" ∧ (parseMethodDescriptor yX8_homeBow.desc).map (fun d => d.parameters.length) = some 1 := by decide +kernel
set_option maxHeartbeats 4000000 in
set_option maxRecDepth 100000 in
theorem c_X8_homeBow {l : Launch} {G : va_G} {ca : Nat → ClassId} {ev : Nat → Nat} {h0 h1 h2 h3 h4 h5 h6 h7 h8 h9 h10 h11 h12 h13 h14 h15 h16 h17 : Nat} {now : (Nat → Int32)} {kept : (Nat → Int32)} {isKept : Int32} {found : (Nat → Int32)} {order : (Nat → Int32)} {doubts : (Nat → Int32)} {doubtMany : Int32} {weights : (Nat → Int64)} {worn : (Nat → Int32)} {pairs : Int64} {isTwice : Int32} {doer : (Nat → Int32)} {doneTo : (Nat → Int32)} {doers : (Nat → Int64)} {tape : (Nat → Int32)} {taped : Int32} {begins : Int32} {ends : Int32} {sort : Int32} {value : Int32} {isWrong : Int32} {items : (Nat → Int32)} {itemMany : Int32} {bowThen : Int32} {doubtThen : Int32} {deedThen : Int32} {sayingThen : Int32} {widths : (Nat → Int32)} {sizes : (Nat → Int32)} {numbers : (Nat → Int64)} {moved : (Nat → Int64)} {a1 : Int32} {N : Nat} {res : Int32 × (Nat → Int32) × (Nat → Int32) × (Nat → Int32) × Int32 × (Nat → Int64) × (Nat → Int32) × Int64 × Int32} (h : f_X8_homeBow N now found order doubts doubtMany weights worn pairs isTwice a1 = some res) : CtI l yX8_homeBow wsX8_homeBow rm_X8_homeBow G ca ev [.ref h0, .int a1] (wM ca ev h0 h1 h2 h3 h4 h5 h6 h7 h8 h9 h10 h11 h12 h13 h14 h15 h16 h17 now kept isKept found order doubts doubtMany weights worn pairs isTwice doer doneTo doers tape taped begins ends sort value isWrong items itemMany bowThen doubtThen deedThen sayingThen widths sizes numbers moved) (wM ca ev h0 h1 h2 h3 h4 h5 h6 h7 h8 h9 h10 h11 h12 h13 h14 h15 h16 h17 now kept isKept res.2.1 res.2.2.1 res.2.2.2.1 res.2.2.2.2.1 res.2.2.2.2.2.1 res.2.2.2.2.2.2.1 res.2.2.2.2.2.2.2.1 res.2.2.2.2.2.2.2.2 doer doneTo doers tape taped begins ends sort value isWrong items itemMany bowThen doubtThen deedThen sayingThen widths sizes numbers moved) res.1 := by
  unfold f_X8_homeBow at h
  refine en_i (by decide) rfl (Nat.le_of_ble_eq_true rfl) ?_
  intro p e s m args below meth c A Q H locs ls hx hb hml hown hts hA hP hK hD hE hS hl hRet
  have hown : s.vm.findClass RX8 = some m.cls := hown
  have hl : lv_has ls 5 [(0, .ref h0), (1, .int a1)] := hl
  refine lv_iload_n hx hb dX8_homeBow_0 rfl (lv_at hl 1 rfl) ?_
  refine lv_if_ge (tgt := 11) hx hb dX8_homeBow_1 (by decide) (fun c_1 => ?_) (fun c_1 => ?_)
  · have h := ifp c_1 h
    refine lv_aload_n hx hb dX8_homeBow_11 rfl (lv_at hl 0 rfl) ?_
    refine lv_bipush (v := (99 : Int32)) hx hb dX8_homeBow_12 (by decide) ?_
    obtain ⟨u_2, e_2, h⟩ := bd_some h
    refine cm_Vi (As := [.int (99 : Int32)]) (rest := []) ⟨hx, hb, hml, hown, hts⟩ (c_X8_goesLikeliest (ca := ca) (ev := ev) (h0 := h0) (h1 := h1) (h2 := h2) (h3 := h3) (h4 := h4) (h5 := h5) (h6 := h6) (h7 := h7) (h8 := h8) (h9 := h9) (h10 := h10) (h11 := h11) (h12 := h12) (h13 := h13) (h14 := h14) (h15 := h15) (h16 := h16) (h17 := h17) (now := now) (kept := kept) (isKept := isKept) (found := found) (order := order) (doubts := doubts) (doubtMany := doubtMany) (weights := weights) (worn := worn) (pairs := pairs) (isTwice := isTwice) (doer := doer) (doneTo := doneTo) (doers := doers) (tape := tape) (taped := taped) (begins := begins) (ends := ends) (sort := sort) (value := value) (isWrong := isWrong) (items := items) (itemMany := itemMany) (bowThen := bowThen) (doubtThen := doubtThen) (deedThen := deedThen) (sayingThen := sayingThen) (widths := widths) (sizes := sizes) (numbers := numbers) (moved := moved) e_2) (cwV 1 hts gX8_homeBow_X8_goesLikeliest rfl rfl rfl hd_X8_goesLikeliest ⟨Nat.le_of_ble_eq_true rfl, Nat.le_of_ble_eq_true rfl⟩) hK hP hD hS hA hE (q0 := 0) (ci := 8) rfl rfl rfl rfl hl.1 rfl (Nat.le_of_ble_eq_true rfl) dX8_homeBow_14 ⟨Nat.zero_le _, Nat.zero_le _⟩ (fun H locs hP hD hS => ?_)
    refine lv_if_ne (tgt := 27) hx hb dX8_homeBow_17 (by decide) (fun c_3 => ?_) (fun c_3 => ?_)
    · have h := ifn c_3 h
      refine lv_iconst (v := (0 : Int32)) hx hb dX8_homeBow_27 (by decide) ?_
      refine lv_istore_n (lv' := [(2, .int (0 : Int32)), (0, .ref h0), (1, .int a1)]) hx hb dX8_homeBow_28 rfl hl (by decide) rfl (fun ls hl => ?_)
      refine lv_aload_n hx hb dX8_homeBow_29 rfl (lv_at hl 1 rfl) ?_
      obtain ⟨u_4, e_4, h⟩ := bd_some h
      refine cm_Vi (As := []) (rest := []) ⟨hx, hb, hml, hown, hts⟩ (c_X8_notHome (ca := ca) (ev := ev) (h0 := h0) (h1 := h1) (h2 := h2) (h3 := h3) (h4 := h4) (h5 := h5) (h6 := h6) (h7 := h7) (h8 := h8) (h9 := h9) (h10 := h10) (h11 := h11) (h12 := h12) (h13 := h13) (h14 := h14) (h15 := h15) (h16 := h16) (h17 := h17) (now := now) (kept := kept) (isKept := isKept) (found := found) (order := u_2.2.1) (doubts := u_2.2.2.1) (doubtMany := u_2.2.2.2.1) (weights := u_2.2.2.2.2.1) (worn := u_2.2.2.2.2.2.1) (pairs := u_2.2.2.2.2.2.2.1) (isTwice := u_2.2.2.2.2.2.2.2) (doer := doer) (doneTo := doneTo) (doers := doers) (tape := tape) (taped := taped) (begins := begins) (ends := ends) (sort := sort) (value := value) (isWrong := isWrong) (items := items) (itemMany := itemMany) (bowThen := bowThen) (doubtThen := doubtThen) (deedThen := deedThen) (sayingThen := sayingThen) (widths := widths) (sizes := sizes) (numbers := numbers) (moved := moved) e_4) (cwV 0 hts gX8_homeBow_X8_notHome rfl rfl rfl hd_X8_notHome ⟨Nat.le_of_ble_eq_true rfl, Nat.le_of_ble_eq_true rfl⟩) hK hP hD hS hA hE (q0 := 0) (ci := 8) rfl rfl rfl rfl hl.1 rfl (Nat.le_of_ble_eq_true rfl) dX8_homeBow_30 ⟨Nat.zero_le _, Nat.zero_le _⟩ (fun H locs hP hD hS => ?_)
      refine lv_istore_n (lv' := [(3, .int u_4), (2, .int (0 : Int32)), (0, .ref h0), (1, .int a1)]) hx hb dX8_homeBow_33 rfl hl (by decide) rfl (fun ls hl => ?_)
      have L_34 : ∀ {x1_34 : Int32} {now_34 : (Nat → Int32)} {found_34 : (Nat → Int32)} {order_34 : (Nat → Int32)} {doubts_34 : (Nat → Int32)} {doubtMany_34 : Int32} {weights_34 : (Nat → Int64)} {K_34 : ((Nat → Int32) × Int64 × Int32) → Option (Int32 × (Nat → Int32) × (Nat → Int32) × (Nat → Int32) × Int32 × (Nat → Int64) × (Nat → Int32) × Int64 × Int32)} (n_34 : Nat) {x2_34 : Int32} {x3_34 : Int32} {worn_34 : (Nat → Int32)} {pairs_34 : Int64} {isTwice_34 : Int32} {H : Heap} {locs : List Loc} {ls : Array Slot}, f_X8_homeBow_34 N x1_34 now_34 found_34 order_34 doubts_34 doubtMany_34 weights_34 K_34  n_34 x2_34 x3_34 worn_34 pairs_34 isTwice_34 = some res → (∀ {H : Heap} {locs : List Loc} {pc : Nat} {ls : Array Slot}, va_P G vwCl (wM ca ev h0 h1 h2 h3 h4 h5 h6 h7 h8 h9 h10 h11 h12 h13 h14 h15 h16 h17 now_34 kept isKept res.2.1 res.2.2.1 res.2.2.2.1 res.2.2.2.2.1 res.2.2.2.2.2.1 res.2.2.2.2.2.2.1 res.2.2.2.2.2.2.2.1 res.2.2.2.2.2.2.2.2 doer doneTo doers tape taped begins ends sort value isWrong items itemMany bowThen doubtThen deedThen sayingThen widths sizes numbers moved) H → va_D A (wM ca ev h0 h1 h2 h3 h4 h5 h6 h7 h8 h9 h10 h11 h12 h13 h14 h15 h16 h17 now_34 kept isKept res.2.1 res.2.2.1 res.2.2.2.1 res.2.2.2.2.1 res.2.2.2.2.2.1 res.2.2.2.2.2.2.1 res.2.2.2.2.2.2.2.1 res.2.2.2.2.2.2.2.2 doer doneTo doers tape taped begins ends sort value isWrong items itemMany bowThen doubtThen deedThen sayingThen widths sizes numbers moved) → va_S A s.heap H locs → decode cX8_homeBow pc = .ok (.ireturn, 1) → W p l e rm_X8_homeBow s m args below meth c H locs 0 0 Q (F0 m pc ls [.int res.1])) → va_P G vwCl (wM ca ev h0 h1 h2 h3 h4 h5 h6 h7 h8 h9 h10 h11 h12 h13 h14 h15 h16 h17 now_34 kept isKept found_34 order_34 doubts_34 doubtMany_34 weights_34 worn_34 pairs_34 isTwice_34 doer doneTo doers tape taped begins ends sort value isWrong items itemMany bowThen doubtThen deedThen sayingThen widths sizes numbers moved) H → va_D A (wM ca ev h0 h1 h2 h3 h4 h5 h6 h7 h8 h9 h10 h11 h12 h13 h14 h15 h16 h17 now_34 kept isKept found_34 order_34 doubts_34 doubtMany_34 weights_34 worn_34 pairs_34 isTwice_34 doer doneTo doers tape taped begins ends sort value isWrong items itemMany bowThen doubtThen deedThen sayingThen widths sizes numbers moved) → va_S A s.heap H locs → lv_has ls 5 [(0, .ref h0), (1, .int x1_34), (2, .int x2_34), (3, .int x3_34)] → (∀ {uL_34 : (Nat → Int32) × Int64 × Int32} {H : Heap} {locs : List Loc} {ls : Array Slot}, K_34 uL_34 = some res → va_P G vwCl (wM ca ev h0 h1 h2 h3 h4 h5 h6 h7 h8 h9 h10 h11 h12 h13 h14 h15 h16 h17 now_34 kept isKept found_34 order_34 doubts_34 doubtMany_34 weights_34 uL_34.1 uL_34.2.1 uL_34.2.2 doer doneTo doers tape taped begins ends sort value isWrong items itemMany bowThen doubtThen deedThen sayingThen widths sizes numbers moved) H → va_D A (wM ca ev h0 h1 h2 h3 h4 h5 h6 h7 h8 h9 h10 h11 h12 h13 h14 h15 h16 h17 now_34 kept isKept found_34 order_34 doubts_34 doubtMany_34 weights_34 uL_34.1 uL_34.2.1 uL_34.2.2 doer doneTo doers tape taped begins ends sort value isWrong items itemMany bowThen doubtThen deedThen sayingThen widths sizes numbers moved) → va_S A s.heap H locs → lv_has ls 5 [(0, .ref h0)] → W p l e rm_X8_homeBow s m args below meth c H locs 0 0 Q (F0 m 64 ls [])) → W p l e rm_X8_homeBow s m args below meth c H locs 0 0 Q (F0 m 34 ls []) := by
        intro x1_34 now_34 found_34 order_34 doubts_34 doubtMany_34 weights_34 K_34 n_34
        induction n_34 with
        | zero => intro x2_34 x3_34 worn_34 pairs_34 isTwice_34 H locs ls h; exact absurd h (by rw [f_X8_homeBow_34]; exact fun z => nomatch z)
        | succ n_34 ih =>
          intro x2_34 x3_34 worn_34 pairs_34 isTwice_34 H locs ls h hRet hP hD hS hl JK_34
          rw [f_X8_homeBow_34] at h
          refine lv_iload_n hx hb dX8_homeBow_34 rfl (lv_at hl 3 rfl) ?_
          refine lv_if_lt (tgt := 64) hx hb dX8_homeBow_35 (by decide) (fun c_5 => ?_) (fun c_5 => ?_)
          · have h := ifp c_5 h
            exact JK_34 h hP hD hS (lv_sub hl [0] rfl)
          · have h := ifn c_5 h
            refine lv_aload_n hx hb dX8_homeBow_38 rfl (lv_at hl 0 rfl) ?_
            refine lv_iload_n hx hb dX8_homeBow_39 rfl (lv_at hl 3 rfl) ?_
            obtain ⟨u_6, e_6, h⟩ := bd_some h
            refine cm_Vi (As := [.int x3_34]) (rest := []) ⟨hx, hb, hml, hown, hts⟩ (c_X8_bowsHome (ca := ca) (ev := ev) (h0 := h0) (h1 := h1) (h2 := h2) (h3 := h3) (h4 := h4) (h5 := h5) (h6 := h6) (h7 := h7) (h8 := h8) (h9 := h9) (h10 := h10) (h11 := h11) (h12 := h12) (h13 := h13) (h14 := h14) (h15 := h15) (h16 := h16) (h17 := h17) (now := now_34) (kept := kept) (isKept := isKept) (found := found_34) (order := order_34) (doubts := doubts_34) (doubtMany := doubtMany_34) (weights := weights_34) (worn := worn_34) (pairs := pairs_34) (isTwice := isTwice_34) (doer := doer) (doneTo := doneTo) (doers := doers) (tape := tape) (taped := taped) (begins := begins) (ends := ends) (sort := sort) (value := value) (isWrong := isWrong) (items := items) (itemMany := itemMany) (bowThen := bowThen) (doubtThen := doubtThen) (deedThen := deedThen) (sayingThen := sayingThen) (widths := widths) (sizes := sizes) (numbers := numbers) (moved := moved) e_6) (cwV 1 hts gX8_homeBow_X8_bowsHome rfl rfl rfl hd_X8_bowsHome ⟨Nat.le_of_ble_eq_true rfl, Nat.le_of_ble_eq_true rfl⟩) hK hP hD hS hA hE (q0 := 0) (ci := 8) rfl rfl rfl rfl hl.1 rfl (Nat.le_of_ble_eq_true rfl) dX8_homeBow_40 ⟨Nat.zero_le _, Nat.zero_le _⟩ (fun H locs hP hD hS => ?_)
            refine lv_istore (lv' := [(4, .int u_6.1), (0, .ref h0), (1, .int x1_34), (2, .int x2_34), (3, .int x3_34)]) hx hb dX8_homeBow_43 hl (by decide) rfl (fun ls hl => ?_)
            refine lv_iload_n hx hb dX8_homeBow_45 rfl (lv_at hl 3 rfl) ?_
            refine lv_iload_n hx hb dX8_homeBow_46 rfl (lv_at hl 2 rfl) ?_
            refine lv_icmp_ne (tgt := 53) hx hb dX8_homeBow_47 (by decide) (fun c_7 => ?_) (fun c_7 => ?_)
            · have h := ifn c_7 h
              refine lv_iinc (v := (x2_34 + (1 : Int32))) (lv' := [(2, .int (x2_34 + (1 : Int32))), (4, .int u_6.1), (0, .ref h0), (1, .int x1_34), (3, .int x3_34)]) hx hb dX8_homeBow_53 hl (k := 3) rfl rfl (by decide) rfl (fun ls hl => ?_)
              refine lv_aload_n hx hb dX8_homeBow_56 rfl (lv_at hl 2 rfl) ?_
              obtain ⟨u_8, e_8, h⟩ := bd_some h
              refine cm_Vi (As := []) (rest := []) ⟨hx, hb, hml, hown, hts⟩ (c_X8_notHome (ca := ca) (ev := ev) (h0 := h0) (h1 := h1) (h2 := h2) (h3 := h3) (h4 := h4) (h5 := h5) (h6 := h6) (h7 := h7) (h8 := h8) (h9 := h9) (h10 := h10) (h11 := h11) (h12 := h12) (h13 := h13) (h14 := h14) (h15 := h15) (h16 := h16) (h17 := h17) (now := now_34) (kept := kept) (isKept := isKept) (found := found_34) (order := order_34) (doubts := doubts_34) (doubtMany := doubtMany_34) (weights := weights_34) (worn := u_6.2.1) (pairs := u_6.2.2.1) (isTwice := u_6.2.2.2) (doer := doer) (doneTo := doneTo) (doers := doers) (tape := tape) (taped := taped) (begins := begins) (ends := ends) (sort := sort) (value := value) (isWrong := isWrong) (items := items) (itemMany := itemMany) (bowThen := bowThen) (doubtThen := doubtThen) (deedThen := deedThen) (sayingThen := sayingThen) (widths := widths) (sizes := sizes) (numbers := numbers) (moved := moved) e_8) (cwV 0 hts gX8_homeBow_X8_notHome rfl rfl rfl hd_X8_notHome ⟨Nat.le_of_ble_eq_true rfl, Nat.le_of_ble_eq_true rfl⟩) hK hP hD hS hA hE (q0 := 0) (ci := 8) rfl rfl rfl rfl hl.1 rfl (Nat.le_of_ble_eq_true rfl) dX8_homeBow_57 ⟨Nat.zero_le _, Nat.zero_le _⟩ (fun H locs hP hD hS => ?_)
              refine lv_istore_n (lv' := [(3, .int u_8), (2, .int (x2_34 + (1 : Int32))), (4, .int u_6.1), (0, .ref h0), (1, .int x1_34)]) hx hb dX8_homeBow_60 rfl hl (by decide) rfl (fun ls hl => ?_)
              refine lv_goto (tgt := 34) hx hb dX8_homeBow_61 (by decide) ?_
              exact ih h hRet hP hD hS (lv_sub hl [3, 4, 1, 0] rfl) JK_34
            · have h := ifp c_7 h
              refine lv_iload hx hb dX8_homeBow_50 (lv_at hl 0 rfl) ?_
              obtain rfl := Option.some.inj h
              exact hRet hP hD hS dX8_homeBow_52
      refine L_34 _ h hRet hP hD hS (lv_sub hl [2, 3, 1, 0] rfl) ?_
      clear h
      intro u_9 H locs ls h hP hD hS hl
      refine lv_aload_n hx hb dX8_homeBow_64 rfl (lv_at hl 0 rfl) ?_
      refine lv_ldc (v := (-1000000004 : Int32)) hx hb hown (hts (.constant RX8 179 (-1000000004)) (by decide +kernel)) dX8_homeBow_65 ?_
      obtain ⟨u_10, e_10, h⟩ := bd_some h
      refine cm_Vi (As := [.int (-1000000004 : Int32)]) (rest := []) ⟨hx, hb, hml, hown, hts⟩ (c_X8_finding (ca := ca) (ev := ev) (h0 := h0) (h1 := h1) (h2 := h2) (h3 := h3) (h4 := h4) (h5 := h5) (h6 := h6) (h7 := h7) (h8 := h8) (h9 := h9) (h10 := h10) (h11 := h11) (h12 := h12) (h13 := h13) (h14 := h14) (h15 := h15) (h16 := h16) (h17 := h17) (now := now) (kept := kept) (isKept := isKept) (found := found) (order := u_2.2.1) (doubts := u_2.2.2.1) (doubtMany := u_2.2.2.2.1) (weights := u_2.2.2.2.2.1) (worn := u_9.1) (pairs := u_9.2.1) (isTwice := u_9.2.2) (doer := doer) (doneTo := doneTo) (doers := doers) (tape := tape) (taped := taped) (begins := begins) (ends := ends) (sort := sort) (value := value) (isWrong := isWrong) (items := items) (itemMany := itemMany) (bowThen := bowThen) (doubtThen := doubtThen) (deedThen := deedThen) (sayingThen := sayingThen) (widths := widths) (sizes := sizes) (numbers := numbers) (moved := moved) e_10) (cwV 1 hts gX8_homeBow_X8_finding rfl rfl rfl hd_X8_finding ⟨Nat.le_of_ble_eq_true rfl, Nat.le_of_ble_eq_true rfl⟩) hK hP hD hS hA hE (q0 := 0) (ci := 8) rfl rfl rfl rfl hl.1 rfl (Nat.le_of_ble_eq_true rfl) dX8_homeBow_67 ⟨Nat.zero_le _, Nat.zero_le _⟩ (fun H locs hP hD hS => ?_)
      obtain rfl := Option.some.inj h
      exact hRet hP hD hS dX8_homeBow_70
    · have h := ifp c_3 h
      refine lv_aload_n hx hb dX8_homeBow_20 rfl (lv_at hl 0 rfl) ?_
      refine lv_ldc (v := (-1000000004 : Int32)) hx hb hown (hts (.constant RX8 179 (-1000000004)) (by decide +kernel)) dX8_homeBow_21 ?_
      obtain ⟨u_11, e_11, h⟩ := bd_some h
      refine cm_Vi (As := [.int (-1000000004 : Int32)]) (rest := []) ⟨hx, hb, hml, hown, hts⟩ (c_X8_finding (ca := ca) (ev := ev) (h0 := h0) (h1 := h1) (h2 := h2) (h3 := h3) (h4 := h4) (h5 := h5) (h6 := h6) (h7 := h7) (h8 := h8) (h9 := h9) (h10 := h10) (h11 := h11) (h12 := h12) (h13 := h13) (h14 := h14) (h15 := h15) (h16 := h16) (h17 := h17) (now := now) (kept := kept) (isKept := isKept) (found := found) (order := u_2.2.1) (doubts := u_2.2.2.1) (doubtMany := u_2.2.2.2.1) (weights := u_2.2.2.2.2.1) (worn := u_2.2.2.2.2.2.1) (pairs := u_2.2.2.2.2.2.2.1) (isTwice := u_2.2.2.2.2.2.2.2) (doer := doer) (doneTo := doneTo) (doers := doers) (tape := tape) (taped := taped) (begins := begins) (ends := ends) (sort := sort) (value := value) (isWrong := isWrong) (items := items) (itemMany := itemMany) (bowThen := bowThen) (doubtThen := doubtThen) (deedThen := deedThen) (sayingThen := sayingThen) (widths := widths) (sizes := sizes) (numbers := numbers) (moved := moved) e_11) (cwV 1 hts gX8_homeBow_X8_finding rfl rfl rfl hd_X8_finding ⟨Nat.le_of_ble_eq_true rfl, Nat.le_of_ble_eq_true rfl⟩) hK hP hD hS hA hE (q0 := 0) (ci := 8) rfl rfl rfl rfl hl.1 rfl (Nat.le_of_ble_eq_true rfl) dX8_homeBow_23 ⟨Nat.zero_le _, Nat.zero_le _⟩ (fun H locs hP hD hS => ?_)
      obtain rfl := Option.some.inj h
      exact hRet hP hD hS dX8_homeBow_26
  · have h := ifn c_1 h
    refine lv_aload_n hx hb dX8_homeBow_4 rfl (lv_at hl 0 rfl) ?_
    refine lv_ldc (v := (-1000000001 : Int32)) hx hb hown (hts (.constant RX8 77 (-1000000001)) (by decide +kernel)) dX8_homeBow_5 ?_
    obtain ⟨u_12, e_12, h⟩ := bd_some h
    refine cm_Vi (As := [.int (-1000000001 : Int32)]) (rest := []) ⟨hx, hb, hml, hown, hts⟩ (c_X8_finding (ca := ca) (ev := ev) (h0 := h0) (h1 := h1) (h2 := h2) (h3 := h3) (h4 := h4) (h5 := h5) (h6 := h6) (h7 := h7) (h8 := h8) (h9 := h9) (h10 := h10) (h11 := h11) (h12 := h12) (h13 := h13) (h14 := h14) (h15 := h15) (h16 := h16) (h17 := h17) (now := now) (kept := kept) (isKept := isKept) (found := found) (order := order) (doubts := doubts) (doubtMany := doubtMany) (weights := weights) (worn := worn) (pairs := pairs) (isTwice := isTwice) (doer := doer) (doneTo := doneTo) (doers := doers) (tape := tape) (taped := taped) (begins := begins) (ends := ends) (sort := sort) (value := value) (isWrong := isWrong) (items := items) (itemMany := itemMany) (bowThen := bowThen) (doubtThen := doubtThen) (deedThen := deedThen) (sayingThen := sayingThen) (widths := widths) (sizes := sizes) (numbers := numbers) (moved := moved) e_12) (cwV 1 hts gX8_homeBow_X8_finding rfl rfl rfl hd_X8_finding ⟨Nat.le_of_ble_eq_true rfl, Nat.le_of_ble_eq_true rfl⟩) hK hP hD hS hA hE (q0 := 0) (ci := 8) rfl rfl rfl rfl hl.1 rfl (Nat.le_of_ble_eq_true rfl) dX8_homeBow_7 ⟨Nat.zero_le _, Nat.zero_le _⟩ (fun H locs hP hD hS => ?_)
    obtain rfl := Option.some.inj h
    exact hRet hP hD hS dX8_homeBow_10
abbrev rm_X8_atHome : Room := { frames := 7, cells := 0, slots := 0, locals := 164 }
theorem hd_X8_atHome : yX8_atHome.cls = RX8 ∧ yX8_atHome.cls ≠ "java/lang/invoke/MethodHandle" ∧ yX8_atHome.cls ≠ "java/lang/invoke/VarHandle" ∧ (parseMethodDescriptor yX8_atHome.desc).map (fun d => d.parameters.length) = some 1 := by decide +kernel
set_option maxHeartbeats 4000000 in
set_option maxRecDepth 100000 in
theorem c_X8_atHome {l : Launch} {G : va_G} {ca : Nat → ClassId} {ev : Nat → Nat} {h0 h1 h2 h3 h4 h5 h6 h7 h8 h9 h10 h11 h12 h13 h14 h15 h16 h17 : Nat} {now : (Nat → Int32)} {kept : (Nat → Int32)} {isKept : Int32} {found : (Nat → Int32)} {order : (Nat → Int32)} {doubts : (Nat → Int32)} {doubtMany : Int32} {weights : (Nat → Int64)} {worn : (Nat → Int32)} {pairs : Int64} {isTwice : Int32} {doer : (Nat → Int32)} {doneTo : (Nat → Int32)} {doers : (Nat → Int64)} {tape : (Nat → Int32)} {taped : Int32} {begins : Int32} {ends : Int32} {sort : Int32} {value : Int32} {isWrong : Int32} {items : (Nat → Int32)} {itemMany : Int32} {bowThen : Int32} {doubtThen : Int32} {deedThen : Int32} {sayingThen : Int32} {widths : (Nat → Int32)} {sizes : (Nat → Int32)} {numbers : (Nat → Int64)} {moved : (Nat → Int64)} {a1 : Int32} {N : Nat} {res : Int32 × (Nat → Int32) × (Nat → Int32) × (Nat → Int32) × Int32 × (Nat → Int64) × (Nat → Int32) × Int64 × Int32} (h : f_X8_atHome N now found order doubts doubtMany weights worn pairs isTwice a1 = some res) : CtI l yX8_atHome wsX8_atHome rm_X8_atHome G ca ev [.ref h0, .int a1] (wM ca ev h0 h1 h2 h3 h4 h5 h6 h7 h8 h9 h10 h11 h12 h13 h14 h15 h16 h17 now kept isKept found order doubts doubtMany weights worn pairs isTwice doer doneTo doers tape taped begins ends sort value isWrong items itemMany bowThen doubtThen deedThen sayingThen widths sizes numbers moved) (wM ca ev h0 h1 h2 h3 h4 h5 h6 h7 h8 h9 h10 h11 h12 h13 h14 h15 h16 h17 now kept isKept res.2.1 res.2.2.1 res.2.2.2.1 res.2.2.2.2.1 res.2.2.2.2.2.1 res.2.2.2.2.2.2.1 res.2.2.2.2.2.2.2.1 res.2.2.2.2.2.2.2.2 doer doneTo doers tape taped begins ends sort value isWrong items itemMany bowThen doubtThen deedThen sayingThen widths sizes numbers moved) res.1 := by
  unfold f_X8_atHome at h
  refine en_i (by decide) rfl (Nat.le_of_ble_eq_true rfl) ?_
  intro p e s m args below meth c A Q H locs ls hx hb hml hown hts hA hP hK hD hE hS hl hRet
  have hown : s.vm.findClass RX8 = some m.cls := hown
  have hl : lv_has ls 4 [(0, .ref h0), (1, .int a1)] := hl
  have hin_X8 : ∀ w ∈ u_ws RX8 TX8 32, w ∈ wsX8_atHome := fun w h9 => List.mem_cons_of_mem _ (List.mem_append_right _ h9)
  have fk_29 := hts (.fieldLink RX8 29 "MaskBowsModel" "worn" "[I") (by decide +kernel)
  have fk_9 := hts (.fieldLink RX8 9 "MaskBowsModel" "now" "[I") (by decide +kernel)
  refine lv_iload_n hx hb dX8_atHome_0 rfl (lv_at hl 1 rfl) ?_
  obtain ⟨u_1, e_1, h⟩ := bd_some h
  refine cn_Si (As := [.int a1]) (rest := []) ⟨hx, hb, hml, hown, hts⟩ (c_X8_isHour e_1) (va_cwS 1 hts gX8_atHome_X8_isHour rfl rfl rfl hd_X8_isHour ⟨Nat.le_of_ble_eq_true rfl, Nat.le_of_ble_eq_true rfl⟩) hK hP hD hS hA hE rfl hl.1 rfl (Nat.le_of_ble_eq_true rfl) dX8_atHome_1 ⟨Nat.zero_le _, Nat.zero_le _⟩ (fun H locs hP hD hS => ?_)
  refine lv_if_ne (tgt := 14) hx hb dX8_atHome_4 (by decide) (fun c_2 => ?_) (fun c_2 => ?_)
  · have h := ifn c_2 h
    refine lv_aload_n hx hb dX8_atHome_14 rfl (lv_at hl 0 rfl) ?_
    refine lv_iload_n hx hb dX8_atHome_15 rfl (lv_at hl 1 rfl) ?_
    obtain ⟨u_3, e_3, h⟩ := bd_some h
    refine cm_Vi (As := [.int a1]) (rest := []) ⟨hx, hb, hml, hown, hts⟩ (c_X8_goesLikeliest (ca := ca) (ev := ev) (h0 := h0) (h1 := h1) (h2 := h2) (h3 := h3) (h4 := h4) (h5 := h5) (h6 := h6) (h7 := h7) (h8 := h8) (h9 := h9) (h10 := h10) (h11 := h11) (h12 := h12) (h13 := h13) (h14 := h14) (h15 := h15) (h16 := h16) (h17 := h17) (now := now) (kept := kept) (isKept := isKept) (found := found) (order := order) (doubts := doubts) (doubtMany := doubtMany) (weights := weights) (worn := worn) (pairs := pairs) (isTwice := isTwice) (doer := doer) (doneTo := doneTo) (doers := doers) (tape := tape) (taped := taped) (begins := begins) (ends := ends) (sort := sort) (value := value) (isWrong := isWrong) (items := items) (itemMany := itemMany) (bowThen := bowThen) (doubtThen := doubtThen) (deedThen := deedThen) (sayingThen := sayingThen) (widths := widths) (sizes := sizes) (numbers := numbers) (moved := moved) e_3) (cwV 1 hts gX8_atHome_X8_goesLikeliest rfl rfl rfl hd_X8_goesLikeliest ⟨Nat.le_of_ble_eq_true rfl, Nat.le_of_ble_eq_true rfl⟩) hK hP hD hS hA hE (q0 := 0) (ci := 8) rfl rfl rfl rfl hl.1 rfl (Nat.le_of_ble_eq_true rfl) dX8_atHome_16 ⟨Nat.zero_le _, Nat.zero_le _⟩ (fun H locs hP hD hS => ?_)
    refine lv_if_ne (tgt := 29) hx hb dX8_atHome_19 (by decide) (fun c_4 => ?_) (fun c_4 => ?_)
    · have h := ifn c_4 h
      refine lv_iconst (v := (0 : Int32)) hx hb dX8_atHome_29 (by decide) ?_
      refine lv_istore_n (lv' := [(2, .int (0 : Int32)), (0, .ref h0), (1, .int a1)]) hx hb dX8_atHome_30 rfl hl (by decide) rfl (fun ls hl => ?_)
      refine lv_iconst (v := (0 : Int32)) hx hb dX8_atHome_31 (by decide) ?_
      refine lv_istore_n (lv' := [(3, .int (0 : Int32)), (2, .int (0 : Int32)), (0, .ref h0), (1, .int a1)]) hx hb dX8_atHome_32 rfl hl (by decide) rfl (fun ls hl => ?_)
      have L_33 : ∀  {now_33 : (Nat → Int32)} {worn_33 : (Nat → Int32)} (n_33 : Nat) {x2_33 : Int32} {x3_33 : Int32} {uL_33 : Int32} {H : Heap} {locs : List Loc} {ls : Array Slot}, f_X8_atHome_33 now_33 worn_33  n_33 x2_33 x3_33 = some uL_33 → va_P G vwCl (wM ca ev h0 h1 h2 h3 h4 h5 h6 h7 h8 h9 h10 h11 h12 h13 h14 h15 h16 h17 now_33 kept isKept found u_3.2.1 u_3.2.2.1 u_3.2.2.2.1 u_3.2.2.2.2.1 worn_33 u_3.2.2.2.2.2.2.1 u_3.2.2.2.2.2.2.2 doer doneTo doers tape taped begins ends sort value isWrong items itemMany bowThen doubtThen deedThen sayingThen widths sizes numbers moved) H → va_D A (wM ca ev h0 h1 h2 h3 h4 h5 h6 h7 h8 h9 h10 h11 h12 h13 h14 h15 h16 h17 now_33 kept isKept found u_3.2.1 u_3.2.2.1 u_3.2.2.2.1 u_3.2.2.2.2.1 worn_33 u_3.2.2.2.2.2.2.1 u_3.2.2.2.2.2.2.2 doer doneTo doers tape taped begins ends sort value isWrong items itemMany bowThen doubtThen deedThen sayingThen widths sizes numbers moved) → va_S A s.heap H locs → lv_has ls 4 [(0, .ref h0), (2, .int x2_33), (3, .int x3_33)] → (∀ {H : Heap} {locs : List Loc} {ls : Array Slot}, va_P G vwCl (wM ca ev h0 h1 h2 h3 h4 h5 h6 h7 h8 h9 h10 h11 h12 h13 h14 h15 h16 h17 now_33 kept isKept found u_3.2.1 u_3.2.2.1 u_3.2.2.2.1 u_3.2.2.2.2.1 worn_33 u_3.2.2.2.2.2.2.1 u_3.2.2.2.2.2.2.2 doer doneTo doers tape taped begins ends sort value isWrong items itemMany bowThen doubtThen deedThen sayingThen widths sizes numbers moved) H → va_D A (wM ca ev h0 h1 h2 h3 h4 h5 h6 h7 h8 h9 h10 h11 h12 h13 h14 h15 h16 h17 now_33 kept isKept found u_3.2.1 u_3.2.2.1 u_3.2.2.2.1 u_3.2.2.2.2.1 worn_33 u_3.2.2.2.2.2.2.1 u_3.2.2.2.2.2.2.2 doer doneTo doers tape taped begins ends sort value isWrong items itemMany bowThen doubtThen deedThen sayingThen widths sizes numbers moved) → va_S A s.heap H locs → lv_has ls 4 [(2, .int uL_33)] → W p l e rm_X8_atHome s m args below meth c H locs 0 0 Q (F0 m 69 ls [])) → W p l e rm_X8_atHome s m args below meth c H locs 0 0 Q (F0 m 33 ls []) := by
        intro now_33 worn_33 n_33
        induction n_33 with
        | zero => intro x2_33 x3_33 uL_33 H locs ls h; exact absurd h (by rw [f_X8_atHome_33]; exact fun z => nomatch z)
        | succ n_33 ih =>
          intro x2_33 x3_33 uL_33 H locs ls h hP hD hS hl JK_33
          rw [f_X8_atHome_33] at h
          refine lv_iload_n hx hb dX8_atHome_33 rfl (lv_at hl 2 rfl) ?_
          refine lv_aload_n hx hb dX8_atHome_34 rfl (lv_at hl 0 rfl) ?_
          refine va_get (D := G) (ci := 8) (v := .ref h1) (C := RX8) (T := TX8) (N := 32) hx hb hts hin_X8 hown hK hP 0 rfl rfl 0 (by decide) fk_9 (fun _ h9 => h9) rfl dX8_atHome_35 ?_
          refine lv_iconst (v := (0 : Int32)) hx hb dX8_atHome_38 (by decide) ?_
          refine va_iald hx hb hK hP 1 0 rfl rfl (ix_in (by decide)) dX8_atHome_39 ?_
          refine lv_icmp_ge (tgt := 69) hx hb dX8_atHome_40 (by decide) (fun c_5 => ?_) (fun c_5 => ?_)
          · have h := ifp c_5 h
            obtain rfl := Option.some.inj h
            exact JK_33 hP hD hS (lv_sub hl [1] rfl)
          · have h := ifn c_5 h
            refine lv_iload_n hx hb dX8_atHome_43 rfl (lv_at hl 1 rfl) ?_
            refine lv_aload_n hx hb dX8_atHome_44 rfl (lv_at hl 0 rfl) ?_
            refine va_get (D := G) (ci := 8) (v := .ref h7) (C := RX8) (T := TX8) (N := 32) hx hb hts hin_X8 hown hK hP 0 rfl rfl 8 (by decide) fk_29 (fun _ h9 => h9) rfl dX8_atHome_45 ?_
            refine lv_iload_n hx hb dX8_atHome_48 rfl (lv_at hl 2 rfl) ?_
            obtain ⟨i_6, h⟩ := gd_some h
            refine va_iald hx hb hK hP 7 0 rfl rfl (ix_in i_6) dX8_atHome_49 ?_
            refine lv_iload_n hx hb dX8_atHome_50 rfl (lv_at hl 2 rfl) ?_
            obtain ⟨u_7, e_7, h⟩ := bd_some h
            have J_7 : ∀ {H : Heap} {locs : List Loc} {ls : Array Slot}, va_P G vwCl (wM ca ev h0 h1 h2 h3 h4 h5 h6 h7 h8 h9 h10 h11 h12 h13 h14 h15 h16 h17 now_33 kept isKept found u_3.2.1 u_3.2.2.1 u_3.2.2.2.1 u_3.2.2.2.2.1 worn_33 u_3.2.2.2.2.2.2.1 u_3.2.2.2.2.2.2.2 doer doneTo doers tape taped begins ends sort value isWrong items itemMany bowThen doubtThen deedThen sayingThen widths sizes numbers moved) H → va_D A (wM ca ev h0 h1 h2 h3 h4 h5 h6 h7 h8 h9 h10 h11 h12 h13 h14 h15 h16 h17 now_33 kept isKept found u_3.2.1 u_3.2.2.1 u_3.2.2.2.1 u_3.2.2.2.2.1 worn_33 u_3.2.2.2.2.2.2.1 u_3.2.2.2.2.2.2.2 doer doneTo doers tape taped begins ends sort value isWrong items itemMany bowThen doubtThen deedThen sayingThen widths sizes numbers moved) → va_S A s.heap H locs → lv_has ls 4 [(0, .ref h0), (3, .int x3_33)] → W p l e rm_X8_atHome s m args below meth c H locs 0 0 Q (F0 m 61 ls [.int u_7, .int x2_33]) := by
              intro H locs ls hP hD hS hl 
              refine lv_ior hx hb dX8_atHome_61 ?_
              refine lv_istore_n (lv' := [(2, .int (x2_33 ||| u_7)), (0, .ref h0), (3, .int x3_33)]) hx hb dX8_atHome_62 rfl hl (by decide) rfl (fun ls hl => ?_)
              refine lv_iinc (v := (x3_33 + (1 : Int32))) (lv' := [(3, .int (x3_33 + (1 : Int32))), (2, .int (x2_33 ||| u_7)), (0, .ref h0)]) hx hb dX8_atHome_63 hl (k := 2) rfl rfl (by decide) rfl (fun ls hl => ?_)
              refine lv_goto (tgt := 33) hx hb dX8_atHome_66 (by decide) ?_
              exact ih h hP hD hS (lv_sub hl [2, 1, 0] rfl) JK_33
            have h := e_7
            clear e_7
            refine lv_icmp_ne (tgt := 60) hx hb dX8_atHome_51 (by decide) (fun c_7 => ?_) (fun c_7 => ?_)
            · have h := ifn c_7 h
              refine lv_iconst (v := (0 : Int32)) hx hb dX8_atHome_60 (by decide) ?_
              obtain rfl := Option.some.inj h
              exact J_7 hP hD hS (lv_sub hl [0, 2] rfl)
            · have h := ifp c_7 h
              refine lv_iconst (v := (1 : Int32)) hx hb dX8_atHome_54 (by decide) ?_
              refine lv_iload_n hx hb dX8_atHome_55 rfl (lv_at hl 2 rfl) ?_
              refine lv_ishl hx hb dX8_atHome_56 ?_
              refine lv_goto (tgt := 61) hx hb dX8_atHome_57 (by decide) ?_
              obtain rfl := Option.some.inj h
              exact J_7 hP hD hS (lv_sub hl [0, 2] rfl)
      obtain ⟨u_8, e_8, h⟩ := bd_some h
      refine L_33 _ e_8 hP hD hS (lv_sub hl [2, 1, 0] rfl) ?_
      intro H locs ls hP hD hS hl
      refine lv_iload_n hx hb dX8_atHome_69 rfl (lv_at hl 0 rfl) ?_
      obtain rfl := Option.some.inj h
      exact hRet hP hD hS dX8_atHome_70
    · have h := ifp c_4 h
      refine lv_aload_n hx hb dX8_atHome_22 rfl (lv_at hl 0 rfl) ?_
      refine lv_ldc (v := (-1000000004 : Int32)) hx hb hown (hts (.constant RX8 179 (-1000000004)) (by decide +kernel)) dX8_atHome_23 ?_
      obtain ⟨u_9, e_9, h⟩ := bd_some h
      refine cm_Vi (As := [.int (-1000000004 : Int32)]) (rest := []) ⟨hx, hb, hml, hown, hts⟩ (c_X8_finding (ca := ca) (ev := ev) (h0 := h0) (h1 := h1) (h2 := h2) (h3 := h3) (h4 := h4) (h5 := h5) (h6 := h6) (h7 := h7) (h8 := h8) (h9 := h9) (h10 := h10) (h11 := h11) (h12 := h12) (h13 := h13) (h14 := h14) (h15 := h15) (h16 := h16) (h17 := h17) (now := now) (kept := kept) (isKept := isKept) (found := found) (order := u_3.2.1) (doubts := u_3.2.2.1) (doubtMany := u_3.2.2.2.1) (weights := u_3.2.2.2.2.1) (worn := u_3.2.2.2.2.2.1) (pairs := u_3.2.2.2.2.2.2.1) (isTwice := u_3.2.2.2.2.2.2.2) (doer := doer) (doneTo := doneTo) (doers := doers) (tape := tape) (taped := taped) (begins := begins) (ends := ends) (sort := sort) (value := value) (isWrong := isWrong) (items := items) (itemMany := itemMany) (bowThen := bowThen) (doubtThen := doubtThen) (deedThen := deedThen) (sayingThen := sayingThen) (widths := widths) (sizes := sizes) (numbers := numbers) (moved := moved) e_9) (cwV 1 hts gX8_atHome_X8_finding rfl rfl rfl hd_X8_finding ⟨Nat.le_of_ble_eq_true rfl, Nat.le_of_ble_eq_true rfl⟩) hK hP hD hS hA hE (q0 := 0) (ci := 8) rfl rfl rfl rfl hl.1 rfl (Nat.le_of_ble_eq_true rfl) dX8_atHome_25 ⟨Nat.zero_le _, Nat.zero_le _⟩ (fun H locs hP hD hS => ?_)
      obtain rfl := Option.some.inj h
      exact hRet hP hD hS dX8_atHome_28
  · have h := ifp c_2 h
    refine lv_aload_n hx hb dX8_atHome_7 rfl (lv_at hl 0 rfl) ?_
    refine lv_ldc (v := (-1000000001 : Int32)) hx hb hown (hts (.constant RX8 77 (-1000000001)) (by decide +kernel)) dX8_atHome_8 ?_
    obtain ⟨u_10, e_10, h⟩ := bd_some h
    refine cm_Vi (As := [.int (-1000000001 : Int32)]) (rest := []) ⟨hx, hb, hml, hown, hts⟩ (c_X8_finding (ca := ca) (ev := ev) (h0 := h0) (h1 := h1) (h2 := h2) (h3 := h3) (h4 := h4) (h5 := h5) (h6 := h6) (h7 := h7) (h8 := h8) (h9 := h9) (h10 := h10) (h11 := h11) (h12 := h12) (h13 := h13) (h14 := h14) (h15 := h15) (h16 := h16) (h17 := h17) (now := now) (kept := kept) (isKept := isKept) (found := found) (order := order) (doubts := doubts) (doubtMany := doubtMany) (weights := weights) (worn := worn) (pairs := pairs) (isTwice := isTwice) (doer := doer) (doneTo := doneTo) (doers := doers) (tape := tape) (taped := taped) (begins := begins) (ends := ends) (sort := sort) (value := value) (isWrong := isWrong) (items := items) (itemMany := itemMany) (bowThen := bowThen) (doubtThen := doubtThen) (deedThen := deedThen) (sayingThen := sayingThen) (widths := widths) (sizes := sizes) (numbers := numbers) (moved := moved) e_10) (cwV 1 hts gX8_atHome_X8_finding rfl rfl rfl hd_X8_finding ⟨Nat.le_of_ble_eq_true rfl, Nat.le_of_ble_eq_true rfl⟩) hK hP hD hS hA hE (q0 := 0) (ci := 8) rfl rfl rfl rfl hl.1 rfl (Nat.le_of_ble_eq_true rfl) dX8_atHome_10 ⟨Nat.zero_le _, Nat.zero_le _⟩ (fun H locs hP hD hS => ?_)
    obtain rfl := Option.some.inj h
    exact hRet hP hD hS dX8_atHome_13
abbrev rm_X8_since : Room := { frames := 6, cells := 0, slots := 0, locals := 142 }
theorem hd_X8_since : yX8_since.cls = RX8 ∧ yX8_since.cls ≠ "java/lang/invoke/MethodHandle" ∧ yX8_since.cls ≠ "java/lang/invoke/VarHandle" ∧ (parseMethodDescriptor yX8_since.desc).map (fun d => d.parameters.length) = some 1 := by decide +kernel
set_option maxHeartbeats 4000000 in
set_option maxRecDepth 100000 in
theorem c_X8_since {l : Launch} {G : va_G} {ca : Nat → ClassId} {ev : Nat → Nat} {h0 h1 h2 h3 h4 h5 h6 h7 h8 h9 h10 h11 h12 h13 h14 h15 h16 h17 : Nat} {now : (Nat → Int32)} {kept : (Nat → Int32)} {isKept : Int32} {found : (Nat → Int32)} {order : (Nat → Int32)} {doubts : (Nat → Int32)} {doubtMany : Int32} {weights : (Nat → Int64)} {worn : (Nat → Int32)} {pairs : Int64} {isTwice : Int32} {doer : (Nat → Int32)} {doneTo : (Nat → Int32)} {doers : (Nat → Int64)} {tape : (Nat → Int32)} {taped : Int32} {begins : Int32} {ends : Int32} {sort : Int32} {value : Int32} {isWrong : Int32} {items : (Nat → Int32)} {itemMany : Int32} {bowThen : Int32} {doubtThen : Int32} {deedThen : Int32} {sayingThen : Int32} {widths : (Nat → Int32)} {sizes : (Nat → Int32)} {numbers : (Nat → Int64)} {moved : (Nat → Int64)} {a1 : Int32} {N : Nat} {res : Int32 × (Nat → Int32) × (Nat → Int32) × (Nat → Int32) × Int32 × (Nat → Int64) × (Nat → Int32) × Int64 × Int32} (h : f_X8_since N now found order doubts doubtMany weights worn pairs isTwice a1 = some res) : CtI l yX8_since wsX8_since rm_X8_since G ca ev [.ref h0, .int a1] (wM ca ev h0 h1 h2 h3 h4 h5 h6 h7 h8 h9 h10 h11 h12 h13 h14 h15 h16 h17 now kept isKept found order doubts doubtMany weights worn pairs isTwice doer doneTo doers tape taped begins ends sort value isWrong items itemMany bowThen doubtThen deedThen sayingThen widths sizes numbers moved) (wM ca ev h0 h1 h2 h3 h4 h5 h6 h7 h8 h9 h10 h11 h12 h13 h14 h15 h16 h17 now kept isKept res.2.1 res.2.2.1 res.2.2.2.1 res.2.2.2.2.1 res.2.2.2.2.2.1 res.2.2.2.2.2.2.1 res.2.2.2.2.2.2.2.1 res.2.2.2.2.2.2.2.2 doer doneTo doers tape taped begins ends sort value isWrong items itemMany bowThen doubtThen deedThen sayingThen widths sizes numbers moved) res.1 := by
  unfold f_X8_since at h
  refine en_i (by decide) rfl (Nat.le_of_ble_eq_true rfl) ?_
  intro p e s m args below meth c A Q H locs ls hx hb hml hown hts hA hP hK hD hE hS hl hRet
  have hown : s.vm.findClass RX8 = some m.cls := hown
  have hl : lv_has ls 6 [(0, .ref h0), (1, .int a1)] := hl
  have hin_X8 : ∀ w ∈ u_ws RX8 TX8 32, w ∈ wsX8_since := fun w h9 => List.mem_cons_of_mem _ (List.mem_append_right _ h9)
  have fk_29 := hts (.fieldLink RX8 29 "MaskBowsModel" "worn" "[I") (by decide +kernel)
  refine lv_aload_n hx hb dX8_since_0 rfl (lv_at hl 0 rfl) ?_
  refine lv_iload_n hx hb dX8_since_1 rfl (lv_at hl 1 rfl) ?_
  obtain ⟨u_1, e_1, h⟩ := bd_some h
  refine cm_Vi (As := [.int a1]) (rest := []) ⟨hx, hb, hml, hown, hts⟩ (c_X8_isOne (ca := ca) (ev := ev) (h0 := h0) (h1 := h1) (h2 := h2) (h3 := h3) (h4 := h4) (h5 := h5) (h6 := h6) (h7 := h7) (h8 := h8) (h9 := h9) (h10 := h10) (h11 := h11) (h12 := h12) (h13 := h13) (h14 := h14) (h15 := h15) (h16 := h16) (h17 := h17) (now := now) (kept := kept) (isKept := isKept) (found := found) (order := order) (doubts := doubts) (doubtMany := doubtMany) (weights := weights) (worn := worn) (pairs := pairs) (isTwice := isTwice) (doer := doer) (doneTo := doneTo) (doers := doers) (tape := tape) (taped := taped) (begins := begins) (ends := ends) (sort := sort) (value := value) (isWrong := isWrong) (items := items) (itemMany := itemMany) (bowThen := bowThen) (doubtThen := doubtThen) (deedThen := deedThen) (sayingThen := sayingThen) (widths := widths) (sizes := sizes) (numbers := numbers) (moved := moved) e_1) (cwV 1 hts gX8_since_X8_isOne rfl rfl rfl hd_X8_isOne ⟨Nat.le_of_ble_eq_true rfl, Nat.le_of_ble_eq_true rfl⟩) hK hP hD hS hA hE (q0 := 0) (ci := 8) rfl rfl rfl rfl hl.1 rfl (Nat.le_of_ble_eq_true rfl) dX8_since_2 ⟨Nat.zero_le _, Nat.zero_le _⟩ (fun H locs hP hD hS => ?_)
  refine lv_if_ne (tgt := 15) hx hb dX8_since_5 (by decide) (fun c_2 => ?_) (fun c_2 => ?_)
  · have h := ifn c_2 h
    refine lv_aload_n hx hb dX8_since_15 rfl (lv_at hl 0 rfl) ?_
    obtain ⟨u_3, e_3, h⟩ := bd_some h
    refine cm_Vi (As := []) (rest := []) ⟨hx, hb, hml, hown, hts⟩ (c_X8_bestNight (ca := ca) (ev := ev) (h0 := h0) (h1 := h1) (h2 := h2) (h3 := h3) (h4 := h4) (h5 := h5) (h6 := h6) (h7 := h7) (h8 := h8) (h9 := h9) (h10 := h10) (h11 := h11) (h12 := h12) (h13 := h13) (h14 := h14) (h15 := h15) (h16 := h16) (h17 := h17) (now := now) (kept := kept) (isKept := isKept) (found := found) (order := order) (doubts := doubts) (doubtMany := doubtMany) (weights := weights) (worn := worn) (pairs := pairs) (isTwice := isTwice) (doer := doer) (doneTo := doneTo) (doers := doers) (tape := tape) (taped := taped) (begins := begins) (ends := ends) (sort := sort) (value := value) (isWrong := isWrong) (items := items) (itemMany := itemMany) (bowThen := bowThen) (doubtThen := doubtThen) (deedThen := deedThen) (sayingThen := sayingThen) (widths := widths) (sizes := sizes) (numbers := numbers) (moved := moved) e_3) (cwV 0 hts gX8_since_X8_bestNight rfl rfl rfl hd_X8_bestNight ⟨Nat.le_of_ble_eq_true rfl, Nat.le_of_ble_eq_true rfl⟩) hK hP hD hS hA hE (q0 := 0) (ci := 8) rfl rfl rfl rfl hl.1 rfl (Nat.le_of_ble_eq_true rfl) dX8_since_16 ⟨Nat.zero_le _, Nat.zero_le _⟩ (fun H locs hP hD hS => ?_)
    refine lv_istore_n (lv' := [(2, .int u_3.1), (0, .ref h0), (1, .int a1)]) hx hb dX8_since_19 rfl hl (by decide) rfl (fun ls hl => ?_)
    refine lv_bipush (v := (100 : Int32)) hx hb dX8_since_20 (by decide) ?_
    refine lv_istore_n (lv' := [(3, .int (100 : Int32)), (2, .int u_3.1), (0, .ref h0), (1, .int a1)]) hx hb dX8_since_22 rfl hl (by decide) rfl (fun ls hl => ?_)
    refine lv_iload_n hx hb dX8_since_23 rfl (lv_at hl 1 rfl) ?_
    obtain ⟨u_4, e_4, h⟩ := bd_some h
    have J_4 : ∀ {H : Heap} {locs : List Loc} {ls : Array Slot}, va_P G vwCl (wM ca ev h0 h1 h2 h3 h4 h5 h6 h7 h8 h9 h10 h11 h12 h13 h14 h15 h16 h17 now kept isKept found u_3.2.1 u_3.2.2.1 u_3.2.2.2.1 u_3.2.2.2.2.1 u_3.2.2.2.2.2.1 u_3.2.2.2.2.2.2.1 u_3.2.2.2.2.2.2.2 doer doneTo doers tape taped begins ends sort value isWrong items itemMany bowThen doubtThen deedThen sayingThen widths sizes numbers moved) H → va_D A (wM ca ev h0 h1 h2 h3 h4 h5 h6 h7 h8 h9 h10 h11 h12 h13 h14 h15 h16 h17 now kept isKept found u_3.2.1 u_3.2.2.1 u_3.2.2.2.1 u_3.2.2.2.2.1 u_3.2.2.2.2.2.1 u_3.2.2.2.2.2.2.1 u_3.2.2.2.2.2.2.2 doer doneTo doers tape taped begins ends sort value isWrong items itemMany bowThen doubtThen deedThen sayingThen widths sizes numbers moved) → va_S A s.heap H locs → lv_has ls 6 [(0, .ref h0), (1, .int a1), (2, .int u_3.1), (3, .int (100 : Int32))] → (u_4 = 0 ∨ u_4 = 1) → W p l e rm_X8_since s m args below meth c H locs 0 0 Q (F0 m 32 ls [.int u_4]) := by
      intro H locs ls hP hD hS hl zj_4_0
      refine lv_istore (lv' := [(4, .int u_4), (0, .ref h0), (1, .int a1), (2, .int u_3.1), (3, .int (100 : Int32))]) hx hb dX8_since_32 hl (by decide) rfl (fun ls hl => ?_)
      refine lv_bipush (v := (99 : Int32)) hx hb dX8_since_34 (by decide) ?_
      refine lv_istore (lv' := [(5, .int (99 : Int32)), (4, .int u_4), (0, .ref h0), (1, .int a1), (2, .int u_3.1), (3, .int (100 : Int32))]) hx hb dX8_since_36 hl (by decide) rfl (fun ls hl => ?_)
      have L_38 : ∀ {x1_38 : Int32} {x2_38 : Int32} {now_38 : (Nat → Int32)} {order_38 : (Nat → Int32)} {doubts_38 : (Nat → Int32)} {doubtMany_38 : Int32} (n_38 : Nat) {x3_38 : Int32} {x4_38 : Int32} {x5_38 : Int32} {worn_38 : (Nat → Int32)} {pairs_38 : Int64} {isTwice_38 : Int32} {uL_38 : Int32 × (Nat → Int32) × Int64 × Int32} {H : Heap} {locs : List Loc} {ls : Array Slot}, f_X8_since_38 N x1_38 x2_38 now_38 order_38 doubts_38 doubtMany_38  n_38 x3_38 x4_38 x5_38 worn_38 pairs_38 isTwice_38 = some uL_38 → va_P G vwCl (wM ca ev h0 h1 h2 h3 h4 h5 h6 h7 h8 h9 h10 h11 h12 h13 h14 h15 h16 h17 now_38 kept isKept found order_38 doubts_38 doubtMany_38 u_3.2.2.2.2.1 worn_38 pairs_38 isTwice_38 doer doneTo doers tape taped begins ends sort value isWrong items itemMany bowThen doubtThen deedThen sayingThen widths sizes numbers moved) H → va_D A (wM ca ev h0 h1 h2 h3 h4 h5 h6 h7 h8 h9 h10 h11 h12 h13 h14 h15 h16 h17 now_38 kept isKept found order_38 doubts_38 doubtMany_38 u_3.2.2.2.2.1 worn_38 pairs_38 isTwice_38 doer doneTo doers tape taped begins ends sort value isWrong items itemMany bowThen doubtThen deedThen sayingThen widths sizes numbers moved) → va_S A s.heap H locs → lv_has ls 6 [(0, .ref h0), (1, .int x1_38), (2, .int x2_38), (3, .int x3_38), (4, .int x4_38), (5, .int x5_38)] → (∀ {H : Heap} {locs : List Loc} {ls : Array Slot}, va_P G vwCl (wM ca ev h0 h1 h2 h3 h4 h5 h6 h7 h8 h9 h10 h11 h12 h13 h14 h15 h16 h17 now_38 kept isKept found order_38 doubts_38 doubtMany_38 u_3.2.2.2.2.1 uL_38.2.1 uL_38.2.2.1 uL_38.2.2.2 doer doneTo doers tape taped begins ends sort value isWrong items itemMany bowThen doubtThen deedThen sayingThen widths sizes numbers moved) H → va_D A (wM ca ev h0 h1 h2 h3 h4 h5 h6 h7 h8 h9 h10 h11 h12 h13 h14 h15 h16 h17 now_38 kept isKept found order_38 doubts_38 doubtMany_38 u_3.2.2.2.2.1 uL_38.2.1 uL_38.2.2.1 uL_38.2.2.2 doer doneTo doers tape taped begins ends sort value isWrong items itemMany bowThen doubtThen deedThen sayingThen widths sizes numbers moved) → va_S A s.heap H locs → lv_has ls 6 [(0, .ref h0), (3, .int uL_38.1)] → W p l e rm_X8_since s m args below meth c H locs 0 0 Q (F0 m 90 ls [])) → W p l e rm_X8_since s m args below meth c H locs 0 0 Q (F0 m 38 ls []) := by
        intro x1_38 x2_38 now_38 order_38 doubts_38 doubtMany_38 n_38
        induction n_38 with
        | zero => intro x3_38 x4_38 x5_38 worn_38 pairs_38 isTwice_38 uL_38 H locs ls h; exact absurd h (by rw [f_X8_since_38]; exact fun z => nomatch z)
        | succ n_38 ih =>
          intro x3_38 x4_38 x5_38 worn_38 pairs_38 isTwice_38 uL_38 H locs ls h hP hD hS hl JK_38
          rw [f_X8_since_38] at h
          refine lv_iload hx hb dX8_since_38 (lv_at hl 5 rfl) ?_
          refine lv_if_lt (tgt := 90) hx hb dX8_since_40 (by decide) (fun c_5 => ?_) (fun c_5 => ?_)
          · have h := ifp c_5 h
            obtain rfl := Option.some.inj h
            exact JK_38 hP hD hS (lv_sub hl [0, 3] rfl)
          · have h := ifn c_5 h
            refine lv_iload hx hb dX8_since_43 (lv_at hl 4 rfl) ?_
            refine lv_if_eq (tgt := 90) hx hb dX8_since_45 (by decide) (fun c_6 => ?_) (fun c_6 => ?_)
            · have h := ifp c_6 h
              obtain rfl := Option.some.inj h
              exact JK_38 hP hD hS (lv_sub hl [0, 3] rfl)
            · have h := ifn c_6 h
              refine lv_aload_n hx hb dX8_since_48 rfl (lv_at hl 0 rfl) ?_
              refine lv_iload_n hx hb dX8_since_49 rfl (lv_at hl 2 rfl) ?_
              refine lv_iload hx hb dX8_since_50 (lv_at hl 5 rfl) ?_
              obtain ⟨u_7, e_7, h⟩ := bd_some h
              refine cm_Vv (As := [.int x2_38, .int x5_38]) (rest := []) ⟨hx, hb, hml, hown, hts⟩ (c_X8_goes (ca := ca) (ev := ev) (h0 := h0) (h1 := h1) (h2 := h2) (h3 := h3) (h4 := h4) (h5 := h5) (h6 := h6) (h7 := h7) (h8 := h8) (h9 := h9) (h10 := h10) (h11 := h11) (h12 := h12) (h13 := h13) (h14 := h14) (h15 := h15) (h16 := h16) (h17 := h17) (now := now_38) (kept := kept) (isKept := isKept) (found := found) (order := order_38) (doubts := doubts_38) (doubtMany := doubtMany_38) (weights := u_3.2.2.2.2.1) (worn := worn_38) (pairs := pairs_38) (isTwice := isTwice_38) (doer := doer) (doneTo := doneTo) (doers := doers) (tape := tape) (taped := taped) (begins := begins) (ends := ends) (sort := sort) (value := value) (isWrong := isWrong) (items := items) (itemMany := itemMany) (bowThen := bowThen) (doubtThen := doubtThen) (deedThen := deedThen) (sayingThen := sayingThen) (widths := widths) (sizes := sizes) (numbers := numbers) (moved := moved) e_7) (cwV 2 hts gX8_since_X8_goes rfl rfl rfl hd_X8_goes ⟨Nat.le_of_ble_eq_true rfl, Nat.le_of_ble_eq_true rfl⟩) hK hP hD hS hA hE (q0 := 0) (ci := 8) rfl rfl rfl rfl hl.1 rfl (Nat.le_of_ble_eq_true rfl) dX8_since_52 ⟨Nat.zero_le _, Nat.zero_le _⟩ (fun H locs hP hD hS => ?_)
              refine lv_aload_n hx hb dX8_since_55 rfl (lv_at hl 0 rfl) ?_
              refine va_get (D := G) (ci := 8) (v := .ref h7) (C := RX8) (T := TX8) (N := 32) hx hb hts hin_X8 hown hK hP 0 rfl rfl 8 (by decide) fk_29 (fun _ h9 => h9) rfl dX8_since_56 ?_
              refine lv_iload_n hx hb dX8_since_59 rfl (lv_at hl 1 rfl) ?_
              obtain ⟨i_8, h⟩ := gd_some h
              refine va_iald hx hb hK hP 7 0 rfl rfl (ix_in i_8) dX8_since_60 ?_
              refine lv_iload_n hx hb dX8_since_61 rfl (lv_at hl 1 rfl) ?_
              obtain ⟨u_9, e_9, h⟩ := bd_some h
              have J_9 : ∀ {H : Heap} {locs : List Loc} {ls : Array Slot}, va_P G vwCl (wM ca ev h0 h1 h2 h3 h4 h5 h6 h7 h8 h9 h10 h11 h12 h13 h14 h15 h16 h17 now_38 kept isKept found order_38 doubts_38 doubtMany_38 u_3.2.2.2.2.1 u_7.1 u_7.2.1 u_7.2.2 doer doneTo doers tape taped begins ends sort value isWrong items itemMany bowThen doubtThen deedThen sayingThen widths sizes numbers moved) H → va_D A (wM ca ev h0 h1 h2 h3 h4 h5 h6 h7 h8 h9 h10 h11 h12 h13 h14 h15 h16 h17 now_38 kept isKept found order_38 doubts_38 doubtMany_38 u_3.2.2.2.2.1 u_7.1 u_7.2.1 u_7.2.2 doer doneTo doers tape taped begins ends sort value isWrong items itemMany bowThen doubtThen deedThen sayingThen widths sizes numbers moved) → va_S A s.heap H locs → lv_has ls 6 [(0, .ref h0), (1, .int x1_38), (2, .int x2_38), (3, .int x3_38), (5, .int x5_38)] → (u_9 = 0 ∨ u_9 = 1) → W p l e rm_X8_since s m args below meth c H locs 0 0 Q (F0 m 70 ls [.int u_9]) := by
                intro H locs ls hP hD hS hl zj_9_0
                refine lv_istore (lv' := [(4, .int u_9), (0, .ref h0), (1, .int x1_38), (2, .int x2_38), (3, .int x3_38), (5, .int x5_38)]) hx hb dX8_since_70 hl (by decide) rfl (fun ls hl => ?_)
                refine lv_iload hx hb dX8_since_72 (lv_at hl 0 rfl) ?_
                obtain ⟨u_10, e_10, h⟩ := bd_some h
                have J_10 : ∀ {H : Heap} {locs : List Loc} {ls : Array Slot}, va_P G vwCl (wM ca ev h0 h1 h2 h3 h4 h5 h6 h7 h8 h9 h10 h11 h12 h13 h14 h15 h16 h17 now_38 kept isKept found order_38 doubts_38 doubtMany_38 u_3.2.2.2.2.1 u_7.1 u_7.2.1 u_7.2.2 doer doneTo doers tape taped begins ends sort value isWrong items itemMany bowThen doubtThen deedThen sayingThen widths sizes numbers moved) H → va_D A (wM ca ev h0 h1 h2 h3 h4 h5 h6 h7 h8 h9 h10 h11 h12 h13 h14 h15 h16 h17 now_38 kept isKept found order_38 doubts_38 doubtMany_38 u_3.2.2.2.2.1 u_7.1 u_7.2.1 u_7.2.2 doer doneTo doers tape taped begins ends sort value isWrong items itemMany bowThen doubtThen deedThen sayingThen widths sizes numbers moved) → va_S A s.heap H locs → lv_has ls 6 [(0, .ref h0), (1, .int x1_38), (2, .int x2_38), (4, .int u_9), (5, .int x5_38)] → W p l e rm_X8_since s m args below meth c H locs 0 0 Q (F0 m 83 ls [.int u_10]) := by
                  intro H locs ls hP hD hS hl 
                  refine lv_istore_n (lv' := [(3, .int u_10), (0, .ref h0), (1, .int x1_38), (2, .int x2_38), (4, .int u_9), (5, .int x5_38)]) hx hb dX8_since_83 rfl hl (by decide) rfl (fun ls hl => ?_)
                  refine lv_iinc (v := (x5_38 + (-1 : Int32))) (lv' := [(5, .int (x5_38 + (-1 : Int32))), (3, .int u_10), (0, .ref h0), (1, .int x1_38), (2, .int x2_38), (4, .int u_9)]) hx hb dX8_since_84 hl (k := 5) rfl rfl (by decide) rfl (fun ls hl => ?_)
                  refine lv_goto (tgt := 38) hx hb dX8_since_87 (by decide) ?_
                  exact ih h hP hD hS (lv_sub hl [2, 3, 4, 1, 5, 0] rfl) JK_38
                have h := e_10
                clear e_10
                refine lv_if_eq (tgt := 82) hx hb dX8_since_74 (by decide) (fun c_10 => ?_) (fun c_10 => ?_)
                · have h := ifp c_10 h
                  refine lv_iload_n hx hb dX8_since_82 rfl (lv_at hl 4 rfl) ?_
                  obtain rfl := Option.some.inj h
                  exact J_10 hP hD hS (lv_sub hl [1, 2, 3, 0, 5] rfl)
                · have h := ifn c_10 h
                  refine lv_iload hx hb dX8_since_77 (lv_at hl 5 rfl) ?_
                  refine lv_goto (tgt := 83) hx hb dX8_since_79 (by decide) ?_
                  obtain rfl := Option.some.inj h
                  exact J_10 hP hD hS (lv_sub hl [1, 2, 3, 0, 5] rfl)
              have h := e_9
              clear e_9
              refine lv_icmp_ne (tgt := 69) hx hb dX8_since_62 (by decide) (fun c_9 => ?_) (fun c_9 => ?_)
              · have h := ifn c_9 h
                refine lv_iconst (v := (0 : Int32)) hx hb dX8_since_69 (by decide) ?_
                obtain rfl := Option.some.inj h
                exact J_9 hP hD hS (lv_sub hl [0, 1, 2, 3, 5] rfl) zb_0
              · have h := ifp c_9 h
                refine lv_iconst (v := (1 : Int32)) hx hb dX8_since_65 (by decide) ?_
                refine lv_goto (tgt := 70) hx hb dX8_since_66 (by decide) ?_
                obtain rfl := Option.some.inj h
                exact J_9 hP hD hS (lv_sub hl [0, 1, 2, 3, 5] rfl) zb_1
      obtain ⟨u_11, e_11, h⟩ := bd_some h
      refine L_38 _ e_11 hP hD hS (lv_sub hl [2, 3, 4, 5, 1, 0] rfl) ?_
      intro H locs ls hP hD hS hl
      refine lv_iload_n hx hb dX8_since_90 rfl (lv_at hl 1 rfl) ?_
      refine lv_bipush (v := (99 : Int32)) hx hb dX8_since_91 (by decide) ?_
      refine lv_icmp_le (tgt := 105) hx hb dX8_since_93 (by decide) (fun c_12 => ?_) (fun c_12 => ?_)
      · have h := ifp c_12 h
        refine lv_iload_n hx hb dX8_since_105 rfl (lv_at hl 1 rfl) ?_
        obtain rfl := Option.some.inj h
        exact hRet hP hD hS dX8_since_106
      · have h := ifn c_12 h
        refine lv_aload_n hx hb dX8_since_96 rfl (lv_at hl 0 rfl) ?_
        refine lv_ldc (v := (-1000000004 : Int32)) hx hb hown (hts (.constant RX8 179 (-1000000004)) (by decide +kernel)) dX8_since_97 ?_
        obtain ⟨u_13, e_13, h⟩ := bd_some h
        refine cm_Vi (As := [.int (-1000000004 : Int32)]) (rest := []) ⟨hx, hb, hml, hown, hts⟩ (c_X8_finding (ca := ca) (ev := ev) (h0 := h0) (h1 := h1) (h2 := h2) (h3 := h3) (h4 := h4) (h5 := h5) (h6 := h6) (h7 := h7) (h8 := h8) (h9 := h9) (h10 := h10) (h11 := h11) (h12 := h12) (h13 := h13) (h14 := h14) (h15 := h15) (h16 := h16) (h17 := h17) (now := now) (kept := kept) (isKept := isKept) (found := found) (order := u_3.2.1) (doubts := u_3.2.2.1) (doubtMany := u_3.2.2.2.1) (weights := u_3.2.2.2.2.1) (worn := u_11.2.1) (pairs := u_11.2.2.1) (isTwice := u_11.2.2.2) (doer := doer) (doneTo := doneTo) (doers := doers) (tape := tape) (taped := taped) (begins := begins) (ends := ends) (sort := sort) (value := value) (isWrong := isWrong) (items := items) (itemMany := itemMany) (bowThen := bowThen) (doubtThen := doubtThen) (deedThen := deedThen) (sayingThen := sayingThen) (widths := widths) (sizes := sizes) (numbers := numbers) (moved := moved) e_13) (cwV 1 hts gX8_since_X8_finding rfl rfl rfl hd_X8_finding ⟨Nat.le_of_ble_eq_true rfl, Nat.le_of_ble_eq_true rfl⟩) hK hP hD hS hA hE (q0 := 0) (ci := 8) rfl rfl rfl rfl hl.1 rfl (Nat.le_of_ble_eq_true rfl) dX8_since_99 ⟨Nat.zero_le _, Nat.zero_le _⟩ (fun H locs hP hD hS => ?_)
        refine lv_goto (tgt := 106) hx hb dX8_since_102 (by decide) ?_
        obtain rfl := Option.some.inj h
        exact hRet hP hD hS dX8_since_106
    have h := e_4
    clear e_4
    refine lv_if_lt (tgt := 31) hx hb dX8_since_24 (by decide) (fun c_4 => ?_) (fun c_4 => ?_)
    · have h := ifp c_4 h
      refine lv_iconst (v := (0 : Int32)) hx hb dX8_since_31 (by decide) ?_
      obtain rfl := Option.some.inj h
      exact J_4 hP hD hS (lv_sub hl [2, 3, 1, 0] rfl) zb_0
    · have h := ifn c_4 h
      refine lv_iconst (v := (1 : Int32)) hx hb dX8_since_27 (by decide) ?_
      refine lv_goto (tgt := 32) hx hb dX8_since_28 (by decide) ?_
      obtain rfl := Option.some.inj h
      exact J_4 hP hD hS (lv_sub hl [2, 3, 1, 0] rfl) zb_1
  · have h := ifp c_2 h
    refine lv_aload_n hx hb dX8_since_8 rfl (lv_at hl 0 rfl) ?_
    refine lv_ldc (v := (-1000000001 : Int32)) hx hb hown (hts (.constant RX8 77 (-1000000001)) (by decide +kernel)) dX8_since_9 ?_
    obtain ⟨u_14, e_14, h⟩ := bd_some h
    refine cm_Vi (As := [.int (-1000000001 : Int32)]) (rest := []) ⟨hx, hb, hml, hown, hts⟩ (c_X8_finding (ca := ca) (ev := ev) (h0 := h0) (h1 := h1) (h2 := h2) (h3 := h3) (h4 := h4) (h5 := h5) (h6 := h6) (h7 := h7) (h8 := h8) (h9 := h9) (h10 := h10) (h11 := h11) (h12 := h12) (h13 := h13) (h14 := h14) (h15 := h15) (h16 := h16) (h17 := h17) (now := now) (kept := kept) (isKept := isKept) (found := found) (order := order) (doubts := doubts) (doubtMany := doubtMany) (weights := weights) (worn := worn) (pairs := pairs) (isTwice := isTwice) (doer := doer) (doneTo := doneTo) (doers := doers) (tape := tape) (taped := taped) (begins := begins) (ends := ends) (sort := sort) (value := value) (isWrong := isWrong) (items := items) (itemMany := itemMany) (bowThen := bowThen) (doubtThen := doubtThen) (deedThen := deedThen) (sayingThen := sayingThen) (widths := widths) (sizes := sizes) (numbers := numbers) (moved := moved) e_14) (cwV 1 hts gX8_since_X8_finding rfl rfl rfl hd_X8_finding ⟨Nat.le_of_ble_eq_true rfl, Nat.le_of_ble_eq_true rfl⟩) hK hP hD hS hA hE (q0 := 0) (ci := 8) rfl rfl rfl rfl hl.1 rfl (Nat.le_of_ble_eq_true rfl) dX8_since_11 ⟨Nat.zero_le _, Nat.zero_le _⟩ (fun H locs hP hD hS => ?_)
    obtain rfl := Option.some.inj h
    exact hRet hP hD hS dX8_since_14
abbrev rm_X8_feed : Room := { frames := 1, cells := 0, slots := 0, locals := 22 }
theorem hd_X8_feed : yX8_feed.cls = RX8 ∧ yX8_feed.cls ≠ "java/lang/invoke/MethodHandle" ∧ yX8_feed.cls ≠ "java/lang/invoke/VarHandle" ∧ (parseMethodDescriptor yX8_feed.desc).map (fun d => d.parameters.length) = some 2 := by decide +kernel
set_option maxHeartbeats 4000000 in
set_option maxRecDepth 100000 in
theorem c_X8_feed {l : Launch} {G : va_G} {ca : Nat → ClassId} {ev : Nat → Nat} {h0 h1 h2 h3 h4 h5 h6 h7 h8 h9 h10 h11 h12 h13 h14 h15 h16 h17 : Nat} {now : (Nat → Int32)} {kept : (Nat → Int32)} {isKept : Int32} {found : (Nat → Int32)} {order : (Nat → Int32)} {doubts : (Nat → Int32)} {doubtMany : Int32} {weights : (Nat → Int64)} {worn : (Nat → Int32)} {pairs : Int64} {isTwice : Int32} {doer : (Nat → Int32)} {doneTo : (Nat → Int32)} {doers : (Nat → Int64)} {tape : (Nat → Int32)} {taped : Int32} {begins : Int32} {ends : Int32} {sort : Int32} {value : Int32} {isWrong : Int32} {items : (Nat → Int32)} {itemMany : Int32} {bowThen : Int32} {doubtThen : Int32} {deedThen : Int32} {sayingThen : Int32} {widths : (Nat → Int32)} {sizes : (Nat → Int32)} {numbers : (Nat → Int64)} {moved : (Nat → Int64)} {a1 : Int32} {a2 : Int32} {N : Nat} {res : Int32 × (Nat → Int32) × (Nat → Int32) × Int32} (h : f_X8_feed N found tape taped a1 a2 = some res) : CtI l yX8_feed wsX8_feed rm_X8_feed G ca ev [.ref h0, .int a1, .int a2] (wM ca ev h0 h1 h2 h3 h4 h5 h6 h7 h8 h9 h10 h11 h12 h13 h14 h15 h16 h17 now kept isKept found order doubts doubtMany weights worn pairs isTwice doer doneTo doers tape taped begins ends sort value isWrong items itemMany bowThen doubtThen deedThen sayingThen widths sizes numbers moved) (wM ca ev h0 h1 h2 h3 h4 h5 h6 h7 h8 h9 h10 h11 h12 h13 h14 h15 h16 h17 now kept isKept res.2.1 order doubts doubtMany weights worn pairs isTwice doer doneTo doers res.2.2.1 res.2.2.2 begins ends sort value isWrong items itemMany bowThen doubtThen deedThen sayingThen widths sizes numbers moved) res.1 := by
  unfold f_X8_feed at h
  refine en_i (by decide) rfl (Nat.le_of_ble_eq_true rfl) ?_
  intro p e s m args below meth c A Q H locs ls hx hb hml hown hts hA hP hK hD hE hS hl hRet
  have hown : s.vm.findClass RX8 = some m.cls := hown
  have hl : lv_has ls 4 [(0, .ref h0), (1, .int a1), (2, .int a2)] := hl
  have hin_X8 : ∀ w ∈ u_ws RX8 TX8 32, w ∈ wsX8_feed := fun w h9 => List.mem_cons_of_mem _ (List.mem_append_right _ h9)
  have fk_234 := hts (.fieldLink RX8 234 "MaskBowsModel" "taped" "I") (by decide +kernel)
  have fk_41 := hts (.fieldLink RX8 41 "MaskBowsModel" "tape" "[I") (by decide +kernel)
  refine lv_iload_n hx hb dX8_feed_0 rfl (lv_at hl 2 rfl) ?_
  refine lv_iconst (v := (1 : Int32)) hx hb dX8_feed_1 (by decide) ?_
  refine lv_iconst (v := (4 : Int32)) hx hb dX8_feed_2 (by decide) ?_
  obtain ⟨u_1, e_1, h⟩ := bd_some h
  refine cn_Si (As := [.int a2, .int (1 : Int32), .int (4 : Int32)]) (rest := []) ⟨hx, hb, hml, hown, hts⟩ (c_X8_within e_1) (va_cwS 3 hts gX8_feed_X8_within rfl rfl rfl hd_X8_within ⟨Nat.le_of_ble_eq_true rfl, Nat.le_of_ble_eq_true rfl⟩) hK hP hD hS hA hE rfl hl.1 rfl (Nat.le_of_ble_eq_true rfl) dX8_feed_3 ⟨Nat.zero_le _, Nat.zero_le _⟩ (fun H locs hP hD hS => ?_)
  refine lv_if_ne (tgt := 16) hx hb dX8_feed_6 (by decide) (fun c_2 => ?_) (fun c_2 => ?_)
  · have h := ifn c_2 h
    refine lv_aload_n hx hb dX8_feed_16 rfl (lv_at hl 0 rfl) ?_
    refine va_get (D := G) (ci := 8) (v := .int taped) (C := RX8) (T := TX8) (N := 32) hx hb hts hin_X8 hown hK hP 0 rfl rfl 15 (by decide) fk_234 (fun _ h9 => h9) rfl dX8_feed_17 ?_
    refine lv_iload_n hx hb dX8_feed_20 rfl (lv_at hl 2 rfl) ?_
    refine lv_iadd hx hb dX8_feed_21 ?_
    refine lv_bipush (v := (120 : Int32)) hx hb dX8_feed_22 (by decide) ?_
    refine lv_icmp_le (tgt := 34) hx hb dX8_feed_24 (by decide) (fun c_3 => ?_) (fun c_3 => ?_)
    · have h := ifp c_3 h
      refine lv_iload_n hx hb dX8_feed_34 rfl (lv_at hl 2 rfl) ?_
      refine lv_iconst (v := (1 : Int32)) hx hb dX8_feed_35 (by decide) ?_
      refine lv_isub hx hb dX8_feed_36 ?_
      refine lv_istore_n (lv' := [(3, .int (a2 - (1 : Int32))), (0, .ref h0), (1, .int a1), (2, .int a2)]) hx hb dX8_feed_37 rfl hl (by decide) rfl (fun ls hl => ?_)
      have L_38 : ∀ {x1_38 : Int32}  (n_38 : Nat) {x3_38 : Int32} {tape_38 : (Nat → Int32)} {taped_38 : Int32} {uL_38 : (Nat → Int32) × Int32} {H : Heap} {locs : List Loc} {ls : Array Slot}, f_X8_feed_38 x1_38  n_38 x3_38 tape_38 taped_38 = some uL_38 → va_P G vwCl (wM ca ev h0 h1 h2 h3 h4 h5 h6 h7 h8 h9 h10 h11 h12 h13 h14 h15 h16 h17 now kept isKept found order doubts doubtMany weights worn pairs isTwice doer doneTo doers tape_38 taped_38 begins ends sort value isWrong items itemMany bowThen doubtThen deedThen sayingThen widths sizes numbers moved) H → va_D A (wM ca ev h0 h1 h2 h3 h4 h5 h6 h7 h8 h9 h10 h11 h12 h13 h14 h15 h16 h17 now kept isKept found order doubts doubtMany weights worn pairs isTwice doer doneTo doers tape_38 taped_38 begins ends sort value isWrong items itemMany bowThen doubtThen deedThen sayingThen widths sizes numbers moved) → va_S A s.heap H locs → lv_has ls 4 [(0, .ref h0), (1, .int x1_38), (3, .int x3_38)] → (∀ {H : Heap} {locs : List Loc} {ls : Array Slot}, va_P G vwCl (wM ca ev h0 h1 h2 h3 h4 h5 h6 h7 h8 h9 h10 h11 h12 h13 h14 h15 h16 h17 now kept isKept found order doubts doubtMany weights worn pairs isTwice doer doneTo doers uL_38.1 uL_38.2 begins ends sort value isWrong items itemMany bowThen doubtThen deedThen sayingThen widths sizes numbers moved) H → va_D A (wM ca ev h0 h1 h2 h3 h4 h5 h6 h7 h8 h9 h10 h11 h12 h13 h14 h15 h16 h17 now kept isKept found order doubts doubtMany weights worn pairs isTwice doer doneTo doers uL_38.1 uL_38.2 begins ends sort value isWrong items itemMany bowThen doubtThen deedThen sayingThen widths sizes numbers moved) → va_S A s.heap H locs → lv_has ls 4 [(0, .ref h0)] → W p l e rm_X8_feed s m args below meth c H locs 0 0 Q (F0 m 77 ls [])) → W p l e rm_X8_feed s m args below meth c H locs 0 0 Q (F0 m 38 ls []) := by
        intro x1_38 n_38
        induction n_38 with
        | zero => intro x3_38 tape_38 taped_38 uL_38 H locs ls h; exact absurd h (by rw [f_X8_feed_38]; exact fun z => nomatch z)
        | succ n_38 ih =>
          intro x3_38 tape_38 taped_38 uL_38 H locs ls h hP hD hS hl JK_38
          rw [f_X8_feed_38] at h
          refine lv_iload_n hx hb dX8_feed_38 rfl (lv_at hl 2 rfl) ?_
          refine lv_if_lt (tgt := 77) hx hb dX8_feed_39 (by decide) (fun c_4 => ?_) (fun c_4 => ?_)
          · have h := ifp c_4 h
            obtain rfl := Option.some.inj h
            exact JK_38 hP hD hS (lv_sub hl [0] rfl)
          · have h := ifn c_4 h
            refine lv_aload_n hx hb dX8_feed_42 rfl (lv_at hl 0 rfl) ?_
            refine va_get (D := G) (ci := 8) (v := .ref h11) (C := RX8) (T := TX8) (N := 32) hx hb hts hin_X8 hown hK hP 0 rfl rfl 14 (by decide) fk_41 (fun _ h9 => h9) rfl dX8_feed_43 ?_
            refine lv_aload_n hx hb dX8_feed_46 rfl (lv_at hl 0 rfl) ?_
            refine va_get (D := G) (ci := 8) (v := .int taped_38) (C := RX8) (T := TX8) (N := 32) hx hb hts hin_X8 hown hK hP 0 rfl rfl 15 (by decide) fk_234 (fun _ h9 => h9) rfl dX8_feed_47 ?_
            refine lv_iload_n hx hb dX8_feed_50 rfl (lv_at hl 1 rfl) ?_
            refine lv_bipush (v := (8 : Int32)) hx hb dX8_feed_51 (by decide) ?_
            refine lv_iload_n hx hb dX8_feed_53 rfl (lv_at hl 2 rfl) ?_
            refine lv_imul hx hb dX8_feed_54 ?_
            refine lv_ishr hx hb dX8_feed_55 ?_
            refine lv_sipush (v := (255 : Int32)) hx hb dX8_feed_56 (by decide) ?_
            refine lv_iand hx hb dX8_feed_59 ?_
            obtain ⟨i_5, h⟩ := gd_some h
            refine va_iast hx hb hK hP hD hS 11 0 rfl rfl (ix_in i_5) dX8_feed_60 (fun H locs hP hD hS => ?_)
            have hP : va_P G vwCl (wM ca ev h0 h1 h2 h3 h4 h5 h6 h7 h8 h9 h10 h11 h12 h13 h14 h15 h16 h17 now kept isKept found order doubts doubtMany weights worn pairs isTwice doer doneTo doers (upd tape_38 taped_38.toNatClampNeg ((x1_38 >>> (((8 : Int32) * x3_38) &&& 31)) &&& (255 : Int32))) taped_38 begins ends sort value isWrong items itemMany bowThen doubtThen deedThen sayingThen widths sizes numbers moved) H := hP
            have hD : va_D A (wM ca ev h0 h1 h2 h3 h4 h5 h6 h7 h8 h9 h10 h11 h12 h13 h14 h15 h16 h17 now kept isKept found order doubts doubtMany weights worn pairs isTwice doer doneTo doers (upd tape_38 taped_38.toNatClampNeg ((x1_38 >>> (((8 : Int32) * x3_38) &&& 31)) &&& (255 : Int32))) taped_38 begins ends sort value isWrong items itemMany bowThen doubtThen deedThen sayingThen widths sizes numbers moved) := hD
            refine lv_aload_n hx hb dX8_feed_61 rfl (lv_at hl 0 rfl) ?_
            refine lv_dup hx hb dX8_feed_62 rfl ?_
            refine va_get (D := G) (ci := 8) (v := .int taped_38) (C := RX8) (T := TX8) (N := 32) hx hb hts hin_X8 hown hK hP 0 rfl rfl 15 (by decide) fk_234 (fun _ h9 => h9) rfl dX8_feed_63 ?_
            refine lv_iconst (v := (1 : Int32)) hx hb dX8_feed_66 (by decide) ?_
            refine lv_iadd hx hb dX8_feed_67 ?_
            refine va_put (D := G) (ci := 8) (v := .int (taped_38 + (1 : Int32))) (ty := .int) (C := RX8) (T := TX8) (N := 32) hx hb hts hin_X8 tyX8 tyX8_ok nmX8 hown hK hP hD hS 0 rfl rfl 15 (by decide) fk_234 (fun _ h9 => h9) rfl (tyX8_ok 15 (by decide)) rfl rfl (Nat.le_of_ble_eq_true rfl) dX8_feed_68 (fun H locs hP hD hS => ?_)
            have hP : va_P G vwCl (wM ca ev h0 h1 h2 h3 h4 h5 h6 h7 h8 h9 h10 h11 h12 h13 h14 h15 h16 h17 now kept isKept found order doubts doubtMany weights worn pairs isTwice doer doneTo doers (upd tape_38 taped_38.toNatClampNeg ((x1_38 >>> (((8 : Int32) * x3_38) &&& 31)) &&& (255 : Int32))) (taped_38 + (1 : Int32)) begins ends sort value isWrong items itemMany bowThen doubtThen deedThen sayingThen widths sizes numbers moved) H := hP
            have hD : va_D A (wM ca ev h0 h1 h2 h3 h4 h5 h6 h7 h8 h9 h10 h11 h12 h13 h14 h15 h16 h17 now kept isKept found order doubts doubtMany weights worn pairs isTwice doer doneTo doers (upd tape_38 taped_38.toNatClampNeg ((x1_38 >>> (((8 : Int32) * x3_38) &&& 31)) &&& (255 : Int32))) (taped_38 + (1 : Int32)) begins ends sort value isWrong items itemMany bowThen doubtThen deedThen sayingThen widths sizes numbers moved) := hD
            refine lv_iinc (v := (x3_38 + (-1 : Int32))) (lv' := [(3, .int (x3_38 + (-1 : Int32))), (0, .ref h0), (1, .int x1_38)]) hx hb dX8_feed_71 hl (k := 2) rfl rfl (by decide) rfl (fun ls hl => ?_)
            refine lv_goto (tgt := 38) hx hb dX8_feed_74 (by decide) ?_
            exact ih h hP hD hS (lv_sub hl [1, 2, 0] rfl) JK_38
      obtain ⟨u_6, e_6, h⟩ := bd_some h
      refine L_38 _ e_6 hP hD hS (lv_sub hl [1, 2, 0] rfl) ?_
      intro H locs ls hP hD hS hl
      refine lv_aload_n hx hb dX8_feed_77 rfl (lv_at hl 0 rfl) ?_
      refine va_get (D := G) (ci := 8) (v := .int u_6.2) (C := RX8) (T := TX8) (N := 32) hx hb hts hin_X8 hown hK hP 0 rfl rfl 15 (by decide) fk_234 (fun _ h9 => h9) rfl dX8_feed_78 ?_
      obtain rfl := Option.some.inj h
      exact hRet hP hD hS dX8_feed_81
    · have h := ifn c_3 h
      refine lv_aload_n hx hb dX8_feed_27 rfl (lv_at hl 0 rfl) ?_
      refine lv_ldc (v := (-1000000002 : Int32)) hx hb hown (hts (.constant RX8 109 (-1000000002)) (by decide +kernel)) dX8_feed_28 ?_
      obtain ⟨u_7, e_7, h⟩ := bd_some h
      refine cm_Vi (As := [.int (-1000000002 : Int32)]) (rest := []) ⟨hx, hb, hml, hown, hts⟩ (c_X8_finding (ca := ca) (ev := ev) (h0 := h0) (h1 := h1) (h2 := h2) (h3 := h3) (h4 := h4) (h5 := h5) (h6 := h6) (h7 := h7) (h8 := h8) (h9 := h9) (h10 := h10) (h11 := h11) (h12 := h12) (h13 := h13) (h14 := h14) (h15 := h15) (h16 := h16) (h17 := h17) (now := now) (kept := kept) (isKept := isKept) (found := found) (order := order) (doubts := doubts) (doubtMany := doubtMany) (weights := weights) (worn := worn) (pairs := pairs) (isTwice := isTwice) (doer := doer) (doneTo := doneTo) (doers := doers) (tape := tape) (taped := taped) (begins := begins) (ends := ends) (sort := sort) (value := value) (isWrong := isWrong) (items := items) (itemMany := itemMany) (bowThen := bowThen) (doubtThen := doubtThen) (deedThen := deedThen) (sayingThen := sayingThen) (widths := widths) (sizes := sizes) (numbers := numbers) (moved := moved) e_7) (cwV 1 hts gX8_feed_X8_finding rfl rfl rfl hd_X8_finding ⟨Nat.le_of_ble_eq_true rfl, Nat.le_of_ble_eq_true rfl⟩) hK hP hD hS hA hE (q0 := 0) (ci := 8) rfl rfl rfl rfl hl.1 rfl (Nat.le_of_ble_eq_true rfl) dX8_feed_30 ⟨Nat.zero_le _, Nat.zero_le _⟩ (fun H locs hP hD hS => ?_)
      obtain rfl := Option.some.inj h
      exact hRet hP hD hS dX8_feed_33
  · have h := ifp c_2 h
    refine lv_aload_n hx hb dX8_feed_9 rfl (lv_at hl 0 rfl) ?_
    refine lv_ldc (v := (-1000000001 : Int32)) hx hb hown (hts (.constant RX8 77 (-1000000001)) (by decide +kernel)) dX8_feed_10 ?_
    obtain ⟨u_8, e_8, h⟩ := bd_some h
    refine cm_Vi (As := [.int (-1000000001 : Int32)]) (rest := []) ⟨hx, hb, hml, hown, hts⟩ (c_X8_finding (ca := ca) (ev := ev) (h0 := h0) (h1 := h1) (h2 := h2) (h3 := h3) (h4 := h4) (h5 := h5) (h6 := h6) (h7 := h7) (h8 := h8) (h9 := h9) (h10 := h10) (h11 := h11) (h12 := h12) (h13 := h13) (h14 := h14) (h15 := h15) (h16 := h16) (h17 := h17) (now := now) (kept := kept) (isKept := isKept) (found := found) (order := order) (doubts := doubts) (doubtMany := doubtMany) (weights := weights) (worn := worn) (pairs := pairs) (isTwice := isTwice) (doer := doer) (doneTo := doneTo) (doers := doers) (tape := tape) (taped := taped) (begins := begins) (ends := ends) (sort := sort) (value := value) (isWrong := isWrong) (items := items) (itemMany := itemMany) (bowThen := bowThen) (doubtThen := doubtThen) (deedThen := deedThen) (sayingThen := sayingThen) (widths := widths) (sizes := sizes) (numbers := numbers) (moved := moved) e_8) (cwV 1 hts gX8_feed_X8_finding rfl rfl rfl hd_X8_finding ⟨Nat.le_of_ble_eq_true rfl, Nat.le_of_ble_eq_true rfl⟩) hK hP hD hS hA hE (q0 := 0) (ci := 8) rfl rfl rfl rfl hl.1 rfl (Nat.le_of_ble_eq_true rfl) dX8_feed_12 ⟨Nat.zero_le _, Nat.zero_le _⟩ (fun H locs hP hD hS => ?_)
    obtain rfl := Option.some.inj h
    exact hRet hP hD hS dX8_feed_15
