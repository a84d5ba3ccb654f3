abbrev rm_J6_bitCount_0f7a4 : Room := { frames := 0, cells := 0, slots := 0, locals := 0 }
theorem hd_J6_bitCount_0f7a4 : yJ6_bitCount_0f7a4.cls ≠ "java/lang/invoke/MethodHandle" ∧ yJ6_bitCount_0f7a4.cls ≠ "java/lang/invoke/VarHandle" ∧ (parseMethodDescriptor yJ6_bitCount_0f7a4.desc).map (fun d => d.parameters.length) = some 1 := by decide +kernel
set_option maxHeartbeats 4000000 in
set_option maxRecDepth 100000 in
theorem c_J6_bitCount_0f7a4 {l : Launch} {G : va_G} {ca : Nat → ClassId} {ev : Nat → Nat}  {a0 : Int32} {res : Int32} (h : f_J6_bitCount_0f7a4 a0 = some res) : CtI l yJ6_bitCount_0f7a4 wsJ6_bitCount_0f7a4 rm_J6_bitCount_0f7a4 G ca ev [.int a0] [] [] res := by
  unfold f_J6_bitCount_0f7a4 at h
  refine en_i (by decide) rfl (Nat.le_of_ble_eq_true rfl) ?_
  intro p e s m args below meth c A Q H locs ls hx hb hml hown hts hA hP hK hD hE hS hl hRet
  have hown : s.vm.findClass RJ6 = some m.cls := hown
  have hl : lv_has ls 1 [(0, .int a0)] := hl
  refine lv_iload_n hx hb dJ6_bitCount_0f7a4_0 rfl (lv_at hl 0 rfl) ?_
  refine lv_iload_n hx hb dJ6_bitCount_0f7a4_1 rfl (lv_at hl 0 rfl) ?_
  refine lv_iconst (v := (1 : Int32)) hx hb dJ6_bitCount_0f7a4_2 (by decide) ?_
  refine lv_iushr (v := (a0.toUInt32 >>> ((1 : Int32).toUInt32 &&& Int32.toUInt32 31)).toInt32) hx hb dJ6_bitCount_0f7a4_3 rfl ?_
  refine lv_ldcw (v := (1431655765 : Int32)) hx hb hown (hts (.constant RJ6 265 (1431655765)) (by decide +kernel)) dJ6_bitCount_0f7a4_4 ?_
  refine lv_iand hx hb dJ6_bitCount_0f7a4_7 ?_
  refine lv_isub hx hb dJ6_bitCount_0f7a4_8 ?_
  refine lv_istore_n (lv' := [(0, .int (a0 - ((a0.toUInt32 >>> ((1 : Int32).toUInt32 &&& Int32.toUInt32 31)).toInt32 &&& (1431655765 : Int32))))]) hx hb dJ6_bitCount_0f7a4_9 rfl hl (by decide) rfl (fun ls hl => ?_)
  refine lv_iload_n hx hb dJ6_bitCount_0f7a4_10 rfl (lv_at hl 0 rfl) ?_
  refine lv_ldcw (v := (858993459 : Int32)) hx hb hown (hts (.constant RJ6 266 (858993459)) (by decide +kernel)) dJ6_bitCount_0f7a4_11 ?_
  refine lv_iand hx hb dJ6_bitCount_0f7a4_14 ?_
  refine lv_iload_n hx hb dJ6_bitCount_0f7a4_15 rfl (lv_at hl 0 rfl) ?_
  refine lv_iconst (v := (2 : Int32)) hx hb dJ6_bitCount_0f7a4_16 (by decide) ?_
  refine lv_iushr (v := ((a0 - ((a0.toUInt32 >>> ((1 : Int32).toUInt32 &&& Int32.toUInt32 31)).toInt32 &&& (1431655765 : Int32))).toUInt32 >>> ((2 : Int32).toUInt32 &&& Int32.toUInt32 31)).toInt32) hx hb dJ6_bitCount_0f7a4_17 rfl ?_
  refine lv_ldcw (v := (858993459 : Int32)) hx hb hown (hts (.constant RJ6 266 (858993459)) (by decide +kernel)) dJ6_bitCount_0f7a4_18 ?_
  refine lv_iand hx hb dJ6_bitCount_0f7a4_21 ?_
  refine lv_iadd hx hb dJ6_bitCount_0f7a4_22 ?_
  refine lv_istore_n (lv' := [(0, .int (((a0 - ((a0.toUInt32 >>> ((1 : Int32).toUInt32 &&& Int32.toUInt32 31)).toInt32 &&& (1431655765 : Int32))) &&& (858993459 : Int32)) + (((a0 - ((a0.toUInt32 >>> ((1 : Int32).toUInt32 &&& Int32.toUInt32 31)).toInt32 &&& (1431655765 : Int32))).toUInt32 >>> ((2 : Int32).toUInt32 &&& Int32.toUInt32 31)).toInt32 &&& (858993459 : Int32))))]) hx hb dJ6_bitCount_0f7a4_23 rfl hl (by decide) rfl (fun ls hl => ?_)
  refine lv_iload_n hx hb dJ6_bitCount_0f7a4_24 rfl (lv_at hl 0 rfl) ?_
  refine lv_iload_n hx hb dJ6_bitCount_0f7a4_25 rfl (lv_at hl 0 rfl) ?_
  refine lv_iconst (v := (4 : Int32)) hx hb dJ6_bitCount_0f7a4_26 (by decide) ?_
  refine lv_iushr (v := ((((a0 - ((a0.toUInt32 >>> ((1 : Int32).toUInt32 &&& Int32.toUInt32 31)).toInt32 &&& (1431655765 : Int32))) &&& (858993459 : Int32)) + (((a0 - ((a0.toUInt32 >>> ((1 : Int32).toUInt32 &&& Int32.toUInt32 31)).toInt32 &&& (1431655765 : Int32))).toUInt32 >>> ((2 : Int32).toUInt32 &&& Int32.toUInt32 31)).toInt32 &&& (858993459 : Int32))).toUInt32 >>> ((4 : Int32).toUInt32 &&& Int32.toUInt32 31)).toInt32) hx hb dJ6_bitCount_0f7a4_27 rfl ?_
  refine lv_iadd hx hb dJ6_bitCount_0f7a4_28 ?_
  refine lv_ldcw (v := (252645135 : Int32)) hx hb hown (hts (.constant RJ6 267 (252645135)) (by decide +kernel)) dJ6_bitCount_0f7a4_29 ?_
  refine lv_iand hx hb dJ6_bitCount_0f7a4_32 ?_
  refine lv_istore_n (lv' := [(0, .int (((((a0 - ((a0.toUInt32 >>> ((1 : Int32).toUInt32 &&& Int32.toUInt32 31)).toInt32 &&& (1431655765 : Int32))) &&& (858993459 : Int32)) + (((a0 - ((a0.toUInt32 >>> ((1 : Int32).toUInt32 &&& Int32.toUInt32 31)).toInt32 &&& (1431655765 : Int32))).toUInt32 >>> ((2 : Int32).toUInt32 &&& Int32.toUInt32 31)).toInt32 &&& (858993459 : Int32))) + ((((a0 - ((a0.toUInt32 >>> ((1 : Int32).toUInt32 &&& Int32.toUInt32 31)).toInt32 &&& (1431655765 : Int32))) &&& (858993459 : Int32)) + (((a0 - ((a0.toUInt32 >>> ((1 : Int32).toUInt32 &&& Int32.toUInt32 31)).toInt32 &&& (1431655765 : Int32))).toUInt32 >>> ((2 : Int32).toUInt32 &&& Int32.toUInt32 31)).toInt32 &&& (858993459 : Int32))).toUInt32 >>> ((4 : Int32).toUInt32 &&& Int32.toUInt32 31)).toInt32) &&& (252645135 : Int32)))]) hx hb dJ6_bitCount_0f7a4_33 rfl hl (by decide) rfl (fun ls hl => ?_)
  refine lv_iload_n hx hb dJ6_bitCount_0f7a4_34 rfl (lv_at hl 0 rfl) ?_
  refine lv_iload_n hx hb dJ6_bitCount_0f7a4_35 rfl (lv_at hl 0 rfl) ?_
  refine lv_bipush (v := (8 : Int32)) hx hb dJ6_bitCount_0f7a4_36 (by decide) ?_
  refine lv_iushr (v := ((((((a0 - ((a0.toUInt32 >>> ((1 : Int32).toUInt32 &&& Int32.toUInt32 31)).toInt32 &&& (1431655765 : Int32))) &&& (858993459 : Int32)) + (((a0 - ((a0.toUInt32 >>> ((1 : Int32).toUInt32 &&& Int32.toUInt32 31)).toInt32 &&& (1431655765 : Int32))).toUInt32 >>> ((2 : Int32).toUInt32 &&& Int32.toUInt32 31)).toInt32 &&& (858993459 : Int32))) + ((((a0 - ((a0.toUInt32 >>> ((1 : Int32).toUInt32 &&& Int32.toUInt32 31)).toInt32 &&& (1431655765 : Int32))) &&& (858993459 : Int32)) + (((a0 - ((a0.toUInt32 >>> ((1 : Int32).toUInt32 &&& Int32.toUInt32 31)).toInt32 &&& (1431655765 : Int32))).toUInt32 >>> ((2 : Int32).toUInt32 &&& Int32.toUInt32 31)).toInt32 &&& (858993459 : Int32))).toUInt32 >>> ((4 : Int32).toUInt32 &&& Int32.toUInt32 31)).toInt32) &&& (252645135 : Int32)).toUInt32 >>> ((8 : Int32).toUInt32 &&& Int32.toUInt32 31)).toInt32) hx hb dJ6_bitCount_0f7a4_38 rfl ?_
  refine lv_iadd hx hb dJ6_bitCount_0f7a4_39 ?_
  refine lv_istore_n (lv' := [(0, .int ((((((a0 - ((a0.toUInt32 >>> ((1 : Int32).toUInt32 &&& Int32.toUInt32 31)).toInt32 &&& (1431655765 : Int32))) &&& (858993459 : Int32)) + (((a0 - ((a0.toUInt32 >>> ((1 : Int32).toUInt32 &&& Int32.toUInt32 31)).toInt32 &&& (1431655765 : Int32))).toUInt32 >>> ((2 : Int32).toUInt32 &&& Int32.toUInt32 31)).toInt32 &&& (858993459 : Int32))) + ((((a0 - ((a0.toUInt32 >>> ((1 : Int32).toUInt32 &&& Int32.toUInt32 31)).toInt32 &&& (1431655765 : Int32))) &&& (858993459 : Int32)) + (((a0 - ((a0.toUInt32 >>> ((1 : Int32).toUInt32 &&& Int32.toUInt32 31)).toInt32 &&& (1431655765 : Int32))).toUInt32 >>> ((2 : Int32).toUInt32 &&& Int32.toUInt32 31)).toInt32 &&& (858993459 : Int32))).toUInt32 >>> ((4 : Int32).toUInt32 &&& Int32.toUInt32 31)).toInt32) &&& (252645135 : Int32)) + ((((((a0 - ((a0.toUInt32 >>> ((1 : Int32).toUInt32 &&& Int32.toUInt32 31)).toInt32 &&& (1431655765 : Int32))) &&& (858993459 : Int32)) + (((a0 - ((a0.toUInt32 >>> ((1 : Int32).toUInt32 &&& Int32.toUInt32 31)).toInt32 &&& (1431655765 : Int32))).toUInt32 >>> ((2 : Int32).toUInt32 &&& Int32.toUInt32 31)).toInt32 &&& (858993459 : Int32))) + ((((a0 - ((a0.toUInt32 >>> ((1 : Int32).toUInt32 &&& Int32.toUInt32 31)).toInt32 &&& (1431655765 : Int32))) &&& (858993459 : Int32)) + (((a0 - ((a0.toUInt32 >>> ((1 : Int32).toUInt32 &&& Int32.toUInt32 31)).toInt32 &&& (1431655765 : Int32))).toUInt32 >>> ((2 : Int32).toUInt32 &&& Int32.toUInt32 31)).toInt32 &&& (858993459 : Int32))).toUInt32 >>> ((4 : Int32).toUInt32 &&& Int32.toUInt32 31)).toInt32) &&& (252645135 : Int32)).toUInt32 >>> ((8 : Int32).toUInt32 &&& Int32.toUInt32 31)).toInt32))]) hx hb dJ6_bitCount_0f7a4_40 rfl hl (by decide) rfl (fun ls hl => ?_)
  refine lv_iload_n hx hb dJ6_bitCount_0f7a4_41 rfl (lv_at hl 0 rfl) ?_
  refine lv_iload_n hx hb dJ6_bitCount_0f7a4_42 rfl (lv_at hl 0 rfl) ?_
  refine lv_bipush (v := (16 : Int32)) hx hb dJ6_bitCount_0f7a4_43 (by decide) ?_
  refine lv_iushr (v := (((((((a0 - ((a0.toUInt32 >>> ((1 : Int32).toUInt32 &&& Int32.toUInt32 31)).toInt32 &&& (1431655765 : Int32))) &&& (858993459 : Int32)) + (((a0 - ((a0.toUInt32 >>> ((1 : Int32).toUInt32 &&& Int32.toUInt32 31)).toInt32 &&& (1431655765 : Int32))).toUInt32 >>> ((2 : Int32).toUInt32 &&& Int32.toUInt32 31)).toInt32 &&& (858993459 : Int32))) + ((((a0 - ((a0.toUInt32 >>> ((1 : Int32).toUInt32 &&& Int32.toUInt32 31)).toInt32 &&& (1431655765 : Int32))) &&& (858993459 : Int32)) + (((a0 - ((a0.toUInt32 >>> ((1 : Int32).toUInt32 &&& Int32.toUInt32 31)).toInt32 &&& (1431655765 : Int32))).toUInt32 >>> ((2 : Int32).toUInt32 &&& Int32.toUInt32 31)).toInt32 &&& (858993459 : Int32))).toUInt32 >>> ((4 : Int32).toUInt32 &&& Int32.toUInt32 31)).toInt32) &&& (252645135 : Int32)) + ((((((a0 - ((a0.toUInt32 >>> ((1 : Int32).toUInt32 &&& Int32.toUInt32 31)).toInt32 &&& (1431655765 : Int32))) &&& (858993459 : Int32)) + (((a0 - ((a0.toUInt32 >>> ((1 : Int32).toUInt32 &&& Int32.toUInt32 31)).toInt32 &&& (1431655765 : Int32))).toUInt32 >>> ((2 : Int32).toUInt32 &&& Int32.toUInt32 31)).toInt32 &&& (858993459 : Int32))) + ((((a0 - ((a0.toUInt32 >>> ((1 : Int32).toUInt32 &&& Int32.toUInt32 31)).toInt32 &&& (1431655765 : Int32))) &&& (858993459 : Int32)) + (((a0 - ((a0.toUInt32 >>> ((1 : Int32).toUInt32 &&& Int32.toUInt32 31)).toInt32 &&& (1431655765 : Int32))).toUInt32 >>> ((2 : Int32).toUInt32 &&& Int32.toUInt32 31)).toInt32 &&& (858993459 : Int32))).toUInt32 >>> ((4 : Int32).toUInt32 &&& Int32.toUInt32 31)).toInt32) &&& (252645135 : Int32)).toUInt32 >>> ((8 : Int32).toUInt32 &&& Int32.toUInt32 31)).toInt32).toUInt32 >>> ((16 : Int32).toUInt32 &&& Int32.toUInt32 31)).toInt32) hx hb dJ6_bitCount_0f7a4_45 rfl ?_
  refine lv_iadd hx hb dJ6_bitCount_0f7a4_46 ?_
  refine lv_istore_n (lv' := [(0, .int (((((((a0 - ((a0.toUInt32 >>> ((1 : Int32).toUInt32 &&& Int32.toUInt32 31)).toInt32 &&& (1431655765 : Int32))) &&& (858993459 : Int32)) + (((a0 - ((a0.toUInt32 >>> ((1 : Int32).toUInt32 &&& Int32.toUInt32 31)).toInt32 &&& (1431655765 : Int32))).toUInt32 >>> ((2 : Int32).toUInt32 &&& Int32.toUInt32 31)).toInt32 &&& (858993459 : Int32))) + ((((a0 - ((a0.toUInt32 >>> ((1 : Int32).toUInt32 &&& Int32.toUInt32 31)).toInt32 &&& (1431655765 : Int32))) &&& (858993459 : Int32)) + (((a0 - ((a0.toUInt32 >>> ((1 : Int32).toUInt32 &&& Int32.toUInt32 31)).toInt32 &&& (1431655765 : Int32))).toUInt32 >>> ((2 : Int32).toUInt32 &&& Int32.toUInt32 31)).toInt32 &&& (858993459 : Int32))).toUInt32 >>> ((4 : Int32).toUInt32 &&& Int32.toUInt32 31)).toInt32) &&& (252645135 : Int32)) + ((((((a0 - ((a0.toUInt32 >>> ((1 : Int32).toUInt32 &&& Int32.toUInt32 31)).toInt32 &&& (1431655765 : Int32))) &&& (858993459 : Int32)) + (((a0 - ((a0.toUInt32 >>> ((1 : Int32).toUInt32 &&& Int32.toUInt32 31)).toInt32 &&& (1431655765 : Int32))).toUInt32 >>> ((2 : Int32).toUInt32 &&& Int32.toUInt32 31)).toInt32 &&& (858993459 : Int32))) + ((((a0 - ((a0.toUInt32 >>> ((1 : Int32).toUInt32 &&& Int32.toUInt32 31)).toInt32 &&& (1431655765 : Int32))) &&& (858993459 : Int32)) + (((a0 - ((a0.toUInt32 >>> ((1 : Int32).toUInt32 &&& Int32.toUInt32 31)).toInt32 &&& (1431655765 : Int32))).toUInt32 >>> ((2 : Int32).toUInt32 &&& Int32.toUInt32 31)).toInt32 &&& (858993459 : Int32))).toUInt32 >>> ((4 : Int32).toUInt32 &&& Int32.toUInt32 31)).toInt32) &&& (252645135 : Int32)).toUInt32 >>> ((8 : Int32).toUInt32 &&& Int32.toUInt32 31)).toInt32) + (((((((a0 - ((a0.toUInt32 >>> ((1 : Int32).toUInt32 &&& Int32.toUInt32 31)).toInt32 &&& (1431655765 : Int32))) &&& (858993459 : Int32)) + (((a0 - ((a0.toUInt32 >>> ((1 : Int32).toUInt32 &&& Int32.toUInt32 31)).toInt32 &&& (1431655765 : Int32))).toUInt32 >>> ((2 : Int32).toUInt32 &&& Int32.toUInt32 31)).toInt32 &&& (858993459 : Int32))) + ((((a0 - ((a0.toUInt32 >>> ((1 : Int32).toUInt32 &&& Int32.toUInt32 31)).toInt32 &&& (1431655765 : Int32))) &&& (858993459 : Int32)) + (((a0 - ((a0.toUInt32 >>> ((1 : Int32).toUInt32 &&& Int32.toUInt32 31)).toInt32 &&& (1431655765 : Int32))).toUInt32 >>> ((2 : Int32).toUInt32 &&& Int32.toUInt32 31)).toInt32 &&& (858993459 : Int32))).toUInt32 >>> ((4 : Int32).toUInt32 &&& Int32.toUInt32 31)).toInt32) &&& (252645135 : Int32)) + ((((((a0 - ((a0.toUInt32 >>> ((1 : Int32).toUInt32 &&& Int32.toUInt32 31)).toInt32 &&& (1431655765 : Int32))) &&& (858993459 : Int32)) + (((a0 - ((a0.toUInt32 >>> ((1 : Int32).toUInt32 &&& Int32.toUInt32 31)).toInt32 &&& (1431655765 : Int32))).toUInt32 >>> ((2 : Int32).toUInt32 &&& Int32.toUInt32 31)).toInt32 &&& (858993459 : Int32))) + ((((a0 - ((a0.toUInt32 >>> ((1 : Int32).toUInt32 &&& Int32.toUInt32 31)).toInt32 &&& (1431655765 : Int32))) &&& (858993459 : Int32)) + (((a0 - ((a0.toUInt32 >>> ((1 : Int32).toUInt32 &&& Int32.toUInt32 31)).toInt32 &&& (1431655765 : Int32))).toUInt32 >>> ((2 : Int32).toUInt32 &&& Int32.toUInt32 31)).toInt32 &&& (858993459 : Int32))).toUInt32 >>> ((4 : Int32).toUInt32 &&& Int32.toUInt32 31)).toInt32) &&& (252645135 : Int32)).toUInt32 >>> ((8 : Int32).toUInt32 &&& Int32.toUInt32 31)).toInt32).toUInt32 >>> ((16 : Int32).toUInt32 &&& Int32.toUInt32 31)).toInt32))]) hx hb dJ6_bitCount_0f7a4_47 rfl hl (by decide) rfl (fun ls hl => ?_)
  refine lv_iload_n hx hb dJ6_bitCount_0f7a4_48 rfl (lv_at hl 0 rfl) ?_
  refine lv_bipush (v := (63 : Int32)) hx hb dJ6_bitCount_0f7a4_49 (by decide) ?_
  refine lv_iand hx hb dJ6_bitCount_0f7a4_51 ?_
  obtain rfl := Option.some.inj h
  exact hRet hP hD hS dJ6_bitCount_0f7a4_52
abbrev rm_X4_become : Room := { frames := 1, cells := 0, slots := 0, locals := 64 }
theorem hd_X4_become : yX4_become.cls = RX4 ∧ yX4_become.cls ≠ "java/lang/invoke/MethodHandle" ∧ yX4_become.cls ≠ "java/lang/invoke/VarHandle" ∧ (parseMethodDescriptor yX4_become.desc).map (fun d => d.parameters.length) = some 1 := by decide +kernel
set_option maxHeartbeats 4000000 in
set_option maxRecDepth 100000 in
theorem c_X4_become {l : Launch} {G : va_G} {ca : Nat → ClassId} {ev : Nat → Nat} {r0 r1 o0 o1 : Nat} {limit : Int32} {width : Int32} {size : Int32} {cells : (Nat → Int32)} {nc : Nat} {olimit : Int32} {owidth : Int32} {osize : Int32} {ocells : (Nat → Int32)} {onc : Nat}  {res : Int32 × (Nat → Int32)} (h : f_X4_become limit size cells nc osize ocells onc = some res) : CtV l yX4_become wsX4_become rm_X4_become G ca ev [.ref r0, .ref o0] (wRR ca ev r0 r1 o0 o1 limit width size cells nc olimit owidth osize ocells onc) (wRR ca ev r0 r1 o0 o1 limit width res.1 res.2 nc olimit owidth osize ocells onc) := by
  unfold f_X4_become at h
  refine en_v (by decide) rfl (Nat.le_of_ble_eq_true rfl) ?_
  intro p e s m args below meth c A Q H locs ls hx hb hml hown hts hA hP hK hD hE hS hl hRet
  have hown : s.vm.findClass RX4 = some m.cls := hown
  have hl : lv_has ls 2 [(0, .ref r0), (1, .ref o0)] := hl
  have hin_X4 : ∀ w ∈ u_ws RX4 TX4 4, w ∈ wsX4_become := fun w h9 => List.mem_cons_of_mem _ (List.mem_append_right _ h9)
  have fk_15 := hts (.fieldLink RX4 15 "MaskBows$Rows" "limit" "I") (by decide +kernel)
  have fk_27 := hts (.fieldLink RX4 27 "MaskBows$Rows" "cells" "[I") (by decide +kernel)
  have fk_9 := hts (.fieldLink RX4 9 "MaskBows$Rows" "size" "I") (by decide +kernel)
  refine lv_aload_n hx hb dX4_become_0 rfl (lv_at hl 0 rfl) ?_
  refine lv_aload_n hx hb dX4_become_1 rfl (lv_at hl 1 rfl) ?_
  refine va_get (D := G) (ci := 4) (v := .int osize) (C := RX4) (T := TX4) (N := 4) hx hb hts hin_X4 hown hK hP 2 rfl rfl 3 (by decide) fk_9 (fun _ h9 => h9) rfl dX4_become_2 ?_
  refine lv_aload_n hx hb dX4_become_5 rfl (lv_at hl 0 rfl) ?_
  refine va_get (D := G) (ci := 4) (v := .int limit) (C := RX4) (T := TX4) (N := 4) hx hb hts hin_X4 hown hK hP 0 rfl rfl 0 (by decide) fk_15 (fun _ h9 => h9) rfl dX4_become_6 ?_
  refine va_mmin hx hb (hml.trans hl.1.symm) hown (hts (.methodLink RX4 39 Lib.Math.min.name) (by decide +kernel)) (hts (.static Lib.Math.min.name) (by decide +kernel)) (hts (.initialized "java/lang/Math") (by decide +kernel)) (hts (.code Lib.Math.min.name Lib.Math.min.code 2 (some .int)) (by decide +kernel)) (Nat.le_of_ble_eq_true rfl) (Nat.le_of_ble_eq_true rfl) (Nat.zero_le _) (Nat.zero_le _) dX4_become_9 ?_
  refine va_put (D := G) (ci := 4) (v := .int (if limit < osize then limit else osize)) (ty := .int) (C := RX4) (T := TX4) (N := 4) hx hb hts hin_X4 tyX4 tyX4_ok nmX4 hown hK hP hD hS 0 rfl rfl 3 (by decide) fk_9 (fun _ h9 => h9) rfl (tyX4_ok 3 (by decide)) rfl rfl (Nat.le_of_ble_eq_true rfl) dX4_become_12 (fun H locs hP hD hS => ?_)
  have hP : va_P G vwCl (wRR ca ev r0 r1 o0 o1 limit width (if limit < osize then limit else osize) cells nc olimit owidth osize ocells onc) H := hP
  have hD : va_D A (wRR ca ev r0 r1 o0 o1 limit width (if limit < osize then limit else osize) cells nc olimit owidth osize ocells onc) := hD
  refine lv_aload_n hx hb dX4_become_15 rfl (lv_at hl 1 rfl) ?_
  refine va_get (D := G) (ci := 4) (v := .ref o1) (C := RX4) (T := TX4) (N := 4) hx hb hts hin_X4 hown hK hP 2 rfl rfl 2 (by decide) fk_27 (fun _ h9 => h9) rfl dX4_become_16 ?_
  refine lv_iconst (v := (0 : Int32)) hx hb dX4_become_19 (by decide) ?_
  refine lv_aload_n hx hb dX4_become_20 rfl (lv_at hl 0 rfl) ?_
  refine va_get (D := G) (ci := 4) (v := .ref r1) (C := RX4) (T := TX4) (N := 4) hx hb hts hin_X4 hown hK hP 0 rfl rfl 2 (by decide) fk_27 (fun _ h9 => h9) rfl dX4_become_21 ?_
  refine lv_iconst (v := (0 : Int32)) hx hb dX4_become_24 (by decide) ?_
  refine lv_aload_n hx hb dX4_become_25 rfl (lv_at hl 0 rfl) ?_
  refine va_get (D := G) (ci := 4) (v := .ref r1) (C := RX4) (T := TX4) (N := 4) hx hb hts hin_X4 hown hK hP 0 rfl rfl 2 (by decide) fk_27 (fun _ h9 => h9) rfl dX4_become_26 ?_
  refine va_alen (v := (Int32.ofNat nc)) hx hb hK hP 1 0 rfl rfl rfl dX4_become_29 ?_
  refine lv_aload_n hx hb dX4_become_30 rfl (lv_at hl 1 rfl) ?_
  refine va_get (D := G) (ci := 4) (v := .ref o1) (C := RX4) (T := TX4) (N := 4) hx hb hts hin_X4 hown hK hP 2 rfl rfl 2 (by decide) fk_27 (fun _ h9 => h9) rfl dX4_become_31 ?_
  refine va_alen (v := (Int32.ofNat onc)) hx hb hK hP 3 0 rfl rfl rfl dX4_become_34 ?_
  refine va_mmin hx hb (hml.trans hl.1.symm) hown (hts (.methodLink RX4 39 Lib.Math.min.name) (by decide +kernel)) (hts (.static Lib.Math.min.name) (by decide +kernel)) (hts (.initialized "java/lang/Math") (by decide +kernel)) (hts (.code Lib.Math.min.name Lib.Math.min.code 2 (some .int)) (by decide +kernel)) (Nat.le_of_ble_eq_true rfl) (Nat.le_of_ble_eq_true rfl) (Nat.zero_le _) (Nat.zero_le _) dX4_become_35 ?_
  obtain ⟨g_1, h⟩ := gd_some h
  obtain ⟨g1_1, g2_1, g3_1, g4_1, g5_1⟩ := cpg_in g_1
  refine va_copyi (rest := []) hx hb (hml.trans hl.1.symm) hown (hts (.methodLink RX4 42 arraycopyName) (by decide +kernel)) (hts (.native arraycopyName) (by decide +kernel)) (hts (.static arraycopyName) (by decide +kernel)) (hts (.initialized "java/lang/System") (by decide +kernel)) hK hP hD hS 3 1 0 0 rfl rfl rfl rfl rfl g1_1 g2_1 g3_1 g4_1 g5_1 (fun _ _ => rfl) (Nat.le_of_ble_eq_true rfl) (Nat.le_of_ble_eq_true rfl) dX4_become_38 (fun H locs hP hD hS => ?_)
  have hP : va_P G vwCl (wRR ca ev r0 r1 o0 o1 limit width (if limit < osize then limit else osize) (va_cpy ocells cells (0 : Int32).toNatClampNeg (0 : Int32).toNatClampNeg (if (Int32.ofNat onc) < (Int32.ofNat nc) then (Int32.ofNat onc) else (Int32.ofNat nc)).toNatClampNeg) nc olimit owidth osize ocells onc) H := hP
  have hD : va_D A (wRR ca ev r0 r1 o0 o1 limit width (if limit < osize then limit else osize) (va_cpy ocells cells (0 : Int32).toNatClampNeg (0 : Int32).toNatClampNeg (if (Int32.ofNat onc) < (Int32.ofNat nc) then (Int32.ofNat onc) else (Int32.ofNat nc)).toNatClampNeg) nc olimit owidth osize ocells onc) := hD
  obtain rfl := Option.some.inj h
  exact hRet hP hD hS dX4_become_41
abbrev rm_X0_become : Room := { frames := 2, cells := 0, slots := 0, locals := 85 }
theorem hd_X0_become : yX0_become.cls = RX0 ∧ yX0_become.cls ≠ "java/lang/invoke/MethodHandle" ∧ yX0_become.cls ≠ "java/lang/invoke/VarHandle" ∧ (parseMethodDescriptor yX0_become.desc).map (fun d => d.parameters.length) = some 1 := by decide +kernel
set_option maxHeartbeats 4000000 in
set_option maxRecDepth 100000 in
theorem c_X0_become {l : Launch} {G : va_G} {ca : Nat → ClassId} {ev : Nat → Nat} {c0 c1 c2 c3 c4 c5 c6 o0 o1 o2 o3 o4 o5 o6 : Nat} {bsize : Int32} {bcells : (Nat → Int32)} {ssize : Int32} {scells : (Nat → Int32)} {dsize : Int32} {dcells : (Nat → Int32)} {people : Int32} {rule : Int32} {believed : Int32} {o_bsize : Int32} {o_bcells : (Nat → Int32)} {o_ssize : Int32} {o_scells : (Nat → Int32)} {o_dsize : Int32} {o_dcells : (Nat → Int32)} {o_people : Int32} {o_rule : Int32} {o_believed : Int32}  {res : Int32 × (Nat → Int32) × Int32 × (Nat → Int32) × Int32 × (Nat → Int32) × Int32 × Int32 × Int32} (h : f_X0_become bsize bcells ssize scells dsize dcells people rule believed o_bsize o_bcells o_ssize o_scells o_dsize o_dcells o_people o_rule o_believed = some res) : CtV l yX0_become wsX0_become rm_X0_become G ca ev [.ref c0, .ref o0] (wCC ca ev c0 c1 c2 c3 c4 c5 c6 o0 o1 o2 o3 o4 o5 o6 bsize bcells ssize scells dsize dcells people rule believed o_bsize o_bcells o_ssize o_scells o_dsize o_dcells o_people o_rule o_believed) (wCC ca ev c0 c1 c2 c3 c4 c5 c6 o0 o1 o2 o3 o4 o5 o6 res.1 res.2.1 res.2.2.1 res.2.2.2.1 res.2.2.2.2.1 res.2.2.2.2.2.1 res.2.2.2.2.2.2.1 res.2.2.2.2.2.2.2.1 res.2.2.2.2.2.2.2.2 o_bsize o_bcells o_ssize o_scells o_dsize o_dcells o_people o_rule o_believed) := by
  unfold f_X0_become at h
  refine en_v (by decide) rfl (Nat.le_of_ble_eq_true rfl) ?_
  intro p e s m args below meth c A Q H locs ls hx hb hml hown hts hA hP hK hD hE hS hl hRet
  have hown : s.vm.findClass RX0 = some m.cls := hown
  have hl : lv_has ls 2 [(0, .ref c0), (1, .ref o0)] := hl
  have hin_X0 : ∀ w ∈ u_ws RX0 TX0 6, w ∈ wsX0_become := fun w h9 => List.mem_cons_of_mem _ (List.mem_append_left _ (List.mem_append_right _ h9))
  have fk_14 := hts (.fieldLink RX0 14 "MaskBows$Carnival" "bows" "LMaskBows$Rows;") (by decide +kernel)
  have fk_20 := hts (.fieldLink RX0 20 "MaskBows$Carnival" "sayings" "LMaskBows$Rows;") (by decide +kernel)
  have fk_23 := hts (.fieldLink RX0 23 "MaskBows$Carnival" "deeds" "LMaskBows$Rows;") (by decide +kernel)
  have fk_26 := hts (.fieldLink RX0 26 "MaskBows$Carnival" "people" "I") (by decide +kernel)
  have fk_30 := hts (.fieldLink RX0 30 "MaskBows$Carnival" "rule" "Z") (by decide +kernel)
  have fk_34 := hts (.fieldLink RX0 34 "MaskBows$Carnival" "believed" "Z") (by decide +kernel)
  refine lv_aload_n hx hb dX0_become_0 rfl (lv_at hl 0 rfl) ?_
  refine va_get (D := G) (ci := 0) (v := .ref c1) (C := RX0) (T := TX0) (N := 6) hx hb hts hin_X0 hown hK hP 0 rfl rfl 0 (by decide) fk_14 (fun _ h9 => h9) rfl dX0_become_1 ?_
  refine lv_aload_n hx hb dX0_become_4 rfl (lv_at hl 1 rfl) ?_
  refine va_get (D := G) (ci := 0) (v := .ref o1) (C := RX0) (T := TX0) (N := 6) hx hb hts hin_X0 hown hK hP 7 rfl rfl 0 (by decide) fk_14 (fun _ h9 => h9) rfl dX0_become_5 ?_
  obtain ⟨u_1, e_1, h⟩ := bd_some h
  refine cl_Vv (As := [.ref o1]) (rest := []) (Wn := (wCC ca ev c0 c1 c2 c3 c4 c5 c6 o0 o1 o2 o3 o4 o5 o6 u_1.1 u_1.2 ssize scells dsize dcells people rule believed o_bsize o_bcells o_ssize o_scells o_dsize o_dcells o_people o_rule o_believed)) ⟨hx, hb, hml, hown, hts⟩ (c_X4_become (ca := ca) (ev := ev) (r0 := c1) (r1 := c2) (o0 := o1) (o1 := o2) (limit := (20 : Int32)) (width := (4 : Int32)) (size := bsize) (cells := bcells) (nc := 80) (olimit := (20 : Int32)) (owidth := (4 : Int32)) (osize := o_bsize) (ocells := o_bcells) (onc := 80) e_1) (cwV 1 hts gX0_become_X4_become rfl rfl rfl hd_X4_become ⟨Nat.le_of_ble_eq_true rfl, Nat.le_of_ble_eq_true rfl⟩) hK hP hD hS hA hE wp_2 (q0 := 0) (ci := 4) rfl rfl rfl rfl hl.1 rfl (Nat.le_of_ble_eq_true rfl) dX0_become_8 ⟨Nat.zero_le _, Nat.zero_le _⟩ (fun H locs hP hD hS => ?_)
  refine lv_aload_n hx hb dX0_become_11 rfl (lv_at hl 0 rfl) ?_
  refine va_get (D := G) (ci := 0) (v := .ref c3) (C := RX0) (T := TX0) (N := 6) hx hb hts hin_X0 hown hK hP 0 rfl rfl 1 (by decide) fk_20 (fun _ h9 => h9) rfl dX0_become_12 ?_
  refine lv_aload_n hx hb dX0_become_15 rfl (lv_at hl 1 rfl) ?_
  refine va_get (D := G) (ci := 0) (v := .ref o3) (C := RX0) (T := TX0) (N := 6) hx hb hts hin_X0 hown hK hP 7 rfl rfl 1 (by decide) fk_20 (fun _ h9 => h9) rfl dX0_become_16 ?_
  obtain ⟨u_2, e_2, h⟩ := bd_some h
  refine cl_Vv (As := [.ref o3]) (rest := []) (Wn := (wCC ca ev c0 c1 c2 c3 c4 c5 c6 o0 o1 o2 o3 o4 o5 o6 u_1.1 u_1.2 u_2.1 u_2.2 dsize dcells people rule believed o_bsize o_bcells o_ssize o_scells o_dsize o_dcells o_people o_rule o_believed)) ⟨hx, hb, hml, hown, hts⟩ (c_X4_become (ca := ca) (ev := ev) (r0 := c3) (r1 := c4) (o0 := o3) (o1 := o4) (limit := (10 : Int32)) (width := (4 : Int32)) (size := ssize) (cells := scells) (nc := 40) (olimit := (10 : Int32)) (owidth := (4 : Int32)) (osize := o_ssize) (ocells := o_scells) (onc := 40) e_2) (cwV 1 hts gX0_become_X4_become rfl rfl rfl hd_X4_become ⟨Nat.le_of_ble_eq_true rfl, Nat.le_of_ble_eq_true rfl⟩) hK hP hD hS hA hE wp_3 (q0 := 0) (ci := 4) rfl rfl rfl rfl hl.1 rfl (Nat.le_of_ble_eq_true rfl) dX0_become_19 ⟨Nat.zero_le _, Nat.zero_le _⟩ (fun H locs hP hD hS => ?_)
  refine lv_aload_n hx hb dX0_become_22 rfl (lv_at hl 0 rfl) ?_
  refine va_get (D := G) (ci := 0) (v := .ref c5) (C := RX0) (T := TX0) (N := 6) hx hb hts hin_X0 hown hK hP 0 rfl rfl 2 (by decide) fk_23 (fun _ h9 => h9) rfl dX0_become_23 ?_
  refine lv_aload_n hx hb dX0_become_26 rfl (lv_at hl 1 rfl) ?_
  refine va_get (D := G) (ci := 0) (v := .ref o5) (C := RX0) (T := TX0) (N := 6) hx hb hts hin_X0 hown hK hP 7 rfl rfl 2 (by decide) fk_23 (fun _ h9 => h9) rfl dX0_become_27 ?_
  obtain ⟨u_3, e_3, h⟩ := bd_some h
  refine cl_Vv (As := [.ref o5]) (rest := []) (Wn := (wCC ca ev c0 c1 c2 c3 c4 c5 c6 o0 o1 o2 o3 o4 o5 o6 u_1.1 u_1.2 u_2.1 u_2.2 u_3.1 u_3.2 people rule believed o_bsize o_bcells o_ssize o_scells o_dsize o_dcells o_people o_rule o_believed)) ⟨hx, hb, hml, hown, hts⟩ (c_X4_become (ca := ca) (ev := ev) (r0 := c5) (r1 := c6) (o0 := o5) (o1 := o6) (limit := (12 : Int32)) (width := (5 : Int32)) (size := dsize) (cells := dcells) (nc := 60) (olimit := (12 : Int32)) (owidth := (5 : Int32)) (osize := o_dsize) (ocells := o_dcells) (onc := 60) e_3) (cwV 1 hts gX0_become_X4_become rfl rfl rfl hd_X4_become ⟨Nat.le_of_ble_eq_true rfl, Nat.le_of_ble_eq_true rfl⟩) hK hP hD hS hA hE wp_4 (q0 := 0) (ci := 4) rfl rfl rfl rfl hl.1 rfl (Nat.le_of_ble_eq_true rfl) dX0_become_30 ⟨Nat.zero_le _, Nat.zero_le _⟩ (fun H locs hP hD hS => ?_)
  refine lv_aload_n hx hb dX0_become_33 rfl (lv_at hl 0 rfl) ?_
  refine lv_aload_n hx hb dX0_become_34 rfl (lv_at hl 1 rfl) ?_
  refine va_get (D := G) (ci := 0) (v := .int o_people) (C := RX0) (T := TX0) (N := 6) hx hb hts hin_X0 hown hK hP 7 rfl rfl 3 (by decide) fk_26 (fun _ h9 => h9) rfl dX0_become_35 ?_
  refine va_put (D := G) (ci := 0) (v := .int o_people) (ty := .int) (C := RX0) (T := TX0) (N := 6) hx hb hts hin_X0 tyX0 tyX0_ok nmX0 hown hK hP hD hS 0 rfl rfl 3 (by decide) fk_26 (fun _ h9 => h9) rfl (tyX0_ok 3 (by decide)) rfl rfl (Nat.le_of_ble_eq_true rfl) dX0_become_38 (fun H locs hP hD hS => ?_)
  have hP : va_P G vwCl (wCC ca ev c0 c1 c2 c3 c4 c5 c6 o0 o1 o2 o3 o4 o5 o6 u_1.1 u_1.2 u_2.1 u_2.2 u_3.1 u_3.2 o_people rule believed o_bsize o_bcells o_ssize o_scells o_dsize o_dcells o_people o_rule o_believed) H := hP
  have hD : va_D A (wCC ca ev c0 c1 c2 c3 c4 c5 c6 o0 o1 o2 o3 o4 o5 o6 u_1.1 u_1.2 u_2.1 u_2.2 u_3.1 u_3.2 o_people rule believed o_bsize o_bcells o_ssize o_scells o_dsize o_dcells o_people o_rule o_believed) := hD
  refine lv_aload_n hx hb dX0_become_41 rfl (lv_at hl 0 rfl) ?_
  refine lv_aload_n hx hb dX0_become_42 rfl (lv_at hl 1 rfl) ?_
  refine va_get (D := G) (ci := 0) (v := .int o_rule) (C := RX0) (T := TX0) (N := 6) hx hb hts hin_X0 hown hK hP 7 rfl rfl 4 (by decide) fk_30 (fun _ h9 => h9) rfl dX0_become_43 ?_
  obtain ⟨z_4, h⟩ := gd_some h
  refine va_put (D := G) (ci := 0) (v := .int o_rule) (ty := .boolean) (C := RX0) (T := TX0) (N := 6) hx hb hts hin_X0 tyX0 tyX0_ok nmX0 hown hK hP hD hS 0 rfl rfl 4 (by decide) fk_30 (fun _ h9 => h9) rfl (tyX0_ok 4 (by decide)) (zb_nar (isb_or z_4)) (zb_fit (isb_or z_4)) (Nat.le_of_ble_eq_true rfl) dX0_become_46 (fun H locs hP hD hS => ?_)
  have hP : va_P G vwCl (wCC ca ev c0 c1 c2 c3 c4 c5 c6 o0 o1 o2 o3 o4 o5 o6 u_1.1 u_1.2 u_2.1 u_2.2 u_3.1 u_3.2 o_people o_rule believed o_bsize o_bcells o_ssize o_scells o_dsize o_dcells o_people o_rule o_believed) H := hP
  have hD : va_D A (wCC ca ev c0 c1 c2 c3 c4 c5 c6 o0 o1 o2 o3 o4 o5 o6 u_1.1 u_1.2 u_2.1 u_2.2 u_3.1 u_3.2 o_people o_rule believed o_bsize o_bcells o_ssize o_scells o_dsize o_dcells o_people o_rule o_believed) := hD
  refine lv_aload_n hx hb dX0_become_49 rfl (lv_at hl 0 rfl) ?_
  refine lv_aload_n hx hb dX0_become_50 rfl (lv_at hl 1 rfl) ?_
  refine va_get (D := G) (ci := 0) (v := .int o_believed) (C := RX0) (T := TX0) (N := 6) hx hb hts hin_X0 hown hK hP 7 rfl rfl 5 (by decide) fk_34 (fun _ h9 => h9) rfl dX0_become_51 ?_
  obtain ⟨z_5, h⟩ := gd_some h
  refine va_put (D := G) (ci := 0) (v := .int o_believed) (ty := .boolean) (C := RX0) (T := TX0) (N := 6) hx hb hts hin_X0 tyX0 tyX0_ok nmX0 hown hK hP hD hS 0 rfl rfl 5 (by decide) fk_34 (fun _ h9 => h9) rfl (tyX0_ok 5 (by decide)) (zb_nar (isb_or z_5)) (zb_fit (isb_or z_5)) (Nat.le_of_ble_eq_true rfl) dX0_become_54 (fun H locs hP hD hS => ?_)
  have hP : va_P G vwCl (wCC ca ev c0 c1 c2 c3 c4 c5 c6 o0 o1 o2 o3 o4 o5 o6 u_1.1 u_1.2 u_2.1 u_2.2 u_3.1 u_3.2 o_people o_rule o_believed o_bsize o_bcells o_ssize o_scells o_dsize o_dcells o_people o_rule o_believed) H := hP
  have hD : va_D A (wCC ca ev c0 c1 c2 c3 c4 c5 c6 o0 o1 o2 o3 o4 o5 o6 u_1.1 u_1.2 u_2.1 u_2.2 u_3.1 u_3.2 o_people o_rule o_believed o_bsize o_bcells o_ssize o_scells o_dsize o_dcells o_people o_rule o_believed) := hD
  obtain rfl := Option.some.inj h
  exact hRet hP hD hS dX0_become_57
abbrev rm_X4_size : Room := { frames := 0, cells := 0, slots := 0, locals := 0 }
theorem hd_X4_size : yX4_size.cls = RX4 ∧ yX4_size.cls ≠ "java/lang/invoke/MethodHandle" ∧ yX4_size.cls ≠ "java/lang/invoke/VarHandle" ∧ (parseMethodDescriptor yX4_size.desc).map (fun d => d.parameters.length) = some 0 := by decide +kernel
set_option maxHeartbeats 4000000 in
set_option maxRecDepth 100000 in
theorem c_X4_size {l : Launch} {G : va_G} {ca : Nat → ClassId} {ev : Nat → Nat} {r0 r1 : Nat} {limit : Int32} {width : Int32} {size : Int32} {cells : (Nat → Int32)} {nc : Nat}  {res : Int32} (h : f_X4_size size = some res) : CtI l yX4_size wsX4_size rm_X4_size G ca ev [.ref r0] (wR ca ev r0 r1 limit width size cells nc) (wR ca ev r0 r1 limit width size cells nc) res := by
  unfold f_X4_size at h
  refine en_i (by decide) rfl (Nat.le_of_ble_eq_true rfl) ?_
  intro p e s m args below meth c A Q H locs ls hx hb hml hown hts hA hP hK hD hE hS hl hRet
  have hown : s.vm.findClass RX4 = some m.cls := hown
  have hl : lv_has ls 1 [(0, .ref r0)] := hl
  have hin_X4 : ∀ w ∈ u_ws RX4 TX4 4, w ∈ wsX4_size := fun w h9 => List.mem_cons_of_mem _ (List.mem_append_right _ h9)
  have fk_9 := hts (.fieldLink RX4 9 "MaskBows$Rows" "size" "I") (by decide +kernel)
  refine lv_aload_n hx hb dX4_size_0 rfl (lv_at hl 0 rfl) ?_
  refine va_get (D := G) (ci := 4) (v := .int size) (C := RX4) (T := TX4) (N := 4) hx hb hts hin_X4 hown hK hP 0 rfl rfl 3 (by decide) fk_9 (fun _ h9 => h9) rfl dX4_size_1 ?_
  obtain rfl := Option.some.inj h
  exact hRet hP hD hS dX4_size_4
abbrev rm_X0_isEmpty : Room := { frames := 1, cells := 0, slots := 0, locals := 20 }
theorem hd_X0_isEmpty : yX0_isEmpty.cls = RX0 ∧ yX0_isEmpty.cls ≠ "java/lang/invoke/MethodHandle" ∧ yX0_isEmpty.cls ≠ "java/lang/invoke/VarHandle" ∧ (parseMethodDescriptor yX0_isEmpty.desc).map (fun d => d.parameters.length) = some 0 := by decide +kernel
set_option maxHeartbeats 4000000 in
set_option maxRecDepth 100000 in
theorem c_X0_isEmpty {l : Launch} {G : va_G} {ca : Nat → ClassId} {ev : Nat → Nat} {c0 c1 c2 c3 c4 c5 c6 : Nat} {bsize : Int32} {bcells : (Nat → Int32)} {ssize : Int32} {scells : (Nat → Int32)} {dsize : Int32} {dcells : (Nat → Int32)} {people : Int32} {rule : Int32} {believed : Int32}  {res : Int32} (h : f_X0_isEmpty bsize ssize dsize = some res) : CtI l yX0_isEmpty wsX0_isEmpty rm_X0_isEmpty G ca ev [.ref c0] (wC ca ev c0 c1 c2 c3 c4 c5 c6 bsize bcells ssize scells dsize dcells people rule believed) (wC ca ev c0 c1 c2 c3 c4 c5 c6 bsize bcells ssize scells dsize dcells people rule believed) res := by
  unfold f_X0_isEmpty at h
  refine en_z (by decide) rfl (Nat.le_of_ble_eq_true rfl) ?_
  intro p e s m args below meth c A Q H locs ls hx hb hml hown hts hA hP hK hD hE hS hl hRet
  have hown : s.vm.findClass RX0 = some m.cls := hown
  have hl : lv_has ls 1 [(0, .ref c0)] := hl
  have hin_X0 : ∀ w ∈ u_ws RX0 TX0 6, w ∈ wsX0_isEmpty := fun w h9 => List.mem_cons_of_mem _ (List.mem_append_left _ (List.mem_append_right _ h9))
  have fk_14 := hts (.fieldLink RX0 14 "MaskBows$Carnival" "bows" "LMaskBows$Rows;") (by decide +kernel)
  have fk_20 := hts (.fieldLink RX0 20 "MaskBows$Carnival" "sayings" "LMaskBows$Rows;") (by decide +kernel)
  have fk_23 := hts (.fieldLink RX0 23 "MaskBows$Carnival" "deeds" "LMaskBows$Rows;") (by decide +kernel)
  refine lv_aload_n hx hb dX0_isEmpty_0 rfl (lv_at hl 0 rfl) ?_
  refine va_get (D := G) (ci := 0) (v := .ref c1) (C := RX0) (T := TX0) (N := 6) hx hb hts hin_X0 hown hK hP 0 rfl rfl 0 (by decide) fk_14 (fun _ h9 => h9) rfl dX0_isEmpty_1 ?_
  obtain ⟨u_1, e_1, h⟩ := bd_some h
  refine cl_Vi (As := []) (rest := []) (Wn := (wC ca ev c0 c1 c2 c3 c4 c5 c6 bsize bcells ssize scells dsize dcells people rule believed)) ⟨hx, hb, hml, hown, hts⟩ (c_X4_size (ca := ca) (ev := ev) (r0 := c1) (r1 := c2) (limit := (20 : Int32)) (width := (4 : Int32)) (size := bsize) (cells := bcells) (nc := 80) e_1) (cwV 0 hts gX0_isEmpty_X4_size rfl rfl rfl hd_X4_size ⟨Nat.le_of_ble_eq_true rfl, Nat.le_of_ble_eq_true rfl⟩) hK hP hD hS hA hE wp_5 (q0 := 0) (ci := 4) rfl rfl rfl rfl hl.1 rfl (Nat.le_of_ble_eq_true rfl) dX0_isEmpty_4 ⟨Nat.zero_le _, Nat.zero_le _⟩ (fun H locs hP hD hS => ?_)
  refine lv_if_ne (tgt := 34) hx hb dX0_isEmpty_7 (by decide) (fun c_2 => ?_) (fun c_2 => ?_)
  · have h := ifn c_2 h
    refine lv_iconst (v := (0 : Int32)) hx hb dX0_isEmpty_34 (by decide) ?_
    obtain rfl := Option.some.inj h
    exact hRet hP hD hS zb_0 dX0_isEmpty_35
  · have h := ifp c_2 h
    refine lv_aload_n hx hb dX0_isEmpty_10 rfl (lv_at hl 0 rfl) ?_
    refine va_get (D := G) (ci := 0) (v := .ref c3) (C := RX0) (T := TX0) (N := 6) hx hb hts hin_X0 hown hK hP 0 rfl rfl 1 (by decide) fk_20 (fun _ h9 => h9) rfl dX0_isEmpty_11 ?_
    obtain ⟨u_3, e_3, h⟩ := bd_some h
    refine cl_Vi (As := []) (rest := []) (Wn := (wC ca ev c0 c1 c2 c3 c4 c5 c6 bsize bcells ssize scells dsize dcells people rule believed)) ⟨hx, hb, hml, hown, hts⟩ (c_X4_size (ca := ca) (ev := ev) (r0 := c3) (r1 := c4) (limit := (10 : Int32)) (width := (4 : Int32)) (size := ssize) (cells := scells) (nc := 40) e_3) (cwV 0 hts gX0_isEmpty_X4_size rfl rfl rfl hd_X4_size ⟨Nat.le_of_ble_eq_true rfl, Nat.le_of_ble_eq_true rfl⟩) hK hP hD hS hA hE wp_6 (q0 := 0) (ci := 4) rfl rfl rfl rfl hl.1 rfl (Nat.le_of_ble_eq_true rfl) dX0_isEmpty_14 ⟨Nat.zero_le _, Nat.zero_le _⟩ (fun H locs hP hD hS => ?_)
    refine lv_if_ne (tgt := 34) hx hb dX0_isEmpty_17 (by decide) (fun c_4 => ?_) (fun c_4 => ?_)
    · have h := ifn c_4 h
      refine lv_iconst (v := (0 : Int32)) hx hb dX0_isEmpty_34 (by decide) ?_
      obtain rfl := Option.some.inj h
      exact hRet hP hD hS zb_0 dX0_isEmpty_35
    · have h := ifp c_4 h
      refine lv_aload_n hx hb dX0_isEmpty_20 rfl (lv_at hl 0 rfl) ?_
      refine va_get (D := G) (ci := 0) (v := .ref c5) (C := RX0) (T := TX0) (N := 6) hx hb hts hin_X0 hown hK hP 0 rfl rfl 2 (by decide) fk_23 (fun _ h9 => h9) rfl dX0_isEmpty_21 ?_
      obtain ⟨u_5, e_5, h⟩ := bd_some h
      refine cl_Vi (As := []) (rest := []) (Wn := (wC ca ev c0 c1 c2 c3 c4 c5 c6 bsize bcells ssize scells dsize dcells people rule believed)) ⟨hx, hb, hml, hown, hts⟩ (c_X4_size (ca := ca) (ev := ev) (r0 := c5) (r1 := c6) (limit := (12 : Int32)) (width := (5 : Int32)) (size := dsize) (cells := dcells) (nc := 60) e_5) (cwV 0 hts gX0_isEmpty_X4_size rfl rfl rfl hd_X4_size ⟨Nat.le_of_ble_eq_true rfl, Nat.le_of_ble_eq_true rfl⟩) hK hP hD hS hA hE wp_7 (q0 := 0) (ci := 4) rfl rfl rfl rfl hl.1 rfl (Nat.le_of_ble_eq_true rfl) dX0_isEmpty_24 ⟨Nat.zero_le _, Nat.zero_le _⟩ (fun H locs hP hD hS => ?_)
      refine lv_if_ne (tgt := 34) hx hb dX0_isEmpty_27 (by decide) (fun c_6 => ?_) (fun c_6 => ?_)
      · have h := ifn c_6 h
        refine lv_iconst (v := (0 : Int32)) hx hb dX0_isEmpty_34 (by decide) ?_
        obtain rfl := Option.some.inj h
        exact hRet hP hD hS zb_0 dX0_isEmpty_35
      · have h := ifp c_6 h
        refine lv_iconst (v := (1 : Int32)) hx hb dX0_isEmpty_30 (by decide) ?_
        refine lv_goto (tgt := 35) hx hb dX0_isEmpty_31 (by decide) ?_
        obtain rfl := Option.some.inj h
        exact hRet hP hD hS zb_1 dX0_isEmpty_35
abbrev rm_X4_cell : Room := { frames := 0, cells := 0, slots := 0, locals := 0 }
theorem hd_X4_cell : yX4_cell.cls = RX4 ∧ yX4_cell.cls ≠ "java/lang/invoke/MethodHandle" ∧ yX4_cell.cls ≠ "java/lang/invoke/VarHandle" ∧ (parseMethodDescriptor yX4_cell.desc).map (fun d => d.parameters.length) = some 2 := by decide +kernel
set_option maxHeartbeats 4000000 in
set_option maxRecDepth 100000 in
theorem c_X4_cell {l : Launch} {G : va_G} {ca : Nat → ClassId} {ev : Nat → Nat} {r0 r1 : Nat} {limit : Int32} {width : Int32} {size : Int32} {cells : (Nat → Int32)} {nc : Nat} {a1 : Int32} {a2 : Int32} {res : Int32} (h : f_X4_cell width size cells nc a1 a2 = some res) : CtI l yX4_cell wsX4_cell rm_X4_cell G ca ev [.ref r0, .int a1, .int a2] (wR ca ev r0 r1 limit width size cells nc) (wR ca ev r0 r1 limit width size cells nc) res := by
  unfold f_X4_cell at h
  refine en_i (by decide) rfl (Nat.le_of_ble_eq_true rfl) ?_
  intro p e s m args below meth c A Q H locs ls hx hb hml hown hts hA hP hK hD hE hS hl hRet
  have hown : s.vm.findClass RX4 = some m.cls := hown
  have hl : lv_has ls 3 [(0, .ref r0), (1, .int a1), (2, .int a2)] := hl
  have hin_X4 : ∀ w ∈ u_ws RX4 TX4 4, w ∈ wsX4_cell := fun w h9 => List.mem_cons_of_mem _ (List.mem_append_right _ h9)
  have fk_18 := hts (.fieldLink RX4 18 "MaskBows$Rows" "width" "I") (by decide +kernel)
  have fk_27 := hts (.fieldLink RX4 27 "MaskBows$Rows" "cells" "[I") (by decide +kernel)
  have fk_9 := hts (.fieldLink RX4 9 "MaskBows$Rows" "size" "I") (by decide +kernel)
  refine lv_iload_n hx hb dX4_cell_0 rfl (lv_at hl 1 rfl) ?_
  refine lv_if_lt (tgt := 24) hx hb dX4_cell_1 (by decide) (fun c_1 => ?_) (fun c_1 => ?_)
  · have h := ifp c_1 h
    refine lv_iconst (v := (0 : Int32)) hx hb dX4_cell_24 (by decide) ?_
    obtain rfl := Option.some.inj h
    exact hRet hP hD hS dX4_cell_25
  · have h := ifn c_1 h
    refine lv_iload_n hx hb dX4_cell_4 rfl (lv_at hl 1 rfl) ?_
    refine lv_aload_n hx hb dX4_cell_5 rfl (lv_at hl 0 rfl) ?_
    refine va_get (D := G) (ci := 4) (v := .int size) (C := RX4) (T := TX4) (N := 4) hx hb hts hin_X4 hown hK hP 0 rfl rfl 3 (by decide) fk_9 (fun _ h9 => h9) rfl dX4_cell_6 ?_
    refine lv_icmp_ge (tgt := 24) hx hb dX4_cell_9 (by decide) (fun c_2 => ?_) (fun c_2 => ?_)
    · have h := ifp c_2 h
      refine lv_iconst (v := (0 : Int32)) hx hb dX4_cell_24 (by decide) ?_
      obtain rfl := Option.some.inj h
      exact hRet hP hD hS dX4_cell_25
    · have h := ifn c_2 h
      refine lv_iload_n hx hb dX4_cell_12 rfl (lv_at hl 2 rfl) ?_
      refine lv_if_lt (tgt := 24) hx hb dX4_cell_13 (by decide) (fun c_3 => ?_) (fun c_3 => ?_)
      · have h := ifp c_3 h
        refine lv_iconst (v := (0 : Int32)) hx hb dX4_cell_24 (by decide) ?_
        obtain rfl := Option.some.inj h
        exact hRet hP hD hS dX4_cell_25
      · have h := ifn c_3 h
        refine lv_iload_n hx hb dX4_cell_16 rfl (lv_at hl 2 rfl) ?_
        refine lv_aload_n hx hb dX4_cell_17 rfl (lv_at hl 0 rfl) ?_
        refine va_get (D := G) (ci := 4) (v := .int width) (C := RX4) (T := TX4) (N := 4) hx hb hts hin_X4 hown hK hP 0 rfl rfl 1 (by decide) fk_18 (fun _ h9 => h9) rfl dX4_cell_18 ?_
        refine lv_icmp_lt (tgt := 26) hx hb dX4_cell_21 (by decide) (fun c_4 => ?_) (fun c_4 => ?_)
        · have h := ifp c_4 h
          refine lv_aload_n hx hb dX4_cell_26 rfl (lv_at hl 0 rfl) ?_
          refine va_get (D := G) (ci := 4) (v := .ref r1) (C := RX4) (T := TX4) (N := 4) hx hb hts hin_X4 hown hK hP 0 rfl rfl 2 (by decide) fk_27 (fun _ h9 => h9) rfl dX4_cell_27 ?_
          refine lv_iload_n hx hb dX4_cell_30 rfl (lv_at hl 1 rfl) ?_
          refine lv_aload_n hx hb dX4_cell_31 rfl (lv_at hl 0 rfl) ?_
          refine va_get (D := G) (ci := 4) (v := .int width) (C := RX4) (T := TX4) (N := 4) hx hb hts hin_X4 hown hK hP 0 rfl rfl 1 (by decide) fk_18 (fun _ h9 => h9) rfl dX4_cell_32 ?_
          refine lv_imul hx hb dX4_cell_35 ?_
          refine lv_iload_n hx hb dX4_cell_36 rfl (lv_at hl 2 rfl) ?_
          refine lv_iadd hx hb dX4_cell_37 ?_
          obtain ⟨i_5, h⟩ := gd_some h
          refine va_iald hx hb hK hP 1 0 rfl rfl (ix_in i_5) dX4_cell_38 ?_
          obtain rfl := Option.some.inj h
          exact hRet hP hD hS dX4_cell_39
        · have h := ifn c_4 h
          refine lv_iconst (v := (0 : Int32)) hx hb dX4_cell_24 (by decide) ?_
          obtain rfl := Option.some.inj h
          exact hRet hP hD hS dX4_cell_25
abbrev rm_X0_isDoubted : Room := { frames := 1, cells := 0, slots := 0, locals := 22 }
theorem hd_X0_isDoubted : yX0_isDoubted.cls = RX0 ∧ yX0_isDoubted.cls ≠ "java/lang/invoke/MethodHandle" ∧ yX0_isDoubted.cls ≠ "java/lang/invoke/VarHandle" ∧ (parseMethodDescriptor yX0_isDoubted.desc).map (fun d => d.parameters.length) = some 1 := by decide +kernel
set_option maxHeartbeats 4000000 in
set_option maxRecDepth 100000 in
theorem c_X0_isDoubted {l : Launch} {G : va_G} {ca : Nat → ClassId} {ev : Nat → Nat} {c0 c1 c2 c3 c4 c5 c6 : Nat} {bsize : Int32} {bcells : (Nat → Int32)} {ssize : Int32} {scells : (Nat → Int32)} {dsize : Int32} {dcells : (Nat → Int32)} {people : Int32} {rule : Int32} {believed : Int32} {a1 : Int32} {res : Int32} (h : f_X0_isDoubted bsize bcells a1 = some res) : CtI l yX0_isDoubted wsX0_isDoubted rm_X0_isDoubted G ca ev [.ref c0, .int a1] (wC ca ev c0 c1 c2 c3 c4 c5 c6 bsize bcells ssize scells dsize dcells people rule believed) (wC ca ev c0 c1 c2 c3 c4 c5 c6 bsize bcells ssize scells dsize dcells people rule believed) res := by
  unfold f_X0_isDoubted at h
  refine en_z (by decide) rfl (Nat.le_of_ble_eq_true rfl) ?_
  intro p e s m args below meth c A Q H locs ls hx hb hml hown hts hA hP hK hD hE hS hl hRet
  have hown : s.vm.findClass RX0 = some m.cls := hown
  have hl : lv_has ls 2 [(0, .ref c0), (1, .int a1)] := hl
  have hin_X0 : ∀ w ∈ u_ws RX0 TX0 6, w ∈ wsX0_isDoubted := fun w h9 => List.mem_cons_of_mem _ (List.mem_append_left _ (List.mem_append_right _ h9))
  have fk_14 := hts (.fieldLink RX0 14 "MaskBows$Carnival" "bows" "LMaskBows$Rows;") (by decide +kernel)
  refine lv_aload_n hx hb dX0_isDoubted_0 rfl (lv_at hl 0 rfl) ?_
  refine va_get (D := G) (ci := 0) (v := .ref c1) (C := RX0) (T := TX0) (N := 6) hx hb hts hin_X0 hown hK hP 0 rfl rfl 0 (by decide) fk_14 (fun _ h9 => h9) rfl dX0_isDoubted_1 ?_
  refine lv_iload_n hx hb dX0_isDoubted_4 rfl (lv_at hl 1 rfl) ?_
  refine lv_iconst (v := (3 : Int32)) hx hb dX0_isDoubted_5 (by decide) ?_
  obtain ⟨u_1, e_1, h⟩ := bd_some h
  refine cl_Vi (As := [.int a1, .int (3 : Int32)]) (rest := []) (Wn := (wC ca ev c0 c1 c2 c3 c4 c5 c6 bsize bcells ssize scells dsize dcells people rule believed)) ⟨hx, hb, hml, hown, hts⟩ (c_X4_cell (ca := ca) (ev := ev) (r0 := c1) (r1 := c2) (limit := (20 : Int32)) (width := (4 : Int32)) (size := bsize) (cells := bcells) (nc := 80) e_1) (cwV 2 hts gX0_isDoubted_X4_cell rfl rfl rfl hd_X4_cell ⟨Nat.le_of_ble_eq_true rfl, Nat.le_of_ble_eq_true rfl⟩) hK hP hD hS hA hE wp_5 (q0 := 0) (ci := 4) rfl rfl rfl rfl hl.1 rfl (Nat.le_of_ble_eq_true rfl) dX0_isDoubted_6 ⟨Nat.zero_le _, Nat.zero_le _⟩ (fun H locs hP hD hS => ?_)
  refine lv_bipush (v := (10 : Int32)) hx hb dX0_isDoubted_9 (by decide) ?_
  refine lv_icmp_ge (tgt := 18) hx hb dX0_isDoubted_11 (by decide) (fun c_2 => ?_) (fun c_2 => ?_)
  · have h := ifp c_2 h
    refine lv_iconst (v := (0 : Int32)) hx hb dX0_isDoubted_18 (by decide) ?_
    obtain rfl := Option.some.inj h
    exact hRet hP hD hS zb_0 dX0_isDoubted_19
  · have h := ifn c_2 h
    refine lv_iconst (v := (1 : Int32)) hx hb dX0_isDoubted_14 (by decide) ?_
    refine lv_goto (tgt := 19) hx hb dX0_isDoubted_15 (by decide) ?_
    obtain rfl := Option.some.inj h
    exact hRet hP hD hS zb_1 dX0_isDoubted_19
abbrev rm_X0_doubted : Room := { frames := 1, cells := 0, slots := 0, locals := 22 }
theorem hd_X0_doubted : yX0_doubted.cls = RX0 ∧ yX0_doubted.cls ≠ "java/lang/invoke/MethodHandle" ∧ yX0_doubted.cls ≠ "java/lang/invoke/VarHandle" ∧ (parseMethodDescriptor yX0_doubted.desc).map (fun d => d.parameters.length) = some 0 := by decide +kernel
set_option maxHeartbeats 4000000 in
set_option maxRecDepth 100000 in
theorem c_X0_doubted {l : Launch} {G : va_G} {ca : Nat → ClassId} {ev : Nat → Nat} {c0 c1 c2 c3 c4 c5 c6 : Nat} {bsize : Int32} {bcells : (Nat → Int32)} {ssize : Int32} {scells : (Nat → Int32)} {dsize : Int32} {dcells : (Nat → Int32)} {people : Int32} {rule : Int32} {believed : Int32}  {N : Nat} {res : Int32} (h : f_X0_doubted N bsize bcells = some res) : CtI l yX0_doubted wsX0_doubted rm_X0_doubted G ca ev [.ref c0] (wC ca ev c0 c1 c2 c3 c4 c5 c6 bsize bcells ssize scells dsize dcells people rule believed) (wC ca ev c0 c1 c2 c3 c4 c5 c6 bsize bcells ssize scells dsize dcells people rule believed) res := by
  unfold f_X0_doubted at h
  refine en_i (by decide) rfl (Nat.le_of_ble_eq_true rfl) ?_
  intro p e s m args below meth c A Q H locs ls hx hb hml hown hts hA hP hK hD hE hS hl hRet
  have hown : s.vm.findClass RX0 = some m.cls := hown
  have hl : lv_has ls 3 [(0, .ref c0)] := hl
  have hin_X0 : ∀ w ∈ u_ws RX0 TX0 6, w ∈ wsX0_doubted := fun w h9 => List.mem_cons_of_mem _ (List.mem_append_left _ (List.mem_append_right _ h9))
  have fk_14 := hts (.fieldLink RX0 14 "MaskBows$Carnival" "bows" "LMaskBows$Rows;") (by decide +kernel)
  refine lv_iconst (v := (0 : Int32)) hx hb dX0_doubted_0 (by decide) ?_
  refine lv_istore_n (lv' := [(1, .int (0 : Int32)), (0, .ref c0)]) hx hb dX0_doubted_1 rfl hl (by decide) rfl (fun ls hl => ?_)
  refine lv_iconst (v := (0 : Int32)) hx hb dX0_doubted_2 (by decide) ?_
  refine lv_istore_n (lv' := [(2, .int (0 : Int32)), (1, .int (0 : Int32)), (0, .ref c0)]) hx hb dX0_doubted_3 rfl hl (by decide) rfl (fun ls hl => ?_)
  have L_4 : ∀  {bsize_4 : Int32} {bcells_4 : (Nat → Int32)} (n_4 : Nat) {x1_4 : Int32} {x2_4 : Int32} {uL_4 : Int32} {H : Heap} {locs : List Loc} {ls : Array Slot}, f_X0_doubted_4 bsize_4 bcells_4  n_4 x1_4 x2_4 = some uL_4 → va_P G vwCl (wC ca ev c0 c1 c2 c3 c4 c5 c6 bsize_4 bcells_4 ssize scells dsize dcells people rule believed) H → va_D A (wC ca ev c0 c1 c2 c3 c4 c5 c6 bsize_4 bcells_4 ssize scells dsize dcells people rule believed) → va_S A s.heap H locs → lv_has ls 3 [(0, .ref c0), (1, .int x1_4), (2, .int x2_4)] → (∀ {H : Heap} {locs : List Loc} {ls : Array Slot}, va_P G vwCl (wC ca ev c0 c1 c2 c3 c4 c5 c6 bsize_4 bcells_4 ssize scells dsize dcells people rule believed) H → va_D A (wC ca ev c0 c1 c2 c3 c4 c5 c6 bsize_4 bcells_4 ssize scells dsize dcells people rule believed) → va_S A s.heap H locs → lv_has ls 3 [(1, .int uL_4)] → W p l e rm_X0_doubted s m args below meth c H locs 0 0 Q (F0 m 38 ls [])) → W p l e rm_X0_doubted s m args below meth c H locs 0 0 Q (F0 m 4 ls []) := by
    intro bsize_4 bcells_4 n_4
    induction n_4 with
    | zero => intro x1_4 x2_4 uL_4 H locs ls h; exact absurd h (by rw [f_X0_doubted_4]; exact fun z => nomatch z)
    | succ n_4 ih =>
      intro x1_4 x2_4 uL_4 H locs ls h hP hD hS hl JK_4
      rw [f_X0_doubted_4] at h
      refine lv_iload_n hx hb dX0_doubted_4 rfl (lv_at hl 2 rfl) ?_
      refine lv_aload_n hx hb dX0_doubted_5 rfl (lv_at hl 0 rfl) ?_
      refine va_get (D := G) (ci := 0) (v := .ref c1) (C := RX0) (T := TX0) (N := 6) hx hb hts hin_X0 hown hK hP 0 rfl rfl 0 (by decide) fk_14 (fun _ h9 => h9) rfl dX0_doubted_6 ?_
      obtain ⟨u_1, e_1, h⟩ := bd_some h
      refine cl_Vi (As := []) (rest := [.int x2_4]) (Wn := (wC ca ev c0 c1 c2 c3 c4 c5 c6 bsize_4 bcells_4 ssize scells dsize dcells people rule believed)) ⟨hx, hb, hml, hown, hts⟩ (c_X4_size (ca := ca) (ev := ev) (r0 := c1) (r1 := c2) (limit := (20 : Int32)) (width := (4 : Int32)) (size := bsize_4) (cells := bcells_4) (nc := 80) e_1) (cwV 0 hts gX0_doubted_X4_size rfl rfl rfl hd_X4_size ⟨Nat.le_of_ble_eq_true rfl, Nat.le_of_ble_eq_true rfl⟩) hK hP hD hS hA hE wp_5 (q0 := 0) (ci := 4) rfl rfl rfl rfl hl.1 rfl (Nat.le_of_ble_eq_true rfl) dX0_doubted_9 ⟨Nat.zero_le _, Nat.zero_le _⟩ (fun H locs hP hD hS => ?_)
      refine lv_icmp_ge (tgt := 38) hx hb dX0_doubted_12 (by decide) (fun c_2 => ?_) (fun c_2 => ?_)
      · have h := ifp c_2 h
        obtain rfl := Option.some.inj h
        exact JK_4 hP hD hS (lv_sub hl [1] rfl)
      · have h := ifn c_2 h
        refine lv_aload_n hx hb dX0_doubted_15 rfl (lv_at hl 0 rfl) ?_
        refine va_get (D := G) (ci := 0) (v := .ref c1) (C := RX0) (T := TX0) (N := 6) hx hb hts hin_X0 hown hK hP 0 rfl rfl 0 (by decide) fk_14 (fun _ h9 => h9) rfl dX0_doubted_16 ?_
        refine lv_iload_n hx hb dX0_doubted_19 rfl (lv_at hl 2 rfl) ?_
        refine lv_iconst (v := (3 : Int32)) hx hb dX0_doubted_20 (by decide) ?_
        obtain ⟨u_3, e_3, h⟩ := bd_some h
        refine cl_Vi (As := [.int x2_4, .int (3 : Int32)]) (rest := []) (Wn := (wC ca ev c0 c1 c2 c3 c4 c5 c6 bsize_4 bcells_4 ssize scells dsize dcells people rule believed)) ⟨hx, hb, hml, hown, hts⟩ (c_X4_cell (ca := ca) (ev := ev) (r0 := c1) (r1 := c2) (limit := (20 : Int32)) (width := (4 : Int32)) (size := bsize_4) (cells := bcells_4) (nc := 80) e_3) (cwV 2 hts gX0_doubted_X4_cell rfl rfl rfl hd_X4_cell ⟨Nat.le_of_ble_eq_true rfl, Nat.le_of_ble_eq_true rfl⟩) hK hP hD hS hA hE wp_5 (q0 := 0) (ci := 4) rfl rfl rfl rfl hl.1 rfl (Nat.le_of_ble_eq_true rfl) dX0_doubted_21 ⟨Nat.zero_le _, Nat.zero_le _⟩ (fun H locs hP hD hS => ?_)
        refine lv_bipush (v := (10 : Int32)) hx hb dX0_doubted_24 (by decide) ?_
        obtain ⟨u_4, e_4, h⟩ := bd_some h
        have J_4 : ∀ {H : Heap} {locs : List Loc} {ls : Array Slot}, va_P G vwCl (wC ca ev c0 c1 c2 c3 c4 c5 c6 bsize_4 bcells_4 ssize scells dsize dcells people rule believed) H → va_D A (wC ca ev c0 c1 c2 c3 c4 c5 c6 bsize_4 bcells_4 ssize scells dsize dcells people rule believed) → va_S A s.heap H locs → lv_has ls 3 [(0, .ref c0), (1, .int u_4), (2, .int x2_4)] → W p l e rm_X0_doubted s m args below meth c H locs 0 0 Q (F0 m 32 ls []) := by
          intro H locs ls hP hD hS hl 
          refine lv_iinc (v := (x2_4 + (1 : Int32))) (lv' := [(2, .int (x2_4 + (1 : Int32))), (0, .ref c0), (1, .int u_4)]) hx hb dX0_doubted_32 hl (k := 2) rfl rfl (by decide) rfl (fun ls hl => ?_)
          refine lv_goto (tgt := 4) hx hb dX0_doubted_35 (by decide) ?_
          exact ih h hP hD hS (lv_sub hl [1, 2, 0] rfl) JK_4
        have h := e_4
        clear e_4
        refine lv_icmp_ge (tgt := 32) hx hb dX0_doubted_26 (by decide) (fun c_4 => ?_) (fun c_4 => ?_)
        · have h := ifp c_4 h
          obtain rfl := Option.some.inj h
          exact J_4 hP hD hS (lv_sub hl [0, 1, 2] rfl)
        · have h := ifn c_4 h
          refine lv_iinc (v := (x1_4 + (1 : Int32))) (lv' := [(1, .int (x1_4 + (1 : Int32))), (0, .ref c0), (2, .int x2_4)]) hx hb dX0_doubted_29 hl (k := 1) rfl rfl (by decide) rfl (fun ls hl => ?_)
          obtain rfl := Option.some.inj h
          exact J_4 hP hD hS (lv_sub hl [1, 0, 2] rfl)
  obtain ⟨u_5, e_5, h⟩ := bd_some h
  refine L_4 _ e_5 hP hD hS (lv_sub hl [2, 1, 0] rfl) ?_
  intro H locs ls hP hD hS hl
  refine lv_iload_n hx hb dX0_doubted_38 rfl (lv_at hl 0 rfl) ?_
  obtain rfl := Option.some.inj h
  exact hRet hP hD hS dX0_doubted_39
abbrev rm_X0_hasRoomForDoubt : Room := { frames := 2, cells := 0, slots := 0, locals := 44 }
theorem hd_X0_hasRoomForDoubt : yX0_hasRoomForDoubt.cls = RX0 ∧ yX0_hasRoomForDoubt.cls ≠ "java/lang/invoke/MethodHandle" ∧ yX0_hasRoomForDoubt.cls ≠ "java/lang/invoke/VarHandle" ∧ (parseMethodDescriptor yX0_hasRoomForDoubt.desc).map (fun d => d.parameters.length) = some 0 := by decide +kernel
set_option maxHeartbeats 4000000 in
set_option maxRecDepth 100000 in
theorem c_X0_hasRoomForDoubt {l : Launch} {G : va_G} {ca : Nat → ClassId} {ev : Nat → Nat} {c0 c1 c2 c3 c4 c5 c6 : Nat} {bsize : Int32} {bcells : (Nat → Int32)} {ssize : Int32} {scells : (Nat → Int32)} {dsize : Int32} {dcells : (Nat → Int32)} {people : Int32} {rule : Int32} {believed : Int32}  {N : Nat} {res : Int32} (h : f_X0_hasRoomForDoubt N bsize bcells = some res) : CtI l yX0_hasRoomForDoubt wsX0_hasRoomForDoubt rm_X0_hasRoomForDoubt G ca ev [.ref c0] (wC ca ev c0 c1 c2 c3 c4 c5 c6 bsize bcells ssize scells dsize dcells people rule believed) (wC ca ev c0 c1 c2 c3 c4 c5 c6 bsize bcells ssize scells dsize dcells people rule believed) res := by
  unfold f_X0_hasRoomForDoubt at h
  refine en_z (by decide) rfl (Nat.le_of_ble_eq_true rfl) ?_
  intro p e s m args below meth c A Q H locs ls hx hb hml hown hts hA hP hK hD hE hS hl hRet
  have hown : s.vm.findClass RX0 = some m.cls := hown
  have hl : lv_has ls 1 [(0, .ref c0)] := hl
  refine lv_aload_n hx hb dX0_hasRoomForDoubt_0 rfl (lv_at hl 0 rfl) ?_
  obtain ⟨u_1, e_1, h⟩ := bd_some h
  refine cm_Vi (As := []) (rest := []) ⟨hx, hb, hml, hown, hts⟩ (c_X0_doubted (ca := ca) (ev := ev) (c0 := c0) (c1 := c1) (c2 := c2) (c3 := c3) (c4 := c4) (c5 := c5) (c6 := c6) (bsize := bsize) (bcells := bcells) (ssize := ssize) (scells := scells) (dsize := dsize) (dcells := dcells) (people := people) (rule := rule) (believed := believed) e_1) (cwV 0 hts gX0_hasRoomForDoubt_X0_doubted rfl rfl rfl hd_X0_doubted ⟨Nat.le_of_ble_eq_true rfl, Nat.le_of_ble_eq_true rfl⟩) hK hP hD hS hA hE (q0 := 0) (ci := 0) rfl rfl rfl rfl hl.1 rfl (Nat.le_of_ble_eq_true rfl) dX0_hasRoomForDoubt_1 ⟨Nat.zero_le _, Nat.zero_le _⟩ (fun H locs hP hD hS => ?_)
  refine lv_bipush (v := (6 : Int32)) hx hb dX0_hasRoomForDoubt_4 (by decide) ?_
  refine lv_icmp_ge (tgt := 13) hx hb dX0_hasRoomForDoubt_6 (by decide) (fun c_2 => ?_) (fun c_2 => ?_)
  · have h := ifp c_2 h
    refine lv_iconst (v := (0 : Int32)) hx hb dX0_hasRoomForDoubt_13 (by decide) ?_
    obtain rfl := Option.some.inj h
    exact hRet hP hD hS zb_0 dX0_hasRoomForDoubt_14
  · have h := ifn c_2 h
    refine lv_iconst (v := (1 : Int32)) hx hb dX0_hasRoomForDoubt_9 (by decide) ?_
    refine lv_goto (tgt := 14) hx hb dX0_hasRoomForDoubt_10 (by decide) ?_
    obtain rfl := Option.some.inj h
    exact hRet hP hD hS zb_1 dX0_hasRoomForDoubt_14
abbrev rm_X0_mayHaveTenths : Room := { frames := 3, cells := 0, slots := 0, locals := 64 }
theorem hd_X0_mayHaveTenths : yX0_mayHaveTenths.cls = RX0 ∧ yX0_mayHaveTenths.cls ≠ "java/lang/invoke/MethodHandle" ∧ yX0_mayHaveTenths.cls ≠ "java/lang/invoke/VarHandle" ∧ (parseMethodDescriptor yX0_mayHaveTenths.desc).map (fun d => d.parameters.length) = some 2 := by decide +kernel
set_option maxHeartbeats 4000000 in
set_option maxRecDepth 100000 in
theorem c_X0_mayHaveTenths {l : Launch} {G : va_G} {ca : Nat → ClassId} {ev : Nat → Nat} {c0 c1 c2 c3 c4 c5 c6 : Nat} {bsize : Int32} {bcells : (Nat → Int32)} {ssize : Int32} {scells : (Nat → Int32)} {dsize : Int32} {dcells : (Nat → Int32)} {people : Int32} {rule : Int32} {believed : Int32} {a1 : Int32} {a2 : Int32} {N : Nat} {res : Int32} (h : f_X0_mayHaveTenths N bsize bcells a1 a2 = some res) : CtI l yX0_mayHaveTenths wsX0_mayHaveTenths rm_X0_mayHaveTenths G ca ev [.ref c0, .int a1, .int a2] (wC ca ev c0 c1 c2 c3 c4 c5 c6 bsize bcells ssize scells dsize dcells people rule believed) (wC ca ev c0 c1 c2 c3 c4 c5 c6 bsize bcells ssize scells dsize dcells people rule believed) res := by
  unfold f_X0_mayHaveTenths at h
  refine en_z (by decide) rfl (Nat.le_of_ble_eq_true rfl) ?_
  intro p e s m args below meth c A Q H locs ls hx hb hml hown hts hA hP hK hD hE hS hl hRet
  have hown : s.vm.findClass RX0 = some m.cls := hown
  have hl : lv_has ls 3 [(0, .ref c0), (1, .int a1), (2, .int a2)] := hl
  refine lv_iload_n hx hb dX0_mayHaveTenths_0 rfl (lv_at hl 2 rfl) ?_
  refine lv_bipush (v := (10 : Int32)) hx hb dX0_mayHaveTenths_1 (by decide) ?_
  refine lv_icmp_eq (tgt := 21) hx hb dX0_mayHaveTenths_3 (by decide) (fun c_1 => ?_) (fun c_1 => ?_)
  · have h := ifp c_1 h
    refine lv_iconst (v := (1 : Int32)) hx hb dX0_mayHaveTenths_21 (by decide) ?_
    refine lv_goto (tgt := 26) hx hb dX0_mayHaveTenths_22 (by decide) ?_
    obtain rfl := Option.some.inj h
    exact hRet hP hD hS zb_1 dX0_mayHaveTenths_26
  · have h := ifn c_1 h
    refine lv_aload_n hx hb dX0_mayHaveTenths_6 rfl (lv_at hl 0 rfl) ?_
    refine lv_iload_n hx hb dX0_mayHaveTenths_7 rfl (lv_at hl 1 rfl) ?_
    obtain ⟨u_2, e_2, h⟩ := bd_some h
    refine cm_Vi (As := [.int a1]) (rest := []) ⟨hx, hb, hml, hown, hts⟩ (c_X0_isDoubted (ca := ca) (ev := ev) (c0 := c0) (c1 := c1) (c2 := c2) (c3 := c3) (c4 := c4) (c5 := c5) (c6 := c6) (bsize := bsize) (bcells := bcells) (ssize := ssize) (scells := scells) (dsize := dsize) (dcells := dcells) (people := people) (rule := rule) (believed := believed) e_2) (cwV 1 hts gX0_mayHaveTenths_X0_isDoubted rfl rfl rfl hd_X0_isDoubted ⟨Nat.le_of_ble_eq_true rfl, Nat.le_of_ble_eq_true rfl⟩) hK hP hD hS hA hE (q0 := 0) (ci := 0) rfl rfl rfl rfl hl.1 rfl (Nat.le_of_ble_eq_true rfl) dX0_mayHaveTenths_8 ⟨Nat.zero_le _, Nat.zero_le _⟩ (fun H locs hP hD hS => ?_)
    refine lv_if_ne (tgt := 21) hx hb dX0_mayHaveTenths_11 (by decide) (fun c_3 => ?_) (fun c_3 => ?_)
    · have h := ifn c_3 h
      refine lv_iconst (v := (1 : Int32)) hx hb dX0_mayHaveTenths_21 (by decide) ?_
      refine lv_goto (tgt := 26) hx hb dX0_mayHaveTenths_22 (by decide) ?_
      obtain rfl := Option.some.inj h
      exact hRet hP hD hS zb_1 dX0_mayHaveTenths_26
    · have h := ifp c_3 h
      refine lv_aload_n hx hb dX0_mayHaveTenths_14 rfl (lv_at hl 0 rfl) ?_
      obtain ⟨u_4, e_4, h⟩ := bd_some h
      refine cm_Vi (As := []) (rest := []) ⟨hx, hb, hml, hown, hts⟩ (c_X0_hasRoomForDoubt (ca := ca) (ev := ev) (c0 := c0) (c1 := c1) (c2 := c2) (c3 := c3) (c4 := c4) (c5 := c5) (c6 := c6) (bsize := bsize) (bcells := bcells) (ssize := ssize) (scells := scells) (dsize := dsize) (dcells := dcells) (people := people) (rule := rule) (believed := believed) e_4) (cwV 0 hts gX0_mayHaveTenths_X0_hasRoomForDoubt rfl rfl rfl hd_X0_hasRoomForDoubt ⟨Nat.le_of_ble_eq_true rfl, Nat.le_of_ble_eq_true rfl⟩) hK hP hD hS hA hE (q0 := 0) (ci := 0) rfl rfl rfl rfl hl.1 rfl (Nat.le_of_ble_eq_true rfl) dX0_mayHaveTenths_15 ⟨Nat.zero_le _, Nat.zero_le _⟩ (fun H locs hP hD hS => ?_)
      refine lv_if_eq (tgt := 25) hx hb dX0_mayHaveTenths_18 (by decide) (fun c_5 => ?_) (fun c_5 => ?_)
      · have h := ifp c_5 h
        refine lv_iconst (v := (0 : Int32)) hx hb dX0_mayHaveTenths_25 (by decide) ?_
        obtain rfl := Option.some.inj h
        exact hRet hP hD hS zb_0 dX0_mayHaveTenths_26
      · have h := ifn c_5 h
        refine lv_iconst (v := (1 : Int32)) hx hb dX0_mayHaveTenths_21 (by decide) ?_
        refine lv_goto (tgt := 26) hx hb dX0_mayHaveTenths_22 (by decide) ?_
        obtain rfl := Option.some.inj h
        exact hRet hP hD hS zb_1 dX0_mayHaveTenths_26
abbrev rm_X0_isSwitchedOn : Room := { frames := 0, cells := 0, slots := 0, locals := 0 }
theorem hd_X0_isSwitchedOn : yX0_isSwitchedOn.cls = RX0 ∧ yX0_isSwitchedOn.cls ≠ "java/lang/invoke/MethodHandle" ∧ yX0_isSwitchedOn.cls ≠ "java/lang/invoke/VarHandle" ∧ (parseMethodDescriptor yX0_isSwitchedOn.desc).map (fun d => d.parameters.length) = some 1 := by decide +kernel
set_option maxHeartbeats 4000000 in
set_option maxRecDepth 100000 in
theorem c_X0_isSwitchedOn {l : Launch} {G : va_G} {ca : Nat → ClassId} {ev : Nat → Nat} {c0 c1 c2 c3 c4 c5 c6 : Nat} {bsize : Int32} {bcells : (Nat → Int32)} {ssize : Int32} {scells : (Nat → Int32)} {dsize : Int32} {dcells : (Nat → Int32)} {people : Int32} {rule : Int32} {believed : Int32} {a1 : Int32} {res : Int32} (h : f_X0_isSwitchedOn rule believed a1 = some res) : CtI l yX0_isSwitchedOn wsX0_isSwitchedOn rm_X0_isSwitchedOn G ca ev [.ref c0, .int a1] (wC ca ev c0 c1 c2 c3 c4 c5 c6 bsize bcells ssize scells dsize dcells people rule believed) (wC ca ev c0 c1 c2 c3 c4 c5 c6 bsize bcells ssize scells dsize dcells people rule believed) res := by
  unfold f_X0_isSwitchedOn at h
  refine en_z (by decide) rfl (Nat.le_of_ble_eq_true rfl) ?_
  intro p e s m args below meth c A Q H locs ls hx hb hml hown hts hA hP hK hD hE hS hl hRet
  have hown : s.vm.findClass RX0 = some m.cls := hown
  have hl : lv_has ls 2 [(0, .ref c0), (1, .int a1)] := hl
  have hin_X0 : ∀ w ∈ u_ws RX0 TX0 6, w ∈ wsX0_isSwitchedOn := fun w h9 => List.mem_cons_of_mem _ (List.mem_append_right _ h9)
  have fk_30 := hts (.fieldLink RX0 30 "MaskBows$Carnival" "rule" "Z") (by decide +kernel)
  have fk_34 := hts (.fieldLink RX0 34 "MaskBows$Carnival" "believed" "Z") (by decide +kernel)
  refine lv_iload_n hx hb dX0_isSwitchedOn_0 rfl (lv_at hl 1 rfl) ?_
  refine lv_if_ne (tgt := 11) hx hb dX0_isSwitchedOn_1 (by decide) (fun c_1 => ?_) (fun c_1 => ?_)
  · have h := ifn c_1 h
    refine lv_aload_n hx hb dX0_isSwitchedOn_11 rfl (lv_at hl 0 rfl) ?_
    refine va_get (D := G) (ci := 0) (v := .int believed) (C := RX0) (T := TX0) (N := 6) hx hb hts hin_X0 hown hK hP 0 rfl rfl 5 (by decide) fk_34 (fun _ h9 => h9) rfl dX0_isSwitchedOn_12 ?_
    obtain ⟨z_2, h⟩ := gd_some h
    obtain rfl := Option.some.inj h
    exact hRet hP hD hS (isb_or z_2) dX0_isSwitchedOn_15
  · have h := ifp c_1 h
    refine lv_aload_n hx hb dX0_isSwitchedOn_4 rfl (lv_at hl 0 rfl) ?_
    refine va_get (D := G) (ci := 0) (v := .int rule) (C := RX0) (T := TX0) (N := 6) hx hb hts hin_X0 hown hK hP 0 rfl rfl 4 (by decide) fk_30 (fun _ h9 => h9) rfl dX0_isSwitchedOn_5 ?_
    refine lv_goto (tgt := 15) hx hb dX0_isSwitchedOn_8 (by decide) ?_
    obtain ⟨z_3, h⟩ := gd_some h
    obtain rfl := Option.some.inj h
    exact hRet hP hD hS (isb_or z_3) dX0_isSwitchedOn_15
abbrev rm_X0_switchTo : Room := { frames := 0, cells := 0, slots := 0, locals := 0 }
theorem hd_X0_switchTo : yX0_switchTo.cls = RX0 ∧ yX0_switchTo.cls ≠ "java/lang/invoke/MethodHandle" ∧ yX0_switchTo.cls ≠ "java/lang/invoke/VarHandle" ∧ (parseMethodDescriptor yX0_switchTo.desc).map (fun d => d.parameters.length) = some 2 := by decide +kernel
set_option maxHeartbeats 4000000 in
set_option maxRecDepth 100000 in
theorem c_X0_switchTo {l : Launch} {G : va_G} {ca : Nat → ClassId} {ev : Nat → Nat} {c0 c1 c2 c3 c4 c5 c6 : Nat} {bsize : Int32} {bcells : (Nat → Int32)} {ssize : Int32} {scells : (Nat → Int32)} {dsize : Int32} {dcells : (Nat → Int32)} {people : Int32} {rule : Int32} {believed : Int32} {a1 : Int32} {a2 : Int32} {res : Int32 × Int32} (h : f_X0_switchTo rule believed a1 a2 = some res) : CtV l yX0_switchTo wsX0_switchTo rm_X0_switchTo G ca ev [.ref c0, .int a1, .int a2] (wC ca ev c0 c1 c2 c3 c4 c5 c6 bsize bcells ssize scells dsize dcells people rule believed) (wC ca ev c0 c1 c2 c3 c4 c5 c6 bsize bcells ssize scells dsize dcells people res.1 res.2) := by
  unfold f_X0_switchTo at h
  refine en_v (by decide) rfl (Nat.le_of_ble_eq_true rfl) ?_
  intro p e s m args below meth c A Q H locs ls hx hb hml hown hts hA hP hK hD hE hS hl hRet
  have hown : s.vm.findClass RX0 = some m.cls := hown
  have hl : lv_has ls 3 [(0, .ref c0), (1, .int a1), (2, .int a2)] := hl
  have hin_X0 : ∀ w ∈ u_ws RX0 TX0 6, w ∈ wsX0_switchTo := fun w h9 => List.mem_cons_of_mem _ (List.mem_append_right _ h9)
  have fk_30 := hts (.fieldLink RX0 30 "MaskBows$Carnival" "rule" "Z") (by decide +kernel)
  have fk_34 := hts (.fieldLink RX0 34 "MaskBows$Carnival" "believed" "Z") (by decide +kernel)
  refine lv_iload_n hx hb dX0_switchTo_0 rfl (lv_at hl 1 rfl) ?_
  refine lv_if_ne (tgt := 12) hx hb dX0_switchTo_1 (by decide) (fun c_1 => ?_) (fun c_1 => ?_)
  · have h := ifn c_1 h
    refine lv_aload_n hx hb dX0_switchTo_12 rfl (lv_at hl 0 rfl) ?_
    refine lv_iload_n hx hb dX0_switchTo_13 rfl (lv_at hl 2 rfl) ?_
    obtain ⟨z_2, h⟩ := gd_some h
    refine va_put (D := G) (ci := 0) (v := .int a2) (ty := .boolean) (C := RX0) (T := TX0) (N := 6) hx hb hts hin_X0 tyX0 tyX0_ok nmX0 hown hK hP hD hS 0 rfl rfl 5 (by decide) fk_34 (fun _ h9 => h9) rfl (tyX0_ok 5 (by decide)) (zb_nar (isb_or z_2)) (zb_fit (isb_or z_2)) (Nat.le_of_ble_eq_true rfl) dX0_switchTo_14 (fun H locs hP hD hS => ?_)
    have hP : va_P G vwCl (wC ca ev c0 c1 c2 c3 c4 c5 c6 bsize bcells ssize scells dsize dcells people rule a2) H := hP
    have hD : va_D A (wC ca ev c0 c1 c2 c3 c4 c5 c6 bsize bcells ssize scells dsize dcells people rule a2) := hD
    obtain rfl := Option.some.inj h
    exact hRet hP hD hS dX0_switchTo_17
  · have h := ifp c_1 h
    refine lv_aload_n hx hb dX0_switchTo_4 rfl (lv_at hl 0 rfl) ?_
    refine lv_iload_n hx hb dX0_switchTo_5 rfl (lv_at hl 2 rfl) ?_
    obtain ⟨z_3, h⟩ := gd_some h
    refine va_put (D := G) (ci := 0) (v := .int a2) (ty := .boolean) (C := RX0) (T := TX0) (N := 6) hx hb hts hin_X0 tyX0 tyX0_ok nmX0 hown hK hP hD hS 0 rfl rfl 4 (by decide) fk_30 (fun _ h9 => h9) rfl (tyX0_ok 4 (by decide)) (zb_nar (isb_or z_3)) (zb_fit (isb_or z_3)) (Nat.le_of_ble_eq_true rfl) dX0_switchTo_6 (fun H locs hP hD hS => ?_)
    have hP : va_P G vwCl (wC ca ev c0 c1 c2 c3 c4 c5 c6 bsize bcells ssize scells dsize dcells people a2 believed) H := hP
    have hD : va_D A (wC ca ev c0 c1 c2 c3 c4 c5 c6 bsize bcells ssize scells dsize dcells people a2 believed) := hD
    refine lv_goto (tgt := 17) hx hb dX0_switchTo_9 (by decide) ?_
    obtain rfl := Option.some.inj h
    exact hRet hP hD hS dX0_switchTo_17
abbrev rm_X4_isFull : Room := { frames := 0, cells := 0, slots := 0, locals := 0 }
theorem hd_X4_isFull : yX4_isFull.cls = RX4 ∧ yX4_isFull.cls ≠ "java/lang/invoke/MethodHandle" ∧ yX4_isFull.cls ≠ "java/lang/invoke/VarHandle" ∧ (parseMethodDescriptor yX4_isFull.desc).map (fun d => d.parameters.length) = some 0 := by decide +kernel
set_option maxHeartbeats 4000000 in
set_option maxRecDepth 100000 in
theorem c_X4_isFull {l : Launch} {G : va_G} {ca : Nat → ClassId} {ev : Nat → Nat} {r0 r1 : Nat} {limit : Int32} {width : Int32} {size : Int32} {cells : (Nat → Int32)} {nc : Nat}  {res : Int32} (h : f_X4_isFull limit size = some res) : CtI l yX4_isFull wsX4_isFull rm_X4_isFull G ca ev [.ref r0] (wR ca ev r0 r1 limit width size cells nc) (wR ca ev r0 r1 limit width size cells nc) res := by
  unfold f_X4_isFull at h
  refine en_z (by decide) rfl (Nat.le_of_ble_eq_true rfl) ?_
  intro p e s m args below meth c A Q H locs ls hx hb hml hown hts hA hP hK hD hE hS hl hRet
  have hown : s.vm.findClass RX4 = some m.cls := hown
  have hl : lv_has ls 1 [(0, .ref r0)] := hl
  have hin_X4 : ∀ w ∈ u_ws RX4 TX4 4, w ∈ wsX4_isFull := fun w h9 => List.mem_cons_of_mem _ (List.mem_append_right _ h9)
  have fk_15 := hts (.fieldLink RX4 15 "MaskBows$Rows" "limit" "I") (by decide +kernel)
  have fk_9 := hts (.fieldLink RX4 9 "MaskBows$Rows" "size" "I") (by decide +kernel)
  refine lv_aload_n hx hb dX4_isFull_0 rfl (lv_at hl 0 rfl) ?_
  refine va_get (D := G) (ci := 4) (v := .int size) (C := RX4) (T := TX4) (N := 4) hx hb hts hin_X4 hown hK hP 0 rfl rfl 3 (by decide) fk_9 (fun _ h9 => h9) rfl dX4_isFull_1 ?_
  refine lv_aload_n hx hb dX4_isFull_4 rfl (lv_at hl 0 rfl) ?_
  refine va_get (D := G) (ci := 4) (v := .int limit) (C := RX4) (T := TX4) (N := 4) hx hb hts hin_X4 hown hK hP 0 rfl rfl 0 (by decide) fk_15 (fun _ h9 => h9) rfl dX4_isFull_5 ?_
  refine lv_icmp_lt (tgt := 15) hx hb dX4_isFull_8 (by decide) (fun c_1 => ?_) (fun c_1 => ?_)
  · have h := ifp c_1 h
    refine lv_iconst (v := (0 : Int32)) hx hb dX4_isFull_15 (by decide) ?_
    obtain rfl := Option.some.inj h
    exact hRet hP hD hS zb_0 dX4_isFull_16
  · have h := ifn c_1 h
    refine lv_iconst (v := (1 : Int32)) hx hb dX4_isFull_11 (by decide) ?_
    refine lv_goto (tgt := 16) hx hb dX4_isFull_12 (by decide) ?_
    obtain rfl := Option.some.inj h
    exact hRet hP hD hS zb_1 dX4_isFull_16
abbrev rm_X4_put : Room := { frames := 0, cells := 0, slots := 0, locals := 0 }
theorem hd_X4_put : yX4_put.cls = RX4 ∧ yX4_put.cls ≠ "java/lang/invoke/MethodHandle" ∧ yX4_put.cls ≠ "java/lang/invoke/VarHandle" ∧ (parseMethodDescriptor yX4_put.desc).map (fun d => d.parameters.length) = some 3 := by decide +kernel
set_option maxHeartbeats 4000000 in
set_option maxRecDepth 100000 in
theorem c_X4_put {l : Launch} {G : va_G} {ca : Nat → ClassId} {ev : Nat → Nat} {r0 r1 : Nat} {limit : Int32} {width : Int32} {size : Int32} {cells : (Nat → Int32)} {nc : Nat} {a1 : Int32} {a2 : Int32} {a3 : Int32} {res : Int32 × (Nat → Int32)} (h : f_X4_put width size cells nc a1 a2 a3 = some res) : CtI l yX4_put wsX4_put rm_X4_put G ca ev [.ref r0, .int a1, .int a2, .int a3] (wR ca ev r0 r1 limit width size cells nc) (wR ca ev r0 r1 limit width size res.2 nc) res.1 := by
  unfold f_X4_put at h
  refine en_i (by decide) rfl (Nat.le_of_ble_eq_true rfl) ?_
  intro p e s m args below meth c A Q H locs ls hx hb hml hown hts hA hP hK hD hE hS hl hRet
  have hown : s.vm.findClass RX4 = some m.cls := hown
  have hl : lv_has ls 5 [(0, .ref r0), (1, .int a1), (2, .int a2), (3, .int a3)] := hl
  have hin_X4 : ∀ w ∈ u_ws RX4 TX4 4, w ∈ wsX4_put := fun w h9 => List.mem_cons_of_mem _ (List.mem_append_right _ h9)
  have fk_18 := hts (.fieldLink RX4 18 "MaskBows$Rows" "width" "I") (by decide +kernel)
  have fk_27 := hts (.fieldLink RX4 27 "MaskBows$Rows" "cells" "[I") (by decide +kernel)
  have fk_9 := hts (.fieldLink RX4 9 "MaskBows$Rows" "size" "I") (by decide +kernel)
  refine lv_iload_n hx hb dX4_put_0 rfl (lv_at hl 1 rfl) ?_
  refine lv_if_lt (tgt := 24) hx hb dX4_put_1 (by decide) (fun c_1 => ?_) (fun c_1 => ?_)
  · have h := ifp c_1 h
    refine lv_iconst (v := (0 : Int32)) hx hb dX4_put_24 (by decide) ?_
    obtain rfl := Option.some.inj h
    exact hRet hP hD hS dX4_put_25
  · have h := ifn c_1 h
    refine lv_iload_n hx hb dX4_put_4 rfl (lv_at hl 1 rfl) ?_
    refine lv_aload_n hx hb dX4_put_5 rfl (lv_at hl 0 rfl) ?_
    refine va_get (D := G) (ci := 4) (v := .int size) (C := RX4) (T := TX4) (N := 4) hx hb hts hin_X4 hown hK hP 0 rfl rfl 3 (by decide) fk_9 (fun _ h9 => h9) rfl dX4_put_6 ?_
    refine lv_icmp_ge (tgt := 24) hx hb dX4_put_9 (by decide) (fun c_2 => ?_) (fun c_2 => ?_)
    · have h := ifp c_2 h
      refine lv_iconst (v := (0 : Int32)) hx hb dX4_put_24 (by decide) ?_
      obtain rfl := Option.some.inj h
      exact hRet hP hD hS dX4_put_25
    · have h := ifn c_2 h
      refine lv_iload_n hx hb dX4_put_12 rfl (lv_at hl 2 rfl) ?_
      refine lv_if_lt (tgt := 24) hx hb dX4_put_13 (by decide) (fun c_3 => ?_) (fun c_3 => ?_)
      · have h := ifp c_3 h
        refine lv_iconst (v := (0 : Int32)) hx hb dX4_put_24 (by decide) ?_
        obtain rfl := Option.some.inj h
        exact hRet hP hD hS dX4_put_25
      · have h := ifn c_3 h
        refine lv_iload_n hx hb dX4_put_16 rfl (lv_at hl 2 rfl) ?_
        refine lv_aload_n hx hb dX4_put_17 rfl (lv_at hl 0 rfl) ?_
        refine va_get (D := G) (ci := 4) (v := .int width) (C := RX4) (T := TX4) (N := 4) hx hb hts hin_X4 hown hK hP 0 rfl rfl 1 (by decide) fk_18 (fun _ h9 => h9) rfl dX4_put_18 ?_
        refine lv_icmp_lt (tgt := 26) hx hb dX4_put_21 (by decide) (fun c_4 => ?_) (fun c_4 => ?_)
        · have h := ifp c_4 h
          refine lv_aload_n hx hb dX4_put_26 rfl (lv_at hl 0 rfl) ?_
          refine va_get (D := G) (ci := 4) (v := .ref r1) (C := RX4) (T := TX4) (N := 4) hx hb hts hin_X4 hown hK hP 0 rfl rfl 2 (by decide) fk_27 (fun _ h9 => h9) rfl dX4_put_27 ?_
          refine lv_iload_n hx hb dX4_put_30 rfl (lv_at hl 1 rfl) ?_
          refine lv_aload_n hx hb dX4_put_31 rfl (lv_at hl 0 rfl) ?_
          refine va_get (D := G) (ci := 4) (v := .int width) (C := RX4) (T := TX4) (N := 4) hx hb hts hin_X4 hown hK hP 0 rfl rfl 1 (by decide) fk_18 (fun _ h9 => h9) rfl dX4_put_32 ?_
          refine lv_imul hx hb dX4_put_35 ?_
          refine lv_iload_n hx hb dX4_put_36 rfl (lv_at hl 2 rfl) ?_
          refine lv_iadd hx hb dX4_put_37 ?_
          obtain ⟨i_5, h⟩ := gd_some h
          refine va_iald hx hb hK hP 1 0 rfl rfl (ix_in i_5) dX4_put_38 ?_
          refine lv_istore (lv' := [(4, .int (cells ((a1 * width) + a2).toNatClampNeg)), (0, .ref r0), (1, .int a1), (2, .int a2), (3, .int a3)]) hx hb dX4_put_39 hl (by decide) rfl (fun ls hl => ?_)
          refine lv_aload_n hx hb dX4_put_41 rfl (lv_at hl 1 rfl) ?_
          refine va_get (D := G) (ci := 4) (v := .ref r1) (C := RX4) (T := TX4) (N := 4) hx hb hts hin_X4 hown hK hP 0 rfl rfl 2 (by decide) fk_27 (fun _ h9 => h9) rfl dX4_put_42 ?_
          refine lv_iload_n hx hb dX4_put_45 rfl (lv_at hl 2 rfl) ?_
          refine lv_aload_n hx hb dX4_put_46 rfl (lv_at hl 1 rfl) ?_
          refine va_get (D := G) (ci := 4) (v := .int width) (C := RX4) (T := TX4) (N := 4) hx hb hts hin_X4 hown hK hP 0 rfl rfl 1 (by decide) fk_18 (fun _ h9 => h9) rfl dX4_put_47 ?_
          refine lv_imul hx hb dX4_put_50 ?_
          refine lv_iload_n hx hb dX4_put_51 rfl (lv_at hl 3 rfl) ?_
          refine lv_iadd hx hb dX4_put_52 ?_
          refine lv_iload_n hx hb dX4_put_53 rfl (lv_at hl 4 rfl) ?_
          refine va_iast hx hb hK hP hD hS 1 0 rfl rfl (ix_in i_5) dX4_put_54 (fun H locs hP hD hS => ?_)
          have hP : va_P G vwCl (wR ca ev r0 r1 limit width size (upd cells ((a1 * width) + a2).toNatClampNeg a3) nc) H := hP
          have hD : va_D A (wR ca ev r0 r1 limit width size (upd cells ((a1 * width) + a2).toNatClampNeg a3) nc) := hD
          refine lv_iload hx hb dX4_put_55 (lv_at hl 0 rfl) ?_
          obtain rfl := Option.some.inj h
          exact hRet hP hD hS dX4_put_57
        · have h := ifn c_4 h
          refine lv_iconst (v := (0 : Int32)) hx hb dX4_put_24 (by decide) ?_
          obtain rfl := Option.some.inj h
          exact hRet hP hD hS dX4_put_25
abbrev rm_X4_add : Room := { frames := 1, cells := 0, slots := 0, locals := 24 }
theorem hd_X4_add : yX4_add.cls = RX4 ∧ yX4_add.cls ≠ "java/lang/invoke/MethodHandle" ∧ yX4_add.cls ≠ "java/lang/invoke/VarHandle" ∧ (parseMethodDescriptor yX4_add.desc).map (fun d => d.parameters.length) = some 4 := by decide +kernel
set_option maxHeartbeats 4000000 in
set_option maxRecDepth 100000 in
theorem c_X4_add {l : Launch} {G : va_G} {ca : Nat → ClassId} {ev : Nat → Nat} {r0 r1 : Nat} {limit : Int32} {width : Int32} {size : Int32} {cells : (Nat → Int32)} {nc : Nat} {a1 : Int32} {a2 : Int32} {a3 : Int32} {a4 : Int32} {res : Int32 × Int32 × (Nat → Int32)} (h : f_X4_add limit width size cells nc a1 a2 a3 a4 = some res) : CtI l yX4_add wsX4_add rm_X4_add G ca ev [.ref r0, .int a1, .int a2, .int a3, .int a4] (wR ca ev r0 r1 limit width size cells nc) (wR ca ev r0 r1 limit width res.2.1 res.2.2 nc) res.1 := by
  unfold f_X4_add at h
  refine en_i (by decide) rfl (Nat.le_of_ble_eq_true rfl) ?_
  intro p e s m args below meth c A Q H locs ls hx hb hml hown hts hA hP hK hD hE hS hl hRet
  have hown : s.vm.findClass RX4 = some m.cls := hown
  have hl : lv_has ls 6 [(0, .ref r0), (1, .int a1), (2, .int a2), (3, .int a3), (4, .int a4)] := hl
  have hin_X4 : ∀ w ∈ u_ws RX4 TX4 4, w ∈ wsX4_add := fun w h9 => List.mem_cons_of_mem _ (List.mem_append_right _ h9)
  have fk_9 := hts (.fieldLink RX4 9 "MaskBows$Rows" "size" "I") (by decide +kernel)
  refine lv_aload_n hx hb dX4_add_0 rfl (lv_at hl 0 rfl) ?_
  obtain ⟨u_1, e_1, h⟩ := bd_some h
  refine cm_Vi (As := []) (rest := []) ⟨hx, hb, hml, hown, hts⟩ (c_X4_isFull (ca := ca) (ev := ev) (r0 := r0) (r1 := r1) (limit := limit) (width := width) (size := size) (cells := cells) (nc := nc) e_1) (cwV 0 hts gX4_add_X4_isFull rfl rfl rfl hd_X4_isFull ⟨Nat.le_of_ble_eq_true rfl, Nat.le_of_ble_eq_true rfl⟩) hK hP hD hS hA hE (q0 := 0) (ci := 4) rfl rfl rfl rfl hl.1 rfl (Nat.le_of_ble_eq_true rfl) dX4_add_1 ⟨Nat.zero_le _, Nat.zero_le _⟩ (fun H locs hP hD hS => ?_)
  refine lv_if_eq (tgt := 9) hx hb dX4_add_4 (by decide) (fun c_2 => ?_) (fun c_2 => ?_)
  · have h := ifp c_2 h
    refine lv_aload_n hx hb dX4_add_9 rfl (lv_at hl 0 rfl) ?_
    refine va_get (D := G) (ci := 4) (v := .int size) (C := RX4) (T := TX4) (N := 4) hx hb hts hin_X4 hown hK hP 0 rfl rfl 3 (by decide) fk_9 (fun _ h9 => h9) rfl dX4_add_10 ?_
    refine lv_istore (lv' := [(5, .int size), (0, .ref r0), (1, .int a1), (2, .int a2), (3, .int a3), (4, .int a4)]) hx hb dX4_add_13 hl (by decide) rfl (fun ls hl => ?_)
    refine lv_aload_n hx hb dX4_add_15 rfl (lv_at hl 1 rfl) ?_
    refine lv_dup hx hb dX4_add_16 rfl ?_
    refine va_get (D := G) (ci := 4) (v := .int size) (C := RX4) (T := TX4) (N := 4) hx hb hts hin_X4 hown hK hP 0 rfl rfl 3 (by decide) fk_9 (fun _ h9 => h9) rfl dX4_add_17 ?_
    refine lv_iconst (v := (1 : Int32)) hx hb dX4_add_20 (by decide) ?_
    refine lv_iadd hx hb dX4_add_21 ?_
    refine va_put (D := G) (ci := 4) (v := .int (size + (1 : Int32))) (ty := .int) (C := RX4) (T := TX4) (N := 4) hx hb hts hin_X4 tyX4 tyX4_ok nmX4 hown hK hP hD hS 0 rfl rfl 3 (by decide) fk_9 (fun _ h9 => h9) rfl (tyX4_ok 3 (by decide)) rfl rfl (Nat.le_of_ble_eq_true rfl) dX4_add_22 (fun H locs hP hD hS => ?_)
    have hP : va_P G vwCl (wR ca ev r0 r1 limit width (size + (1 : Int32)) cells nc) H := hP
    have hD : va_D A (wR ca ev r0 r1 limit width (size + (1 : Int32)) cells nc) := hD
    refine lv_aload_n hx hb dX4_add_25 rfl (lv_at hl 1 rfl) ?_
    refine lv_iload hx hb dX4_add_26 (lv_at hl 0 rfl) ?_
    refine lv_iconst (v := (0 : Int32)) hx hb dX4_add_28 (by decide) ?_
    refine lv_iload_n hx hb dX4_add_29 rfl (lv_at hl 2 rfl) ?_
    obtain ⟨u_3, e_3, h⟩ := bd_some h
    refine cm_Vi (As := [.int size, .int (0 : Int32), .int a1]) (rest := []) ⟨hx, hb, hml, hown, hts⟩ (c_X4_put (ca := ca) (ev := ev) (r0 := r0) (r1 := r1) (limit := limit) (width := width) (size := (size + (1 : Int32))) (cells := cells) (nc := nc) e_3) (cwV 3 hts gX4_add_X4_put rfl rfl rfl hd_X4_put ⟨Nat.le_of_ble_eq_true rfl, Nat.le_of_ble_eq_true rfl⟩) hK hP hD hS hA hE (q0 := 0) (ci := 4) rfl rfl rfl rfl hl.1 rfl (Nat.le_of_ble_eq_true rfl) dX4_add_30 ⟨Nat.zero_le _, Nat.zero_le _⟩ (fun H locs hP hD hS => ?_)
    refine lv_pop hx hb dX4_add_33 rfl ?_
    refine lv_aload_n hx hb dX4_add_34 rfl (lv_at hl 1 rfl) ?_
    refine lv_iload hx hb dX4_add_35 (lv_at hl 0 rfl) ?_
    refine lv_iconst (v := (1 : Int32)) hx hb dX4_add_37 (by decide) ?_
    refine lv_iload_n hx hb dX4_add_38 rfl (lv_at hl 3 rfl) ?_
    obtain ⟨u_4, e_4, h⟩ := bd_some h
    refine cm_Vi (As := [.int size, .int (1 : Int32), .int a2]) (rest := []) ⟨hx, hb, hml, hown, hts⟩ (c_X4_put (ca := ca) (ev := ev) (r0 := r0) (r1 := r1) (limit := limit) (width := width) (size := (size + (1 : Int32))) (cells := u_3.2) (nc := nc) e_4) (cwV 3 hts gX4_add_X4_put rfl rfl rfl hd_X4_put ⟨Nat.le_of_ble_eq_true rfl, Nat.le_of_ble_eq_true rfl⟩) hK hP hD hS hA hE (q0 := 0) (ci := 4) rfl rfl rfl rfl hl.1 rfl (Nat.le_of_ble_eq_true rfl) dX4_add_39 ⟨Nat.zero_le _, Nat.zero_le _⟩ (fun H locs hP hD hS => ?_)
    refine lv_pop hx hb dX4_add_42 rfl ?_
    refine lv_aload_n hx hb dX4_add_43 rfl (lv_at hl 1 rfl) ?_
    refine lv_iload hx hb dX4_add_44 (lv_at hl 0 rfl) ?_
    refine lv_iconst (v := (2 : Int32)) hx hb dX4_add_46 (by decide) ?_
    refine lv_iload_n hx hb dX4_add_47 rfl (lv_at hl 4 rfl) ?_
    obtain ⟨u_5, e_5, h⟩ := bd_some h
    refine cm_Vi (As := [.int size, .int (2 : Int32), .int a3]) (rest := []) ⟨hx, hb, hml, hown, hts⟩ (c_X4_put (ca := ca) (ev := ev) (r0 := r0) (r1 := r1) (limit := limit) (width := width) (size := (size + (1 : Int32))) (cells := u_4.2) (nc := nc) e_5) (cwV 3 hts gX4_add_X4_put rfl rfl rfl hd_X4_put ⟨Nat.le_of_ble_eq_true rfl, Nat.le_of_ble_eq_true rfl⟩) hK hP hD hS hA hE (q0 := 0) (ci := 4) rfl rfl rfl rfl hl.1 rfl (Nat.le_of_ble_eq_true rfl) dX4_add_48 ⟨Nat.zero_le _, Nat.zero_le _⟩ (fun H locs hP hD hS => ?_)
    refine lv_pop hx hb dX4_add_51 rfl ?_
    refine lv_aload_n hx hb dX4_add_52 rfl (lv_at hl 1 rfl) ?_
    refine lv_iload hx hb dX4_add_53 (lv_at hl 0 rfl) ?_
    refine lv_iconst (v := (3 : Int32)) hx hb dX4_add_55 (by decide) ?_
    refine lv_iload hx hb dX4_add_56 (lv_at hl 5 rfl) ?_
    obtain ⟨u_6, e_6, h⟩ := bd_some h
    refine cm_Vi (As := [.int size, .int (3 : Int32), .int a4]) (rest := []) ⟨hx, hb, hml, hown, hts⟩ (c_X4_put (ca := ca) (ev := ev) (r0 := r0) (r1 := r1) (limit := limit) (width := width) (size := (size + (1 : Int32))) (cells := u_5.2) (nc := nc) e_6) (cwV 3 hts gX4_add_X4_put rfl rfl rfl hd_X4_put ⟨Nat.le_of_ble_eq_true rfl, Nat.le_of_ble_eq_true rfl⟩) hK hP hD hS hA hE (q0 := 0) (ci := 4) rfl rfl rfl rfl hl.1 rfl (Nat.le_of_ble_eq_true rfl) dX4_add_58 ⟨Nat.zero_le _, Nat.zero_le _⟩ (fun H locs hP hD hS => ?_)
    refine lv_pop hx hb dX4_add_61 rfl ?_
    refine lv_iload hx hb dX4_add_62 (lv_at hl 0 rfl) ?_
    obtain rfl := Option.some.inj h
    exact hRet hP hD hS dX4_add_64
  · have h := ifn c_2 h
    refine lv_iconst (v := (-1 : Int32)) hx hb dX4_add_7 (by decide) ?_
    obtain rfl := Option.some.inj h
    exact hRet hP hD hS dX4_add_8
abbrev rm_X0_addDeed : Room := { frames := 2, cells := 0, slots := 0, locals := 49 }
theorem hd_X0_addDeed : yX0_addDeed.cls = RX0 ∧ yX0_addDeed.cls ≠ "java/lang/invoke/MethodHandle" ∧ yX0_addDeed.cls ≠ "java/lang/invoke/VarHandle" ∧ (parseMethodDescriptor yX0_addDeed.desc).map (fun d => d.parameters.length) = some 5 := by decide +kernel
set_option maxHeartbeats 4000000 in
set_option maxRecDepth 100000 in
theorem c_X0_addDeed {l : Launch} {G : va_G} {ca : Nat → ClassId} {ev : Nat → Nat} {c0 c1 c2 c3 c4 c5 c6 : Nat} {bsize : Int32} {bcells : (Nat → Int32)} {ssize : Int32} {scells : (Nat → Int32)} {dsize : Int32} {dcells : (Nat → Int32)} {people : Int32} {rule : Int32} {believed : Int32} {a1 : Int32} {a2 : Int32} {a3 : Int32} {a4 : Int32} {a5 : Int32} {res : Int32 × Int32 × (Nat → Int32)} (h : f_X0_addDeed dsize dcells a1 a2 a3 a4 a5 = some res) : CtI l yX0_addDeed wsX0_addDeed rm_X0_addDeed G ca ev [.ref c0, .int a1, .int a2, .int a3, .int a4, .int a5] (wC ca ev c0 c1 c2 c3 c4 c5 c6 bsize bcells ssize scells dsize dcells people rule believed) (wC ca ev c0 c1 c2 c3 c4 c5 c6 bsize bcells ssize scells res.2.1 res.2.2 people rule believed) res.1 := by
  unfold f_X0_addDeed at h
  refine en_i (by decide) rfl (Nat.le_of_ble_eq_true rfl) ?_
  intro p e s m args below meth c A Q H locs ls hx hb hml hown hts hA hP hK hD hE hS hl hRet
  have hown : s.vm.findClass RX0 = some m.cls := hown
  have hl : lv_has ls 7 [(0, .ref c0), (1, .int a1), (2, .int a2), (3, .int a3), (4, .int a4), (5, .int a5)] := hl
  have hin_X0 : ∀ w ∈ u_ws RX0 TX0 6, w ∈ wsX0_addDeed := fun w h9 => List.mem_cons_of_mem _ (List.mem_append_left _ (List.mem_append_right _ h9))
  have fk_23 := hts (.fieldLink RX0 23 "MaskBows$Carnival" "deeds" "LMaskBows$Rows;") (by decide +kernel)
  refine lv_aload_n hx hb dX0_addDeed_0 rfl (lv_at hl 0 rfl) ?_
  refine va_get (D := G) (ci := 0) (v := .ref c5) (C := RX0) (T := TX0) (N := 6) hx hb hts hin_X0 hown hK hP 0 rfl rfl 2 (by decide) fk_23 (fun _ h9 => h9) rfl dX0_addDeed_1 ?_
  refine lv_iload_n hx hb dX0_addDeed_4 rfl (lv_at hl 1 rfl) ?_
  refine lv_iload_n hx hb dX0_addDeed_5 rfl (lv_at hl 2 rfl) ?_
  refine lv_iload_n hx hb dX0_addDeed_6 rfl (lv_at hl 3 rfl) ?_
  refine lv_iload hx hb dX0_addDeed_7 (lv_at hl 4 rfl) ?_
  obtain ⟨u_1, e_1, h⟩ := bd_some h
  refine cl_Vi (As := [.int a1, .int a2, .int a3, .int a4]) (rest := []) (Wn := (wC ca ev c0 c1 c2 c3 c4 c5 c6 bsize bcells ssize scells u_1.2.1 u_1.2.2 people rule believed)) ⟨hx, hb, hml, hown, hts⟩ (c_X4_add (ca := ca) (ev := ev) (r0 := c5) (r1 := c6) (limit := (12 : Int32)) (width := (5 : Int32)) (size := dsize) (cells := dcells) (nc := 60) e_1) (cwV 4 hts gX0_addDeed_X4_add rfl rfl rfl hd_X4_add ⟨Nat.le_of_ble_eq_true rfl, Nat.le_of_ble_eq_true rfl⟩) hK hP hD hS hA hE wp_7 (q0 := 0) (ci := 4) rfl rfl rfl rfl hl.1 rfl (Nat.le_of_ble_eq_true rfl) dX0_addDeed_9 ⟨Nat.zero_le _, Nat.zero_le _⟩ (fun H locs hP hD hS => ?_)
  refine lv_istore (lv' := [(6, .int u_1.1), (0, .ref c0), (1, .int a1), (2, .int a2), (3, .int a3), (4, .int a4), (5, .int a5)]) hx hb dX0_addDeed_12 hl (by decide) rfl (fun ls hl => ?_)
  refine lv_aload_n hx hb dX0_addDeed_14 rfl (lv_at hl 1 rfl) ?_
  refine va_get (D := G) (ci := 0) (v := .ref c5) (C := RX0) (T := TX0) (N := 6) hx hb hts hin_X0 hown hK hP 0 rfl rfl 2 (by decide) fk_23 (fun _ h9 => h9) rfl dX0_addDeed_15 ?_
  refine lv_iload hx hb dX0_addDeed_18 (lv_at hl 0 rfl) ?_
  refine lv_iconst (v := (4 : Int32)) hx hb dX0_addDeed_20 (by decide) ?_
  refine lv_iload hx hb dX0_addDeed_21 (lv_at hl 6 rfl) ?_
  obtain ⟨u_2, e_2, h⟩ := bd_some h
  refine cl_Vi (As := [.int u_1.1, .int (4 : Int32), .int a5]) (rest := []) (Wn := (wC ca ev c0 c1 c2 c3 c4 c5 c6 bsize bcells ssize scells u_1.2.1 u_2.2 people rule believed)) ⟨hx, hb, hml, hown, hts⟩ (c_X4_put (ca := ca) (ev := ev) (r0 := c5) (r1 := c6) (limit := (12 : Int32)) (width := (5 : Int32)) (size := u_1.2.1) (cells := u_1.2.2) (nc := 60) e_2) (cwV 3 hts gX0_addDeed_X4_put rfl rfl rfl hd_X4_put ⟨Nat.le_of_ble_eq_true rfl, Nat.le_of_ble_eq_true rfl⟩) hK hP hD hS hA hE wp_7 (q0 := 0) (ci := 4) rfl rfl rfl rfl hl.1 rfl (Nat.le_of_ble_eq_true rfl) dX0_addDeed_23 ⟨Nat.zero_le _, Nat.zero_le _⟩ (fun H locs hP hD hS => ?_)
  refine lv_pop hx hb dX0_addDeed_26 rfl ?_
  refine lv_iload hx hb dX0_addDeed_27 (lv_at hl 0 rfl) ?_
  obtain rfl := Option.some.inj h
  exact hRet hP hD hS dX0_addDeed_29
