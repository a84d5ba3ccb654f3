/-! ===== the class's nights ===== -/
theorem lt8_bit {u k : Nat} (h : u < 8) (hk : 3 ≤ k) : u.testBit k = false := Nat.testBit_lt_two_pow (Nat.lt_of_lt_of_le h (Nat.pow_le_pow_right (n := 2) (by decide) hk))
theorem b2_or (a b : Bool) : b2 a ||| b2 b = b2 (a || b) := by cases a <;> cases b <;> rfl
theorem nat_31 {k : Nat} (h : k < 32) : k &&& 31 = k := (Nat.and_two_pow_sub_one_eq_mod k 5).trans (Nat.mod_eq_of_lt h)
theorem c_wearer {w : Nat → Nat} {row : Int32} (h : RW w row) {m : Nat} (hm : m < 8) (hw : w m < 8) : f_X7_wearer row (nI m) = some (nI (w m)) := by
  obtain ⟨r, rfl, hr, hb⟩ := h
  unfold f_X7_wearer
  simp (disch := omega) only [bd_s, gd_tt, jn_s, lit32, gd_ix, nI_clamp, nI_add, pk_mul, nI_leI, nI_ltI, nI_eq, b2_0n, ite_f, ↓reduceIte, Bool.false_eq_true, Bool.true_eq_false, Nat.not_lt_zero, isb_b2, c_has, c_isHour, c_isKind, c_isPerson, m_isHour, m_isKind, m_isSheet, m_w, c_rN, c_rN2, cB, cF, cK, cN, cS, cM, cZ, mB, mF, mK, mN, mS, mM, mZ, nat_31, nI_shr, nI_and]
  congr 2
  apply Nat.eq_of_testBit_eq
  intro j
  rw [Nat.testBit_and, Nat.testBit_shiftRight, show (7 : Nat) = 2 ^ 3 - 1 from rfl, Nat.testBit_two_pow_sub_one]
  by_cases q : j < 3
  · rw [decide_eq_true q, Bool.and_true, hb m hm j q]
  · rw [decide_eq_false q, Bool.and_false, lt8_bit hw (by omega)]
theorem ub_bit {u a m k : Nat} (hu : u < 8) (hk : k < 3) : (u <<< (3 * a)).testBit (3 * m + k) = (decide (m = a) && u.testBit k) := by
  rw [Nat.testBit_shiftLeft]
  by_cases q : m = a
  · subst q
    rw [decide_eq_true (by omega), decide_eq_true rfl, show 3 * m + k - 3 * m = k by omega]
  · rw [decide_eq_false q, Bool.false_and]
    by_cases q2 : 3 * m + k ≥ 3 * a
    · rw [lt8_bit hu (by omega), Bool.and_false]
    · rw [decide_eq_false q2, Bool.false_and]
theorem shl_lt {u a : Nat} (hu : u < 8) (ha : a < 8) : u * 2 ^ (3 * a) < 2 ^ 24 := by
  have h1 : 2 ^ (3 * a) ≤ 2 ^ 21 := Nat.pow_le_pow_right (by decide) (by omega)
  have h2 : u * 2 ^ (3 * a) ≤ 7 * 2 ^ 21 := Nat.mul_le_mul (by omega) h1
  omega
theorem c_changed {w : Nat → Nat} {row : Int32} (h : RW w row) {a b : Nat} (ha : a < 8) (hb : b < 8) (hab : a ≠ b) (wa : w a < 8) (wb : w b < 8) : ∃ row', f_X7_changed row (nI a) (nI b) = some row' ∧ RW (swp w a b) row' := by
  have h' := h
  obtain ⟨r, rfl, hr, hbt⟩ := h
  have hu : w a ^^^ w b < 8 := Nat.xor_lt_two_pow (n := 3) wa wb
  refine ⟨nI (r ^^^ ((w a ^^^ w b) <<< (3 * a)) ^^^ ((w a ^^^ w b) <<< (3 * b))), ?_, _, rfl, ?_, fun m hm k hk => ?_⟩
  · have s1 := shl_lt hu ha
    have s2 := shl_lt hu hb
    unfold f_X7_changed
    rw [c_wearer h' ha wa, bd_s, c_wearer h' hb wb, bd_s]
    simp (disch := omega) only [bd_s, gd_tt, jn_s, lit32, gd_ix, nI_clamp, nI_add, pk_mul, nI_leI, nI_ltI, nI_eq, b2_0n, ite_f, ↓reduceIte, Bool.false_eq_true, Bool.true_eq_false, Nat.not_lt_zero, isb_b2, c_has, c_isHour, c_isKind, c_isPerson, m_isHour, m_isKind, m_isSheet, m_w, c_rN, c_rN2, cB, cF, cK, cN, cS, cM, cZ, mB, mF, mK, mN, mS, mM, mZ, nI_31, nI_xor, nI_shl]
  · have s1 := shl_lt hu ha
    have s2 := shl_lt hu hb
    rw [← Nat.shiftLeft_eq] at s1 s2
    exact Nat.xor_lt_two_pow (Nat.xor_lt_two_pow hr s1) s2
  · rw [Nat.testBit_xor, Nat.testBit_xor, ub_bit hu hk, ub_bit hu hk, hbt m hm k hk, Nat.testBit_xor]
    by_cases q : m = b
    · rw [q, swp_b, decide_eq_true rfl, decide_eq_false (fun z => hab z.symm)]
      cases (w a).testBit k <;> cases (w b).testBit k <;> rfl
    · by_cases q2 : m = a
      · rw [q2, swp_a, decide_eq_true rfl, decide_eq_false hab]
        cases (w a).testBit k <;> cases (w b).testBit k <;> rfl
      · rw [swp_n q2 q, decide_eq_false q, decide_eq_false q2]
        cases (w m).testBit k <;> rfl
theorem RW_home : RW st0.1 (nI 16434824) := by
  refine ⟨16434824, rfl, by decide, fun m hm k hk => ?_⟩
  have : ∀ m : Fin 8, ∀ k : Fin 3, (16434824 : Nat).testBit (3 * m.val + k.val) = m.val.testBit k.val := by decide
  exact this ⟨m, hm⟩ ⟨k, hk⟩
/-- who bowed to whom, a set of eight for each -/
def BT (s : Nst) (bt : Nat → Int32) : Prop := ∀ p, p < 8 → ∃ e : Nat, bt p = nI e ∧ e < 256 ∧ ∀ q, q < 8 → e.testBit q = s.2.1 p q
theorem c_note {s : Nst} {bt : Nat → Int32} (h : BT s bt) (hp : Pm s) {a b : Nat} (ha : a < 8) (hb : b < 8) (hab : a ≠ b) : ∃ bt', f_X2_noteBow bt (nI (s.1 a)) (nI (s.1 b)) = some (b2 (s.2.1 (s.1 a) (s.1 b)), bt') ∧ BT (stp s a b) bt' := by
  obtain ⟨g1, g2, g3, g4, g5⟩ := hp
  have hx := g1 a ha
  have hy := g1 b hb
  have hne : s.1 a ≠ s.1 b := fun e => hab (g2 a b ha hb e)
  obtain ⟨ex, x1, x2, x3⟩ := h _ hx
  obtain ⟨ey, y1, y2, y3⟩ := h _ hy
  have p1 : 2 ^ s.1 a < 2 ^ 8 := Nat.pow_lt_pow_right (by decide) hx
  have p2 : 2 ^ s.1 b < 2 ^ 8 := Nat.pow_lt_pow_right (by decide) hy
  have w1 : (upd bt (s.1 a) (nI (ex ||| 2 ^ s.1 b))) (s.1 b) = nI ey := by rw [pk_un (fun z => hne z.symm)]; exact y1
  refine ⟨upd (upd bt (s.1 a) (nI (ex ||| 2 ^ s.1 b))) (s.1 b) (nI (ey ||| 2 ^ s.1 a)), ?_, fun p hp8 => ?_⟩
  · unfold f_X2_noteBow
    simp (disch := omega) only [bd_s, gd_tt, jn_s, lit32, gd_ix, nI_clamp, nI_add, pk_mul, nI_leI, nI_ltI, nI_eq, b2_0n, ite_f, ↓reduceIte, Bool.false_eq_true, Bool.true_eq_false, Nat.not_lt_zero, isb_b2, c_has, c_isHour, c_isKind, c_isPerson, m_isHour, m_isKind, m_isSheet, m_w, c_rN, c_rN2, cB, cF, cK, cN, cS, cM, cZ, mB, mF, mK, mN, mS, mM, mZ, x1, nI_31, nI_bit, b2_1n, ite_b2n, nI_1shl, nI_or, w1, x3 _ hy, Bool.decide_eq_true]
  · by_cases q : p = s.1 b
    · refine ⟨ey ||| 2 ^ s.1 a, by rw [q, pk_us], Nat.or_lt_two_pow (n := 8) y2 p1, fun z hz => ?_⟩
      rw [Nat.testBit_or, y3 z hz, Nat.testBit_two_pow, q]
      show _ = (s.2.1 (s.1 b) z || (decide (s.1 b = s.1 a) && decide (z = s.1 b)) || (decide (s.1 b = s.1 b) && decide (z = s.1 a)))
      rw [decide_eq_false (p := s.1 b = s.1 a) (fun w => hne w.symm), decide_eq_true (p := s.1 b = s.1 b) rfl, Bool.false_and, Bool.or_false, Bool.true_and]
      congr 1
      exact decide_eq_decide.mpr eq_comm
    · by_cases q2 : p = s.1 a
      · refine ⟨ex ||| 2 ^ s.1 b, by rw [pk_un q, q2, pk_us], Nat.or_lt_two_pow (n := 8) x2 p2, fun z hz => ?_⟩
        rw [Nat.testBit_or, x3 z hz, Nat.testBit_two_pow, q2]
        show _ = (s.2.1 (s.1 a) z || (decide (s.1 a = s.1 a) && decide (z = s.1 b)) || (decide (s.1 a = s.1 b) && decide (z = s.1 a)))
        rw [decide_eq_false hne, decide_eq_true (p := s.1 a = s.1 a) rfl, Bool.false_and, Bool.or_false, Bool.true_and]
        congr 1
        exact decide_eq_decide.mpr eq_comm
      · obtain ⟨ep, z1, z2, z3⟩ := h p hp8
        refine ⟨ep, by rw [pk_un q, pk_un q2]; exact z1, z2, fun z hz => ?_⟩
        rw [z3 z hz]
        show _ = (s.2.1 p z || (decide (p = s.1 a) && decide (z = s.1 b)) || (decide (p = s.1 b) && decide (z = s.1 a)))
        rw [decide_eq_false q, decide_eq_false q2]; simp
/-- the order, the steps, the doubts -/
theorem c_hour {v : Nat → Nat} {cells : Nat → Int32} (h : ∀ j, j < 80 → cells j = nI (v (6 + j))) {b : Nat} (hb : b < v 3) (h3 : v 3 ≤ 20) : f_X2_hourOf (nI (v 3)) cells (nI b) = some (nI (hr v b)) := by
  unfold f_X2_hourOf
  rw [show (4 : Int32) = nI 4 from rfl, show (0 : Int32) = nI 0 from rfl, c_bow h hb h3 (by decide), bd_s]; rfl
theorem hr_v {v : Nat → Nat} (hv : Vd v) {b : Nat} (hb : b < v 3) : hr v b < 100 := (vd_b hv b hb).1
theorem c_ord18 {v : Nat → Nat} {cells : Nat → Int32} (h : ∀ j, j < 80 → cells j = nI (v (6 + j))) (hv : Vd v) {b : Nat} (hb : b < v 3) : ∀ a n (order : Nat → Int32) (o : Nat → Nat), a ≤ b → a < n → (∀ j, j ≤ b → j ≠ a → order j = nI (o j)) → (∀ j, j ≤ b → j ≠ a → o j < b) →
    ∃ r, f_X2_orderBows_12 (nI b) (nI (v 3)) cells n (nI a) order = some (nI (shf (hr v) b a o).1, r) ∧ ∀ j, j ≤ b → j ≠ (shf (hr v) b a o).1 → r j = nI ((shf (hr v) b a o).2 j)
  | 0, n, order, o, ha, hn, ho, hl => by
    cases n with
    | zero => omega
    | succ n =>
      refine ⟨order, ?_, ho⟩
      simp (disch := omega) only [f_X2_orderBows_12, bd_s, gd_tt, jn_s, lit32, gd_ix, nI_clamp, nI_add, pk_mul, nI_leI, nI_ltI, nI_eq, b2_0n, ite_f, ↓reduceIte, Bool.false_eq_true, Bool.true_eq_false, Nat.not_lt_zero, isb_b2, c_has, c_isHour, c_isKind, c_isPerson, m_isHour, m_isKind, m_isSheet, m_w, c_rN, c_rN2, cB, cF, cK, cN, cS, cM, cZ, mB, mF, mK, mN, mS, mM, mZ, Nat.le_refl]
      rfl
  | a + 1, n, order, o, ha, hn, ho, hl => by
    have h3 := vd_3 hv
    cases n with
    | zero => omega
    | succ n =>
      have e1 : order a = nI (o a) := ho a (by omega) (by omega)
      have e2 := hl a (by omega) (by omega)
      have b1 := hr_v hv (b := o a) (by omega)
      have b2 := hr_v hv (b := b) (by omega)
      have hc : ¬ a + 1 ≤ 0 := by omega
      by_cases q : hr v (o a) ≤ hr v b
      · refine ⟨order, ?_, fun j hj hja => ?_⟩
        · simp (disch := omega) only [f_X2_orderBows_12, bd_s, gd_tt, jn_s, lit32, gd_ix, nI_clamp, nI_add, pk_mul, nI_leI, nI_ltI, nI_eq, b2_0n, ite_f, ↓reduceIte, Bool.false_eq_true, Bool.true_eq_false, Nat.not_lt_zero, isb_b2, c_has, c_isHour, c_isKind, c_isPerson, m_isHour, m_isKind, m_isSheet, m_w, c_rN, c_rN2, cB, cF, cK, cN, cS, cM, cZ, mB, mF, mK, mN, mS, mM, mZ, nI_sub1, hc, e1, c_hour h, q]
          rw [show shf (hr v) b (a + 1) o = (a + 1, o) from if_pos q]
        · rw [show shf (hr v) b (a + 1) o = (a + 1, o) from if_pos q] at hja ⊢; exact ho j hj hja
      · obtain ⟨r, h1, h2⟩ := c_ord18 h hv hb a n (upd order (a + 1) (nI (o a))) (un o (a + 1) (o a)) (by omega) (by omega) (fun j hj hja => by
          by_cases q : j = a + 1
          · rw [q, pk_us, un_s]
          · rw [pk_un q, un_n q]; exact ho j hj q) (fun j hj hja => by
          by_cases q : j = a + 1
          · rw [q, un_s]; exact e2
          · rw [un_n q]; exact hl j hj q)
        rw [show shf (hr v) b (a + 1) o = shf (hr v) b a (un o (a + 1) (o a)) from if_neg q]
        refine ⟨r, ?_, h2⟩
        simp (disch := omega) only [f_X2_orderBows_12, bd_s, gd_tt, jn_s, lit32, gd_ix, nI_clamp, nI_add, pk_mul, nI_leI, nI_ltI, nI_eq, b2_0n, ite_f, ↓reduceIte, Bool.false_eq_true, Bool.true_eq_false, Nat.not_lt_zero, isb_b2, c_has, c_isHour, c_isKind, c_isPerson, m_isHour, m_isKind, m_isSheet, m_w, c_rN, c_rN2, cB, cF, cK, cN, cS, cM, cZ, mB, mF, mK, mN, mS, mM, mZ, nI_sub1, nI_add1, hc, e1, c_hour h, q]
        exact h1
theorem c_ord2 {v : Nat → Nat} {cells : Nat → Int32} (h : ∀ j, j < 80 → cells j = nI (v (6 + j))) (hv : Vd v) {N : Nat} (hN : 2000 ≤ N) : ∀ d n k (order : Nat → Int32), k + d = v 3 → d < n → (∀ j, j < k → order j = nI (ord (hr v) k j)) →
    ∃ r1, f_X2_orderBows_2 N (nI (v 3)) (nI (v 3)) cells n (nI k) order = some r1 ∧ (∀ j, j < v 3 → r1 j = nI (od v j))
  | 0, n, k, order, hk, hn, ho => by
    have h3 := vd_3 hv
    cases n with
    | zero => omega
    | succ n =>
      have hc : v 3 ≤ k := by omega
      have hk : k = v 3 := by omega
      refine ⟨order, ?_, fun j hj => ?_⟩
      · simp (disch := omega) only [f_X2_orderBows_2, f_X4_size, bd_s, gd_tt, jn_s, lit32, gd_ix, nI_clamp, nI_add, pk_mul, nI_leI, nI_ltI, nI_eq, b2_0n, ite_f, ↓reduceIte, Bool.false_eq_true, Bool.true_eq_false, Nat.not_lt_zero, isb_b2, c_has, c_isHour, c_isKind, c_isPerson, m_isHour, m_isKind, m_isSheet, m_w, c_rN, c_rN2, cB, cF, cK, cN, cS, cM, cZ, mB, mF, mK, mN, mS, mM, mZ, hc]
      · rw [ho j (by omega), hk]; rfl
  | d + 1, n, k, order, hk, hn, ho => by
    have h3 := vd_3 hv
    cases n with
    | zero => omega
    | succ n =>
      have hc : ¬ v 3 ≤ k := by omega
      obtain ⟨r, e1, e2⟩ := c_ord18 h hv (b := k) (by omega) k N order (ord (hr v) k) (Nat.le_refl _) (by omega) (fun j hj hja => ho j (by omega)) (fun j hj hja => ord_lt _ _ _ (by omega))
      have hs := (shf_lt (hr v) k k (ord (hr v) k) (Nat.le_refl _) (fun j hj hn => ord_lt _ _ _ (by omega))).1
      obtain ⟨r1, g1, g2⟩ := c_ord2 h hv hN d n (k + 1) (upd r (shf (hr v) k k (ord (hr v) k)).1 (nI k)) (by omega) (by omega) (fun j hj => by
        show _ = nI (un _ _ k j)
        by_cases q : j = (shf (hr v) k k (ord (hr v) k)).1
        · rw [q, pk_us, un_s]
        · rw [pk_un q, un_n q]; exact e2 j (by omega) q)
      refine ⟨r1, ?_, g2⟩
      simp (disch := omega) only [f_X2_orderBows_2, f_X4_size, bd_s, gd_tt, jn_s, lit32, gd_ix, nI_clamp, nI_add, pk_mul, nI_leI, nI_ltI, nI_eq, b2_0n, ite_f, ↓reduceIte, Bool.false_eq_true, Bool.true_eq_false, Nat.not_lt_zero, isb_b2, c_has, c_isHour, c_isKind, c_isPerson, m_isHour, m_isKind, m_isSheet, m_w, c_rN, c_rN2, cB, cF, cK, cN, cS, cM, cZ, mB, mF, mK, mN, mS, mM, mZ, hc, e1]
      exact g1
theorem run_more {p : Nat → Bool} : ∀ m k, run p m k < k + m → p (run p m k) = false
  | 0, k, h => absurd h (Nat.lt_irrefl _)
  | m + 1, k, h => by
    unfold run at h ⊢
    by_cases q : p k = true
    · rw [if_pos q] at h ⊢; exact run_more m (k + 1) (by omega)
    · rw [if_neg q]; simpa using q
theorem run_true {p : Nat → Bool} : ∀ m k j, k ≤ j → j < run p m k → p j = true
  | 0, k, j, h1, h2 => absurd h2 (by show ¬ j < k; omega)
  | m + 1, k, j, h1, h2 => by
    unfold run at h2
    by_cases q : p k = true
    · rw [if_pos q] at h2
      by_cases q2 : j = k
      · rw [q2]; exact q
      · exact run_true m (k + 1) j (by omega) h2
    · rw [if_neg q] at h2; omega
theorem run_go {p : Nat → Bool} : ∀ d m k, k + d ≤ k + m → (∀ j, k ≤ j → j < k + d → p j = true) → run p m k = run p (m - d) (k + d)
  | 0, m, k, _, _ => rfl
  | d + 1, 0, k, h, _ => absurd h (by omega)
  | d + 1, m + 1, k, h, hp => by
    show (if p k = true then run p m (k + 1) else k) = _
    rw [if_pos (hp k (by omega) (by omega)), run_go d m (k + 1) (by omega) (fun j h1 h2 => hp j (by omega) (by omega))]
    rw [show m + 1 - (d + 1) = m - d by omega, show k + 1 + d = k + (d + 1) by omega]
theorem c_st10 {v : Nat → Nat} {cells order : Nat → Int32} (h : ∀ j, j < 80 → cells j = nI (v (6 + j))) (hv : Vd v) (ho : ∀ j, j < v 3 → order j = nI (od v j)) {hour : Nat} (hh : hour < 100) : ∀ d n k, k + d = v 3 → d < n → f_X2_countSteps_10 (nI hour) order (nI (v 3)) (nI (v 3)) cells n (nI k) = some (nI (run (fun k => decide (hr v (od v k) ≤ hour)) d k))
  | 0, n, k, hk, hn => by
    have h3 := vd_3 hv
    cases n with
    | zero => omega
    | succ n =>
      have hc : v 3 ≤ k := by omega
      simp (disch := omega) only [f_X2_countSteps_10, f_X4_size, bd_s, gd_tt, jn_s, lit32, gd_ix, nI_clamp, nI_add, pk_mul, nI_leI, nI_ltI, nI_eq, b2_0n, ite_f, ↓reduceIte, Bool.false_eq_true, Bool.true_eq_false, Nat.not_lt_zero, isb_b2, c_has, c_isHour, c_isKind, c_isPerson, m_isHour, m_isKind, m_isSheet, m_w, c_rN, c_rN2, cB, cF, cK, cN, cS, cM, cZ, mB, mF, mK, mN, mS, mM, mZ, hc]
      rfl
  | d + 1, n, k, hk, hn => by
    have h3 := vd_3 hv
    cases n with
    | zero => omega
    | succ n =>
      have hc : ¬ v 3 ≤ k := by omega
      have e1 := ho k (by omega)
      have hod : od v k < v 3 := od_lt (by omega)
      have hb := hr_v hv hod
      have ih := c_st10 h hv ho hh d n (k + 1) (by omega) (by omega)
      unfold run
      by_cases q : hr v (od v k) ≤ hour
      · have q2 : ¬ hour < hr v (od v k) := by omega
        simp (disch := omega) only [f_X2_countSteps_10, f_X4_size, bd_s, gd_tt, jn_s, lit32, gd_ix, nI_clamp, nI_add, pk_mul, nI_leI, nI_ltI, nI_eq, b2_0n, ite_f, ↓reduceIte, Bool.false_eq_true, Bool.true_eq_false, Nat.not_lt_zero, isb_b2, c_has, c_isHour, c_isKind, c_isPerson, m_isHour, m_isKind, m_isSheet, m_w, c_rN, c_rN2, cB, cF, cK, cN, cS, cM, cZ, mB, mF, mK, mN, mS, mM, mZ, hc, e1, c_hour h, q, q2, decide_true]
        exact ih
      · have q2 : hour < hr v (od v k) := by omega
        simp (disch := omega) only [f_X2_countSteps_10, f_X4_size, bd_s, gd_tt, jn_s, lit32, gd_ix, nI_clamp, nI_add, pk_mul, nI_leI, nI_ltI, nI_eq, b2_0n, ite_f, ↓reduceIte, Bool.false_eq_true, Bool.true_eq_false, Nat.not_lt_zero, isb_b2, c_has, c_isHour, c_isKind, c_isPerson, m_isHour, m_isKind, m_isSheet, m_w, c_rN, c_rN2, cB, cF, cK, cN, cS, cM, cZ, mB, mF, mK, mN, mS, mM, mZ, hc, e1, c_hour h, q, q2, decide_false]
theorem c_st4 {v : Nat → Nat} {cells order : Nat → Int32} (h : ∀ j, j < 80 → cells j = nI (v (6 + j))) (hv : Vd v) (ho : ∀ j, j < v 3 → order j = nI (od v j)) {N : Nat} (hN : 2000 ≤ N) : ∀ d n k s (st : Nat → Int32), k + d = 100 → d < n → s ≤ v 3 → (∀ j, j < s → hr v (od v j) ≤ k) → (∀ j, j < k → st j = nI (sts v j)) →
    ∃ r, f_X2_countSteps_4 N order (nI (v 3)) (nI (v 3)) cells n (nI s) (nI k) st = some r ∧ ∀ j, j < 100 → r j = nI (sts v j)
  | 0, n, k, s, st, hk, hn, hs, hp, hst => by
    cases n with
    | zero => omega
    | succ n =>
      have hc : 100 ≤ k := by omega
      refine ⟨st, ?_, fun j hj => hst j (by omega)⟩
      simp (disch := omega) only [f_X2_countSteps_4, bd_s, gd_tt, jn_s, lit32, gd_ix, nI_clamp, nI_add, pk_mul, nI_leI, nI_ltI, nI_eq, b2_0n, ite_f, ↓reduceIte, Bool.false_eq_true, Bool.true_eq_false, Nat.not_lt_zero, isb_b2, c_has, c_isHour, c_isKind, c_isPerson, m_isHour, m_isKind, m_isSheet, m_w, c_rN, c_rN2, cB, cF, cK, cN, cS, cM, cZ, mB, mF, mK, mN, mS, mM, mZ, hc]
  | d + 1, n, k, s, st, hk, hn, hs, hp, hst => by
    have h3 := vd_3 hv
    cases n with
    | zero => omega
    | succ n =>
      have hc : ¬ 100 ≤ k := by omega
      have e1 := c_st10 h hv ho (hour := k) (by omega) (v 3 - s) N s (by omega) (by omega)
      have e2 : run (fun j => decide (hr v (od v j) ≤ k)) (v 3 - s) s = sts v k := by
        have := run_go (p := fun j => decide (hr v (od v j) ≤ k)) s (v 3) 0 (by omega) (fun j h1 h2 => decide_eq_true (hp j (by omega)))
        rw [Nat.zero_add] at this
        exact this.symm
      rw [e2] at e1
      obtain ⟨r, g1, g2⟩ := c_st4 h hv ho hN d n (k + 1) (sts v k) (upd st k (nI (sts v k))) (by omega) (by omega) (sts_le v k) (fun j hj => by
        have := run_true (p := fun j => decide (hr v (od v j) ≤ k)) (v 3) 0 j (by omega) hj
        have := of_decide_eq_true this
        omega) (fun j hj => by
        by_cases q : j = k
        · rw [q, pk_us]
        · rw [pk_un q]; exact hst j (by omega))
      refine ⟨r, ?_, g2⟩
      simp (disch := omega) only [f_X2_countSteps_4, bd_s, gd_tt, jn_s, lit32, gd_ix, nI_clamp, nI_add, pk_mul, nI_leI, nI_ltI, nI_eq, b2_0n, ite_f, ↓reduceIte, Bool.false_eq_true, Bool.true_eq_false, Nat.not_lt_zero, isb_b2, c_has, c_isHour, c_isKind, c_isPerson, m_isHour, m_isKind, m_isSheet, m_w, c_rN, c_rN2, cB, cF, cK, cN, cS, cM, cZ, mB, mF, mK, mN, mS, mM, mZ, hc, e1]
      exact g1
theorem seb_lt (v : Nat → Nat) : ∀ k, seb v k < 2 ^ k
  | 0 => Nat.zero_lt_one
  | k + 1 => by
    have h1 := seb_lt v k
    have h2 : 2 ^ k < 2 ^ (k + 1) := Nat.pow_lt_pow_right (by decide) (by omega)
    unfold seb
    split
    · omega
    · exact Nat.or_lt_two_pow (by omega) h2
theorem seb_bit (v : Nat → Nat) (b : Nat) : ∀ k, (seb v k).testBit b = (decide (b < k) && !decide (v (6 + 4 * b + 3) < 10))
  | 0 => by show (0 : Nat).testBit b = _; rw [Nat.zero_testBit, decide_eq_false (by omega)]; rfl
  | k + 1 => by
    have ih := seb_bit v b k
    unfold seb
    by_cases q : v (6 + 4 * k + 3) < 10
    · rw [if_pos q, ih]
      by_cases e : b = k
      · rw [e, decide_eq_true q]; simp
      · rw [show decide (b < k + 1) = decide (b < k) from decide_eq_decide.mpr (by omega)]
    · rw [if_neg q, Nat.testBit_or, ih, Nat.testBit_two_pow]
      by_cases e : b = k
      · rw [e, decide_eq_false q]; simp
      · rw [show decide (b < k + 1) = decide (b < k) from decide_eq_decide.mpr (by omega), decide_eq_false (p := k = b) (fun w => e w.symm), Bool.or_false]
theorem c_isD {v : Nat → Nat} {cells : Nat → Int32} (h : ∀ j, j < 80 → cells j = nI (v (6 + j))) (hv : Vd v) {b : Nat} (hb : b < v 3) : f_X0_isDoubted (nI (v 3)) cells (nI b) = some (b2 (decide (v (6 + 4 * b + 3) < 10))) := by
  have h3 := vd_3 hv
  have := (vd_b hv b hb).2.2.2.2
  unfold f_X0_isDoubted
  simp (disch := omega) only [bd_s, gd_tt, jn_s, lit32, gd_ix, nI_clamp, nI_add, pk_mul, nI_leI, nI_ltI, nI_eq, b2_0n, ite_f, ↓reduceIte, Bool.false_eq_true, Bool.true_eq_false, Nat.not_lt_zero, isb_b2, c_has, c_isHour, c_isKind, c_isPerson, m_isHour, m_isKind, m_isSheet, m_w, c_rN, c_rN2, cB, cF, cK, cN, cS, cM, cZ, mB, mF, mK, mN, mS, mM, mZ, c_bow h, ite_b2m]
  congr 2
  rw [← decide_not]
  exact decide_eq_decide.mpr (by omega)
theorem c_find {v : Nat → Nat} {cells : Nat → Int32} (h : ∀ j, j < 80 → cells j = nI (v (6 + j))) (hv : Vd v) : ∀ d n k (doubts : Nat → Int32), k + d = v 3 → d < n → (∀ i, i < dbc v k → doubts i = nI (dth v i k)) →
    ∃ r, f_X2_findDoubts_12 (nI (v 3)) (nI (v 3)) cells n (nI k) doubts (nI (dbc v k)) (nI (seb v k)) = some (r, nI (dc v), nI (seb v (v 3))) ∧ ∀ i, i < dc v → r i = nI (dh v i)
  | 0, n, k, doubts, hk, hn, hd => by
    have h3 := vd_3 hv
    cases n with
    | zero => omega
    | succ n =>
      have hc : v 3 ≤ k := by omega
      have hk : k = v 3 := by omega
      refine ⟨doubts, ?_, fun i hi => by rw [hd i (by rw [hk]; exact hi), hk]; rfl⟩
      simp (disch := omega) only [f_X2_findDoubts_12, f_X4_size, bd_s, gd_tt, jn_s, lit32, gd_ix, nI_clamp, nI_add, pk_mul, nI_leI, nI_ltI, nI_eq, b2_0n, ite_f, ↓reduceIte, Bool.false_eq_true, Bool.true_eq_false, Nat.not_lt_zero, isb_b2, c_has, c_isHour, c_isKind, c_isPerson, m_isHour, m_isKind, m_isSheet, m_w, c_rN, c_rN2, cB, cF, cK, cN, cS, cM, cZ, mB, mF, mK, mN, mS, mM, mZ, hc]
      rw [hk]; rfl
  | d + 1, n, k, doubts, hk, hn, hd => by
    have h3 := vd_3 hv
    have hdc := vd_dc hv
    have hm : dbc v k ≤ dc v := dbc_mono v (by omega)
    cases n with
    | zero => omega
    | succ n =>
      have hc : ¬ v 3 ≤ k := by omega
      by_cases q : v (6 + 4 * k + 3) < 10
      · have hlt : dbc v k < dc v := dbc_lt v (by omega) q
        have h6 : ¬ 6 ≤ dbc v k := by omega
        have e5 : dbc v (k + 1) = dbc v k + 1 := by show dbc v k + _ = _; rw [if_pos q]
        have e6 : seb v (k + 1) = seb v k := if_pos q
        obtain ⟨r, g1, g2⟩ := c_find h hv d n (k + 1) (upd doubts (dbc v k) (nI k)) (by omega) (by omega) (fun i hi => by
          show _ = nI (if _ then k else dth v i k)
          by_cases qi : i = dbc v k
          · rw [qi, pk_us, if_pos ⟨q, rfl⟩]
          · rw [pk_un qi, if_neg (fun z => qi z.2.symm)]; exact hd i (by omega))
        refine ⟨r, ?_, g2⟩
        simp (disch := omega) only [f_X2_findDoubts_12, f_X4_size, bd_s, gd_tt, jn_s, lit32, gd_ix, nI_clamp, nI_add, pk_mul, nI_leI, nI_ltI, nI_eq, b2_0n, ite_f, ↓reduceIte, Bool.false_eq_true, Bool.true_eq_false, Nat.not_lt_zero, isb_b2, c_has, c_isHour, c_isKind, c_isPerson, m_isHour, m_isKind, m_isSheet, m_w, c_rN, c_rN2, cB, cF, cK, cN, cS, cM, cZ, mB, mF, mK, mN, mS, mM, mZ, hc, c_isD h hv, q, decide_true, h6]
        rw [e5, e6] at g1
        exact g1
      · have e5 : dbc v (k + 1) = dbc v k := by show dbc v k + _ = _; rw [if_neg q]; rfl
        have e6 : seb v (k + 1) = seb v k ||| 2 ^ k := if_neg q
        obtain ⟨r, g1, g2⟩ := c_find h hv d n (k + 1) doubts (by omega) (by omega) (fun i hi => by
          show _ = nI (if _ then k else dth v i k)
          rw [if_neg (fun z => q z.1)]; exact hd i (by omega))
        refine ⟨r, ?_, g2⟩
        simp (disch := omega) only [f_X2_findDoubts_12, f_X4_size, bd_s, gd_tt, jn_s, lit32, gd_ix, nI_clamp, nI_add, pk_mul, nI_leI, nI_ltI, nI_eq, b2_0n, ite_f, ↓reduceIte, Bool.false_eq_true, Bool.true_eq_false, Nat.not_lt_zero, isb_b2, c_has, c_isHour, c_isKind, c_isPerson, m_isHour, m_isKind, m_isSheet, m_w, c_rN, c_rN2, cB, cF, cK, cN, cS, cM, cZ, mB, mF, mK, mN, mS, mM, mZ, hc, c_isD h hv, q, decide_false, nI_31, nI_1shl, nI_or]
        rw [e5, e6] at g1
        exact g1
