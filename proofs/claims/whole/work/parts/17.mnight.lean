/-! ===== the reference's nights ===== -/
theorem sm64 {k : Nat} (h : k < 64) : ((lN k).toBitVec.smod 64).toNat = k := by
  have : ∀ k : Fin 64, ((lN k.val).toBitVec.smod 64).toNat = k.val := by decide
  exact this ⟨k, h⟩
theorem lN_shr {P k : Nat} (h : P < 2 ^ 63) (hk : k < 64) : lN P >>> lN k = lN (P >>> k) := by
  have hd : P / 2 ^ k ≤ P := Nat.div_le_self _ _
  apply Int64.toInt_inj.mp
  have e : (lN P >>> lN k).toInt = (lN P).toInt >>> ((lN k).toBitVec.smod 64).toNat := BitVec.toInt_sshiftRight ..
  rw [sm64 hk] at e
  rw [e, Int.shiftRight_eq_div_pow, pk_lT h, Nat.shiftRight_eq_div_pow, pk_lT (by omega)]
  rfl
theorem lN_shl {n k : Nat} (hk : k < 64) : lN n <<< lN k = lN (n * 2 ^ k) := by
  apply Int64.toBitVec_inj.mp
  apply BitVec.eq_of_toNat_eq
  rw [Int64.toBitVec_shiftLeft, BitVec.shiftLeft_eq', BitVec.toNat_shiftLeft, sm64 hk]
  show ((BitVec.ofNat 64 n).toNat <<< k) % 2 ^ 64 = (BitVec.ofNat 64 (n * 2 ^ k)).toNat
  rw [BitVec.toNat_ofNat, BitVec.toNat_ofNat, Nat.shiftLeft_eq, Nat.mul_mod, Nat.mod_mod, ← Nat.mul_mod]
theorem lN_1shl {k : Nat} (hk : k < 64) : lN 1 <<< lN k = lN (2 ^ k) := by
  rw [lN_shl hk, Nat.one_mul]
theorem nat_63 {k : Nat} (h : k < 64) : k &&& 63 = k := (Nat.and_two_pow_sub_one_eq_mod k 6).trans (Nat.mod_eq_of_lt h)
theorem nI_sub1 {a : Nat} : nI (a + 1) - nI 1 = nI a := nI_pred a
theorem nI_add1 {a : Nat} : nI (a + 1) + -nI 1 = nI a := pk_m1 a
theorem hr_bd {v : Nat → Nat} {now : Nat → Int32} (h : RN v now) {b : Nat} (hb : b < 20) : hr v b < 1000 := rn_bd h (k := 6 + 4 * b + 0) (by omega) (by omega) (by omega)
theorem m_hourIs {v : Nat → Nat} {now : Nat → Int32} (h : RN v now) {b : Nat} (hb : b < 20) : f_X8_bowIs now (nI b) (nI 0) = some (nI (hr v b)) := m_bowIs h hb (by decide)
theorem m_lay50 {v : Nat → Nat} {now : Nat → Int32} (h : RN v now) (h3 : v 3 ≤ 20) {b : Nat} (hb : b < v 3) : ∀ a n (order : Nat → Int32) (o : Nat → Nat), a ≤ b → a < n → (∀ j, j ≤ b → j ≠ a → order j = nI (o j)) → (∀ j, j ≤ b → j ≠ a → o j < b) →
    ∃ r, f_X8_lay_50 (nI b) now n (nI a) order = some (nI (shf (hr v) b a o).1, r) ∧ ∀ j, j ≤ b → j ≠ (shf (hr v) b a o).1 → r j = nI ((shf (hr v) b a o).2 j)
  | 0, n, order, o, ha, hn, ho, hl => by
    cases n with
    | zero => omega
    | succ n =>
      refine ⟨order, ?_, ho⟩
      simp (disch := omega) only [f_X8_lay_50, bd_s, gd_tt, jn_s, lit32, gd_ix, nI_clamp, nI_add, pk_mul, nI_leI, nI_ltI, nI_eq, b2_0n, ite_f, ↓reduceIte, Bool.false_eq_true, Bool.true_eq_false, Nat.not_lt_zero, isb_b2, c_has, c_isHour, c_isKind, c_isPerson, m_isHour, m_isKind, m_isSheet, m_w, c_rN, c_rN2, cB, cF, cK, cN, cS, cM, cZ, mB, mF, mK, mN, mS, mM, mZ, Nat.le_refl]
      rfl
  | a + 1, n, order, o, ha, hn, ho, hl => by
    cases n with
    | zero => omega
    | succ n =>
      have e1 : order a = nI (o a) := ho a (by omega) (by omega)
      have e2 := hl a (by omega) (by omega)
      have b1 := hr_bd h (b := o a) (by omega)
      have b2 := hr_bd h (b := b) (by omega)
      have hc : ¬ a + 1 ≤ 0 := by omega
      by_cases q : hr v (o a) ≤ hr v b
      · refine ⟨order, ?_, fun j hj hja => ?_⟩
        · simp (disch := omega) only [f_X8_lay_50, bd_s, gd_tt, jn_s, lit32, gd_ix, nI_clamp, nI_add, pk_mul, nI_leI, nI_ltI, nI_eq, b2_0n, ite_f, ↓reduceIte, Bool.false_eq_true, Bool.true_eq_false, Nat.not_lt_zero, isb_b2, c_has, c_isHour, c_isKind, c_isPerson, m_isHour, m_isKind, m_isSheet, m_w, c_rN, c_rN2, cB, cF, cK, cN, cS, cM, cZ, mB, mF, mK, mN, mS, mM, mZ, nI_sub1, hc, e1, m_hourIs h, q]
          rw [show shf (hr v) b (a + 1) o = (a + 1, o) from if_pos q]
        · rw [show shf (hr v) b (a + 1) o = (a + 1, o) from if_pos q] at hja ⊢; exact ho j hj hja
      · obtain ⟨r, h1, h2⟩ := m_lay50 h h3 hb a n (upd order (a + 1) (nI (o a))) (un o (a + 1) (o a)) (by omega) (by omega) (fun j hj hja => by
          by_cases q : j = a + 1
          · rw [q, pk_us, un_s]
          · rw [pk_un q, un_n q]; exact ho j hj q) (fun j hj hja => by
          by_cases q : j = a + 1
          · rw [q, un_s]; exact e2
          · rw [un_n q]; exact hl j hj q)
        rw [show shf (hr v) b (a + 1) o = shf (hr v) b a (un o (a + 1) (o a)) from if_neg q]
        refine ⟨r, ?_, h2⟩
        simp (disch := omega) only [f_X8_lay_50, bd_s, gd_tt, jn_s, lit32, gd_ix, nI_clamp, nI_add, pk_mul, nI_leI, nI_ltI, nI_eq, b2_0n, ite_f, ↓reduceIte, Bool.false_eq_true, Bool.true_eq_false, Nat.not_lt_zero, isb_b2, c_has, c_isHour, c_isKind, c_isPerson, m_isHour, m_isKind, m_isSheet, m_w, c_rN, c_rN2, cB, cF, cK, cN, cS, cM, cZ, mB, mF, mK, mN, mS, mM, mZ, nI_sub1, nI_add1, hc, e1, m_hourIs h, q]
        exact h1
theorem m_lay7 {v : Nat → Nat} {now : Nat → Int32} (h : RN v now) (hv : Vd v) {N : Nat} (hN : 2000 ≤ N) : ∀ d n k (order doubts : Nat → Int32), k + d = v 3 → d < n → (∀ j, j < k → order j = nI (ord (hr v) k j)) → (∀ i, i < dbc v k → doubts i = nI (dth v i k)) →
    ∃ r1 r2, f_X8_lay_7 N now n (nI k) order doubts (nI (dbc v k)) = some (r1, r2, nI (dc v)) ∧ (∀ j, j < v 3 → r1 j = nI (od v j)) ∧ (∀ i, i < dc v → r2 i = nI (dh v i))
  | 0, n, k, order, doubts, hk, hn, ho, hd => by
    have h3 := vd_3 hv
    cases n with
    | zero => omega
    | succ n =>
      have hc : v 3 ≤ k := by omega
      have hk : k = v 3 := by omega
      refine ⟨order, doubts, ?_, fun j hj => ?_, fun i hi => ?_⟩
      · simp (disch := omega) only [f_X8_lay_7, bd_s, gd_tt, jn_s, lit32, gd_ix, nI_clamp, nI_add, pk_mul, nI_leI, nI_ltI, nI_eq, b2_0n, ite_f, ↓reduceIte, Bool.false_eq_true, Bool.true_eq_false, Nat.not_lt_zero, isb_b2, c_has, c_isHour, c_isKind, c_isPerson, m_isHour, m_isKind, m_isSheet, m_w, c_rN, c_rN2, cB, cF, cK, cN, cS, cM, cZ, mB, mF, mK, mN, mS, mM, mZ, rn_at h, hc]
        rw [hk]; rfl
      · rw [ho j (by omega), hk]; rfl
      · rw [hd i (by rw [hk]; exact hi), hk]; rfl
  | d + 1, n, k, order, doubts, hk, hn, ho, hd => by
    have h3 := vd_3 hv
    have hdc := vd_dc hv
    have hm : dbc v k ≤ dc v := dbc_mono v (by omega)
    cases n with
    | zero => omega
    | succ n =>
      have hc : ¬ v 3 ≤ k := by omega
      have ht := (vd_b hv k (by omega)).2.2.2.2
      obtain ⟨r, e1, e2⟩ := m_lay50 h h3 (b := k) (by omega) k N order (ord (hr v) k) (Nat.le_refl _) (by omega) (fun j hj hja => ho j (by omega)) (fun j hj hja => ord_lt _ _ _ (by omega))
      have hs := (shf_lt (hr v) k k (ord (hr v) k) (Nat.le_refl _) (fun j hj hn => ord_lt _ _ _ (by omega))).1
      have ho' : ∀ j, j < k + 1 → upd r (shf (hr v) k k (ord (hr v) k)).1 (nI k) j = nI (ord (hr v) (k + 1) j) := fun j hj => by
        show _ = nI (un _ _ k j)
        by_cases q : j = (shf (hr v) k k (ord (hr v) k)).1
        · rw [q, pk_us, un_s]
        · rw [pk_un q, un_n q]; exact e2 j (by omega) q
      by_cases q : v (6 + 4 * k + 3) < 10
      · have hq : ¬ 10 ≤ v (6 + 4 * k + 3) := by omega
        have hlt : dbc v k < dc v := dbc_lt v (by omega) q
        have e5 : dbc v (k + 1) = dbc v k + 1 := by show dbc v k + _ = _; rw [if_pos q]
        obtain ⟨r1, r2, g1, g2, g3⟩ := m_lay7 h hv hN d n (k + 1) (upd r (shf (hr v) k k (ord (hr v) k)).1 (nI k)) (upd doubts (dbc v k) (nI k)) (by omega) (by omega) ho' (fun i hi => by
          show _ = nI (if _ then k else dth v i k)
          by_cases qi : i = dbc v k
          · rw [qi, pk_us, if_pos ⟨q, rfl⟩]
          · rw [pk_un qi, if_neg (fun z => qi z.2.symm)]; exact hd i (by omega))
        refine ⟨r1, r2, ?_, g2, g3⟩
        simp (disch := omega) only [f_X8_lay_7, bd_s, gd_tt, jn_s, lit32, gd_ix, nI_clamp, nI_add, pk_mul, nI_leI, nI_ltI, nI_eq, b2_0n, ite_f, ↓reduceIte, Bool.false_eq_true, Bool.true_eq_false, Nat.not_lt_zero, isb_b2, c_has, c_isHour, c_isKind, c_isPerson, m_isHour, m_isKind, m_isSheet, m_w, c_rN, c_rN2, cB, cF, cK, cN, cS, cM, cZ, mB, mF, mK, mN, mS, mM, mZ, rn_at h, hc, m_bowIs h, hq, e1]
        rw [e5] at g1
        exact g1
      · have hq : 10 ≤ v (6 + 4 * k + 3) := by omega
        have e5 : dbc v (k + 1) = dbc v k := by show dbc v k + _ = _; rw [if_neg q]; rfl
        obtain ⟨r1, r2, g1, g2, g3⟩ := m_lay7 h hv hN d n (k + 1) (upd r (shf (hr v) k k (ord (hr v) k)).1 (nI k)) doubts (by omega) (by omega) ho' (fun i hi => by
          show _ = nI (if _ then k else dth v i k)
          rw [if_neg (fun z => q z.1)]; exact hd i (by omega))
        refine ⟨r1, r2, ?_, g2, g3⟩
        simp (disch := omega) only [f_X8_lay_7, bd_s, gd_tt, jn_s, lit32, gd_ix, nI_clamp, nI_add, pk_mul, nI_leI, nI_ltI, nI_eq, b2_0n, ite_f, ↓reduceIte, Bool.false_eq_true, Bool.true_eq_false, Nat.not_lt_zero, isb_b2, c_has, c_isHour, c_isKind, c_isPerson, m_isHour, m_isKind, m_isSheet, m_w, c_rN, c_rN2, cB, cF, cK, cN, cS, cM, cZ, mB, mF, mK, mN, mS, mM, mZ, rn_at h, hc, m_bowIs h, hq, e1]
        rw [e5] at g1
        exact g1
/-- what the reference's lay leaves -/
def ML (v : Nat → Nat) (order doubts : Nat → Int32) (dm : Int32) : Prop := dm = nI (dc v) ∧ (∀ j, j < v 3 → order j = nI (od v j)) ∧ ∀ i, i < dc v → doubts i = nI (dh v i)
theorem m_lay {v : Nat → Nat} {now : Nat → Int32} (h : RN v now) (hv : Vd v) {N : Nat} (hN : 2000 ≤ N) (order doubts : Nat → Int32) (dm : Int32) : ∃ r1 r2, f_X8_lay N now order doubts dm = some (r1, r2, nI (dc v)) ∧ ML v r1 r2 (nI (dc v)) := by
  have h3 := vd_3 hv
  obtain ⟨r1, r2, g1, g2, g3⟩ := m_lay7 h hv hN (v 3) N 0 order doubts (by omega) (by omega) (fun j hj => absurd hj (Nat.not_lt_zero _)) (fun j hj => absurd hj (Nat.not_lt_zero _))
  refine ⟨r1, r2, ?_, rfl, g2, g3⟩
  unfold f_X8_lay
  rw [show f_X8_lay_7 N now N (0 : Int32) order doubts (0 : Int32) = some (r1, r2, nI (dc v)) from g1, bd_s]
theorem n_there {v : Nat → Nat} (hv : Vd v) : f_X8_nightsThere (nI (dc v)) = some (nI (nn v)) := by
  have := vd_dc hv
  unfold f_X8_nightsThere
  rw [show (31 : Int32) = nI 31 from rfl, show (1 : Int32) = nI 1 from rfl, nI_31 (by omega), nI_1shl (by omega)]; rfl
/-- is a bow made in a night -/
theorem m_made5 {v : Nat → Nat} (hv : Vd v) {doubts : Nat → Int32} (hd : ∀ i, i < dc v → doubts i = nI (dh v i)) {b n : Nat} (hb : b < v 3) (hn : n < nn v) : ∀ d f k, k + d = dc v → d < f → f_X8_isMade_5 (nI b) (nI n) doubts (nI (dc v)) f (b2 (if v (6 + 4 * b + 3) < 10 ∧ dbc v b < k then n.testBit (dbc v b) else true)) (nI k) = some (b2 (mad v n b))
  | 0, f, k, hk, hf => by
    have h6 := vd_dc hv
    cases f with
    | zero => omega
    | succ f =>
      have hc : dc v ≤ k := by omega
      simp (disch := omega) only [f_X8_isMade_5, bd_s, gd_tt, jn_s, lit32, gd_ix, nI_clamp, nI_add, pk_mul, nI_leI, nI_ltI, nI_eq, b2_0n, ite_f, ↓reduceIte, Bool.false_eq_true, Bool.true_eq_false, Nat.not_lt_zero, isb_b2, c_has, c_isHour, c_isKind, c_isPerson, m_isHour, m_isKind, m_isSheet, m_w, c_rN, c_rN2, cB, cF, cK, cN, cS, cM, cZ, mB, mF, mK, mN, mS, mM, mZ, hc]
      unfold mad
      by_cases q : v (6 + 4 * b + 3) < 10
      · have := dbc_lt v hb q
        rw [if_pos ⟨q, by unfold dc at hk; omega⟩, if_pos q]
      · rw [if_neg (fun z => q z.1), if_neg q]
  | d + 1, f, k, hk, hf => by
    have h6 := vd_dc hv
    have h3 := vd_3 hv
    have h64 := nn_le hv
    cases f with
    | zero => omega
    | succ f =>
      have hc : ¬ dc v ≤ k := by omega
      have hdk := dh_is (v := v) (k := k) (by omega)
      have ih := m_made5 hv hd hb hn d f (k + 1) (by omega) (by omega)
      simp (disch := omega) only [f_X8_isMade_5, bd_s, gd_tt, jn_s, lit32, gd_ix, nI_clamp, nI_add, pk_mul, nI_leI, nI_ltI, nI_eq, b2_0n, ite_f, ↓reduceIte, Bool.false_eq_true, Bool.true_eq_false, Nat.not_lt_zero, isb_b2, c_has, c_isHour, c_isKind, c_isPerson, m_isHour, m_isKind, m_isSheet, m_w, c_rN, c_rN2, cB, cF, cK, cN, cS, cM, cZ, mB, mF, mK, mN, mS, mM, mZ, hc, hd k (by omega), nI_31, nI_bit, b2_1n, ite_b2n]
      rw [← ih]
      by_cases q : dh v k = b
      · rw [q] at hdk
        rw [if_pos q, bd_s, if_pos ⟨hdk.2.1, by omega⟩, hdk.2.2]
        congr 1
        cases n.testBit k <;> rfl
      · rw [if_neg q, bd_s]
        congr 2
        by_cases q2 : v (6 + 4 * b + 3) < 10 ∧ dbc v b < k
        · rw [if_pos q2, if_pos ⟨q2.1, by omega⟩]
        · rw [if_neg q2, if_neg (fun z => q2 ⟨z.1, by
            have : dbc v b ≠ k := fun w => q (by rw [← w]; exact dh_eq hb z.1)
            omega⟩)]
theorem m_made {v : Nat → Nat} (hv : Vd v) {N : Nat} (hN : 2000 ≤ N) {doubts : Nat → Int32} (hd : ∀ i, i < dc v → doubts i = nI (dh v i)) {b n : Nat} (hb : b < v 3) (hn : n < nn v) : f_X8_isMade N doubts (nI (dc v)) (nI b) (nI n) = some (b2 (mad v n b)) := by
  have h6 := vd_dc hv
  have := m_made5 hv hd hb hn (dc v) N 0 (by omega) (by omega)
  rw [if_neg (fun z => absurd z.2 (Nat.not_lt_zero _))] at this
  unfold f_X8_isMade
  rw [show (1 : Int32) = b2 true from rfl, show (0 : Int32) = nI 0 from rfl, this, bd_s, isb_b2]; rfl
/-- worn, pairs, twice -/
def MS (s : Nst) (worn : Nat → Int32) (pairs : Int64) (tw : Int32) : Prop := (∀ m, m < 8 → worn m = nI (s.1 m)) ∧ (∃ P : Nat, pairs = lN P ∧ P < 2 ^ 63 ∧ ∀ x y, x ≤ y → y < 8 → P.testBit (8 * x + y) = s.2.1 x y) ∧ tw = b2 s.2.2
theorem pair_idx {x y x' y' : Nat} (h2 : y < 8) (h4 : y' < 8) (h : 8 * x + y = 8 * x' + y') : x = x' ∧ y = y' := by omega
theorem and_pow (P i : Nat) : P &&& 2 ^ i = if P.testBit i = true then 2 ^ i else 0 := by
  apply Nat.eq_of_testBit_eq
  intro j
  rw [Nat.testBit_and, Nat.testBit_two_pow]
  by_cases q : i = j
  · subst q
    cases h : P.testBit i
    · simp
    · simp [Nat.testBit_two_pow_self]
  · rw [decide_eq_false q, Bool.and_false]
    split
    · rw [Nat.testBit_two_pow, decide_eq_false q]
    · rw [Nat.zero_testBit]
theorem lgc0 {P : Nat} (h : P < 2 ^ 63) : (lg_cmp (lN P) (lN 0) = nI 0) = (P = 0) := by
  refine propext ((lg_cmp_eq _ _).trans ?_)
  exact pk_lEQ h (by decide)
theorem lgc_le {P : Nat} (h : P < 2 ^ 63) : (lg_cmp (lN P) (lN 0) ≤ nI 0) = (P = 0) := by
  refine propext ((lg_cmp_le _ _).trans ?_)
  rw [pk_lLE h (by decide)]; omega
theorem m_change {s : Nst} {worn : Nat → Int32} {pairs : Int64} {tw : Int32} (h : MS s worn pairs tw) (hp : Pm s) {a b : Nat} (ha : a < 8) (hb : b < 8) (hab : a ≠ b) : ∃ w' p' t', f_X8_change worn pairs tw (nI a) (nI b) = some (w', p', t') ∧ MS (stp s a b) w' p' t' := by
  obtain ⟨h1, ⟨P, rfl, hP, hB⟩, rfl⟩ := h
  obtain ⟨g1, g2, g3, g4, g5⟩ := hp
  have hx := g1 a ha
  have hy := g1 b hb
  have hne : s.1 a ≠ s.1 b := fun e => hab (g2 a b ha hb e)
  have ea := h1 a ha
  have eb := h1 b hb
  obtain ⟨lo, hi, hlh, hhi, hlohi, hmin, hmax⟩ : ∃ lo hi, lo < hi ∧ hi < 8 ∧ ((lo = s.1 a ∧ hi = s.1 b) ∨ (lo = s.1 b ∧ hi = s.1 a)) ∧ (if nI (s.1 b) < nI (s.1 a) then nI (s.1 b) else nI (s.1 a)) = nI lo ∧ (if nI (s.1 a) < nI (s.1 b) then nI (s.1 b) else nI (s.1 a)) = nI hi := by
    by_cases q : s.1 a < s.1 b
    · exact ⟨s.1 a, s.1 b, q, hy, Or.inl ⟨rfl, rfl⟩, if_neg (nI_nlt (by omega) (by omega)), if_pos (nI_lt q (by omega))⟩
    · exact ⟨s.1 b, s.1 a, by omega, hx, Or.inr ⟨rfl, rfl⟩, if_pos (nI_lt (by omega) (by omega)), if_neg (nI_nlt (by omega) (by omega))⟩
  have hi63 : 8 * lo + hi < 63 := by omega
  have hpw : 2 ^ (8 * lo + hi) < 2 ^ 63 := Nat.pow_lt_pow_right (by omega) hi63
  have hbit : P.testBit (8 * lo + hi) = s.2.1 (s.1 a) (s.1 b) := by
    rw [hB lo hi (by omega) hhi]
    rcases hlohi with ⟨q1, q2⟩ | ⟨q1, q2⟩
    · rw [q1, q2]
    · rw [q1, q2, g4]
  have hand : P &&& 2 ^ (8 * lo + hi) < 2 ^ 63 := Nat.lt_of_le_of_lt Nat.and_le_left hP
  refine ⟨upd (upd worn a (nI (s.1 b))) b (nI (s.1 a)), lN (P ||| 2 ^ (8 * lo + hi)), b2 (s.2.2 || s.2.1 (s.1 a) (s.1 b)), ?_, fun m hm => ?_, ⟨_, rfl, Nat.or_lt_two_pow hP hpw, fun x y hxy hy8 => ?_⟩, rfl⟩
  · unfold f_X8_change
    rw [nI_clamp (by omega), nI_clamp (by omega), ea, eb, hmin, hmax]
    simp (disch := omega) only [bd_s, gd_tt, jn_s, lit32, gd_ix, nI_clamp, nI_add, pk_mul, nI_leI, nI_ltI, nI_eq, b2_0n, ite_f, ↓reduceIte, Bool.false_eq_true, Bool.true_eq_false, Nat.not_lt_zero, isb_b2, c_has, c_isHour, c_isKind, c_isPerson, m_isHour, m_isKind, m_isSheet, m_w, c_rN, c_rN2, cB, cF, cK, cN, cS, cM, cZ, mB, mF, mK, mN, mS, mM, mZ, litL, nI_l, nat_63, lN_1shl, lN_and, lN_or, lgc0 hand]
    rw [and_pow, hbit]
    cases s.2.2
    · rw [if_neg (show ¬ false = true by decide)]
      cases s.2.1 (s.1 a) (s.1 b)
      · rfl
      · have hz : ¬ 2 ^ (8 * lo + hi) = 0 := by have := Nat.two_pow_pos (8 * lo + hi); omega
        rw [if_pos rfl, if_neg hz]; rfl
    · rfl
  · show _ = nI (un (un s.1 a (s.1 b)) b (s.1 a) m)
    by_cases q : m = b
    · rw [q, pk_us, un_s]
    · rw [pk_un q, un_n q]
      by_cases q2 : m = a
      · rw [q2, pk_us, un_s]
      · rw [pk_un q2, un_n q2]; exact h1 m hm
  · show _ = (s.2.1 x y || (decide (x = s.1 a) && decide (y = s.1 b)) || (decide (x = s.1 b) && decide (y = s.1 a)))
    rw [Nat.testBit_or, hB x y hxy hy8, Nat.testBit_two_pow, Bool.or_assoc]
    congr 1
    rw [← Bool.decide_and, ← Bool.decide_and, ← Bool.decide_or]
    apply decide_eq_decide.mpr
    constructor
    · intro q
      obtain ⟨q1, q2⟩ := pair_idx hhi hy8 q
      rcases hlohi with ⟨z1, z2⟩ | ⟨z1, z2⟩
      · exact Or.inl ⟨by omega, by omega⟩
      · exact Or.inr ⟨by omega, by omega⟩
    · intro q
      rcases hlohi with ⟨z1, z2⟩ | ⟨z1, z2⟩ <;> omega
