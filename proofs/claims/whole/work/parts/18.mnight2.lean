/-! ===== the reference goes through a night, weighs all ===== -/
theorem m_goes2 : ∀ d n k (worn : Nat → Int32), k + d = 8 → d < n → (∀ m, m < k → worn m = nI m) → ∃ r, f_X8_goes_2 n (nI k) worn = some r ∧ ∀ m, m < 8 → r m = nI m
  | 0, n, k, worn, hk, hn, hw => by
    cases n with
    | zero => omega
    | succ n =>
      have hc : 8 ≤ k := by omega
      refine ⟨worn, ?_, fun m hm => hw m (by omega)⟩
      simp (disch := omega) only [f_X8_goes_2, bd_s, gd_tt, jn_s, lit32, gd_ix, nI_clamp, nI_add, pk_mul, nI_leI, nI_ltI, nI_eq, b2_0n, ite_f, ↓reduceIte, Bool.false_eq_true, Bool.true_eq_false, Nat.not_lt_zero, isb_b2, c_has, c_isHour, c_isKind, c_isPerson, m_isHour, m_isKind, m_isSheet, m_w, c_rN, c_rN2, cB, cF, cK, cN, cS, cM, cZ, mB, mF, mK, mN, mS, mM, mZ, hc]
  | d + 1, n, k, worn, hk, hn, hw => by
    cases n with
    | zero => omega
    | succ n =>
      have hc : ¬ 8 ≤ k := by omega
      obtain ⟨r, h1, h2⟩ := m_goes2 d n (k + 1) (upd worn k (nI k)) (by omega) (by omega) (fun m hm => by
        by_cases q : m = k
        · rw [q, pk_us]
        · rw [pk_un q]; exact hw m (by omega))
      refine ⟨r, ?_, h2⟩
      simp (disch := omega) only [f_X8_goes_2, bd_s, gd_tt, jn_s, lit32, gd_ix, nI_clamp, nI_add, pk_mul, nI_leI, nI_ltI, nI_eq, b2_0n, ite_f, ↓reduceIte, Bool.false_eq_true, Bool.true_eq_false, Nat.not_lt_zero, isb_b2, c_has, c_isHour, c_isKind, c_isPerson, m_isHour, m_isKind, m_isSheet, m_w, c_rN, c_rN2, cB, cF, cK, cN, cS, cM, cZ, mB, mF, mK, mN, mS, mM, mZ, hc]
      exact h1
theorem m_goes33 {v : Nat → Nat} {now : Nat → Int32} (h : RN v now) (hv : Vd v) {N : Nat} (hN : 2000 ≤ N) {order doubts : Nat → Int32} (hl : ML v order doubts (nI (dc v))) {n hour : Nat} (hn : n < nn v) (hh : hour < 2 ^ 31) : ∀ d f k (worn : Nat → Int32) (pairs : Int64) (tw : Int32), k + d = v 3 → d < f → MS (nst v n k) worn pairs tw →
    ∃ w p t, f_X8_goes_33 N (nI n) (nI hour) now order doubts (nI (dc v)) f (nI k) worn pairs tw = some (w, p, t) ∧ MS (nst v n (run (fun k => decide (hr v (od v k) ≤ hour)) d k)) w p t
  | 0, f, k, worn, pairs, tw, hk, hf, hs => by
    have h3 := vd_3 hv
    cases f with
    | zero => omega
    | succ f =>
      have hc : v 3 ≤ k := by omega
      refine ⟨worn, pairs, tw, ?_, hs⟩
      simp (disch := omega) only [f_X8_goes_33, bd_s, gd_tt, jn_s, lit32, gd_ix, nI_clamp, nI_add, pk_mul, nI_leI, nI_ltI, nI_eq, b2_0n, ite_f, ↓reduceIte, Bool.false_eq_true, Bool.true_eq_false, Nat.not_lt_zero, isb_b2, c_has, c_isHour, c_isKind, c_isPerson, m_isHour, m_isKind, m_isSheet, m_w, c_rN, c_rN2, cB, cF, cK, cN, cS, cM, cZ, mB, mF, mK, mN, mS, mM, mZ, rn_at h, hc]
  | d + 1, f, k, worn, pairs, tw, hk, hf, hs => by
    have h3 := vd_3 hv
    have h8 := vd_hi hv
    cases f with
    | zero => omega
    | succ f =>
      have hc : ¬ v 3 ≤ k := by omega
      have ho := hl.2.1 k (by omega)
      have hod : od v k < v 3 := od_lt (by omega)
      have hb := hr_bd h (b := od v k) (by omega)
      obtain ⟨-, c1, c2, c3, -⟩ := vd_b hv (od v k) hod
      unfold run
      by_cases q : hr v (od v k) ≤ hour
      · rw [if_pos (decide_eq_true q)]
        have hq : ¬ hour < hr v (od v k) := by omega
        by_cases qm : mad v n (od v k) = true
        · obtain ⟨w', p', t', e1, e2⟩ := m_change hs (Pm_n hv n k (by omega)) (a := v (6 + 4 * od v k + 1)) (b := v (6 + 4 * od v k + 2)) (by omega) (by omega) c3
          have e3 : nst v n (k + 1) = stp (nst v n k) (v (6 + 4 * od v k + 1)) (v (6 + 4 * od v k + 2)) := by
            show (if _ then _ else _) = _
            rw [if_pos qm]
          obtain ⟨w, p, t, g1, g2⟩ := m_goes33 h hv hN hl hn hh d f (k + 1) w' p' t' (by omega) (by omega) (by rw [e3]; exact e2)
          refine ⟨w, p, t, ?_, g2⟩
          simp (disch := omega) only [f_X8_goes_33, bd_s, gd_tt, jn_s, lit32, gd_ix, nI_clamp, nI_add, pk_mul, nI_leI, nI_ltI, nI_eq, b2_0n, ite_f, ↓reduceIte, Bool.false_eq_true, Bool.true_eq_false, Nat.not_lt_zero, isb_b2, c_has, c_isHour, c_isKind, c_isPerson, m_isHour, m_isKind, m_isSheet, m_w, c_rN, c_rN2, cB, cF, cK, cN, cS, cM, cZ, mB, mF, mK, mN, mS, mM, mZ, rn_at h, hc, ho, m_hourIs h, hq, m_made hv hN hl.2.2 hod hn, qm, m_bowIs h, e1]
          exact g1
        · have e3 : nst v n (k + 1) = nst v n k := by
            show (if _ then _ else _) = _
            rw [if_neg qm]
          obtain ⟨w, p, t, g1, g2⟩ := m_goes33 h hv hN hl hn hh d f (k + 1) worn pairs tw (by omega) (by omega) (by rw [e3]; exact hs)
          refine ⟨w, p, t, ?_, g2⟩
          simp (disch := omega) only [f_X8_goes_33, bd_s, gd_tt, jn_s, lit32, gd_ix, nI_clamp, nI_add, pk_mul, nI_leI, nI_ltI, nI_eq, b2_0n, ite_f, ↓reduceIte, Bool.false_eq_true, Bool.true_eq_false, Nat.not_lt_zero, isb_b2, c_has, c_isHour, c_isKind, c_isPerson, m_isHour, m_isKind, m_isSheet, m_w, c_rN, c_rN2, cB, cF, cK, cN, cS, cM, cZ, mB, mF, mK, mN, mS, mM, mZ, rn_at h, hc, ho, m_hourIs h, hq, m_made hv hN hl.2.2 hod hn, qm]
          exact g1
      · rw [if_neg (by simpa using q)]
        have hq : hour < hr v (od v k) := by omega
        refine ⟨worn, pairs, tw, ?_, hs⟩
        simp (disch := omega) only [f_X8_goes_33, bd_s, gd_tt, jn_s, lit32, gd_ix, nI_clamp, nI_add, pk_mul, nI_leI, nI_ltI, nI_eq, b2_0n, ite_f, ↓reduceIte, Bool.false_eq_true, Bool.true_eq_false, Nat.not_lt_zero, isb_b2, c_has, c_isHour, c_isKind, c_isPerson, m_isHour, m_isKind, m_isSheet, m_w, c_rN, c_rN2, cB, cF, cK, cN, cS, cM, cZ, mB, mF, mK, mN, mS, mM, mZ, rn_at h, hc, ho, m_hourIs h, hq]
theorem m_goes {v : Nat → Nat} {now : Nat → Int32} (h : RN v now) (hv : Vd v) {N : Nat} (hN : 2000 ≤ N) {order doubts : Nat → Int32} (hl : ML v order doubts (nI (dc v))) {n hour : Nat} (hn : n < nn v) (hh : hour < 2 ^ 31) (worn : Nat → Int32) (pairs : Int64) (tw : Int32) :
    ∃ w p t, f_X8_goes N now order doubts (nI (dc v)) worn pairs tw (nI n) (nI hour) = some (w, p, t) ∧ MS (nst v n (sts v hour)) w p t := by
  have h3 := vd_3 hv
  obtain ⟨r, h1, h2⟩ := m_goes2 8 N 0 worn rfl (by omega) (fun m hm => absurd hm (Nat.not_lt_zero _))
  obtain ⟨w, p, t, g1, g2⟩ := m_goes33 h hv hN hl hn hh (v 3) N 0 r (lN 0) (nI 0) (by omega) (by omega) ⟨h2, ⟨0, rfl, by decide, fun x y _ _ => Nat.zero_testBit _⟩, rfl⟩
  refine ⟨w, p, t, ?_, g2⟩
  unfold f_X8_goes
  rw [show f_X8_goes_2 N (0 : Int32) worn = some r from h1, bd_s]
  rw [show f_X8_goes_33 N (nI n) (nI hour) now order doubts (nI (dc v)) N (0 : Int32) r (0 : Int64) (0 : Int32) = some (w, p, t) from g1, bd_s]
theorem run_all {p : Nat → Bool} : ∀ m k, (∀ j, k ≤ j → j < k + m → p j = true) → run p m k = k + m
  | 0, k, _ => rfl
  | m + 1, k, h => by
    unfold run
    rw [if_pos (h k (Nat.le_refl _) (by omega)), run_all m (k + 1) (fun j h1 h2 => h j (by omega) (by omega))]
    omega
theorem sts_99 {v : Nat → Nat} (hv : Vd v) : sts v 99 = v 3 := by
  unfold sts
  rw [run_all (v 3) 0 (fun j h1 h2 => ?_)]
  · omega
  · have hod : od v j < v 3 := od_lt (by omega)
    have := (vd_b hv (od v j) hod).1
    exact decide_eq_true (by unfold hr; omega)
theorem wgd_63 {v : Nat → Nat} (hv : Vd v) (n : Nat) {k : Nat} (hk : k ≤ dc v) : wgd v n k ≤ 1000000 := by
  have h1 := wgd_le hv n k hk
  have h2 : dc v ≤ 6 := vd_dc hv
  have h3 : 10 ^ k ≤ 10 ^ 6 := Nat.pow_le_pow_right (by decide) (by omega)
  exact Nat.le_trans h1 h3
theorem m_weight5 {v : Nat → Nat} {now : Nat → Int32} (h : RN v now) (hv : Vd v) {doubts : Nat → Int32} (hd : ∀ i, i < dc v → doubts i = nI (dh v i)) {n : Nat} (hn : n < nn v) : ∀ d f k, k + d = dc v → d < f → f_X8_weightOf_5 (nI n) now doubts (nI (dc v)) f (lN (wgd v n k)) (nI k) = some (lN (wgt v n))
  | 0, f, k, hk, hf => by
    have h6 := vd_dc hv
    cases f with
    | zero => omega
    | succ f =>
      have hc : dc v ≤ k := by omega
      have hk : k = dc v := by omega
      simp (disch := omega) only [f_X8_weightOf_5, bd_s, gd_tt, jn_s, lit32, gd_ix, nI_clamp, nI_add, pk_mul, nI_leI, nI_ltI, nI_eq, b2_0n, ite_f, ↓reduceIte, Bool.false_eq_true, Bool.true_eq_false, Nat.not_lt_zero, isb_b2, c_has, c_isHour, c_isKind, c_isPerson, m_isHour, m_isKind, m_isSheet, m_w, c_rN, c_rN2, cB, cF, cK, cN, cS, cM, cZ, mB, mF, mK, mN, mS, mM, mZ, hc]
      rw [hk]; rfl
  | d + 1, f, k, hk, hf => by
    have h6 := vd_dc hv
    have h3 := vd_3 hv
    have h64 := nn_le hv
    cases f with
    | zero => omega
    | succ f =>
      have hc : ¬ dc v ≤ k := by omega
      have hdk := dh_is (v := v) (k := k) (by omega)
      have ht := hdk.2.1
      have ih := m_weight5 h hv hd hn d f (k + 1) (by omega) (by omega)
      simp (disch := omega) only [f_X8_weightOf_5, bd_s, gd_tt, jn_s, lit32, gd_ix, nI_clamp, nI_add, pk_mul, nI_leI, nI_ltI, nI_eq, b2_0n, ite_f, ↓reduceIte, Bool.false_eq_true, Bool.true_eq_false, Nat.not_lt_zero, isb_b2, c_has, c_isHour, c_isKind, c_isPerson, m_isHour, m_isKind, m_isSheet, m_w, c_rN, c_rN2, cB, cF, cK, cN, cS, cM, cZ, mB, mF, mK, mN, mS, mM, mZ, hc, hd k (by omega), nI_31, nI_bit, b2_1n, m_bowIs h, pk_sub, nI_l, some_ite]
      rw [← ih, show (if n.testBit k = true then lN (v (6 + 4 * dh v k + 3)) else lN (10 - v (6 + 4 * dh v k + 3))) = lN (if n.testBit k = true then v (6 + 4 * dh v k + 3) else 10 - v (6 + 4 * dh v k + 3)) by split <;> rfl, lN_mul]
      rfl
theorem m_weightOf {v : Nat → Nat} {now : Nat → Int32} (h : RN v now) (hv : Vd v) {N : Nat} (hN : 2000 ≤ N) {doubts : Nat → Int32} (hd : ∀ i, i < dc v → doubts i = nI (dh v i)) {n : Nat} (hn : n < nn v) : f_X8_weightOf N now doubts (nI (dc v)) (nI n) = some (lN (wgt v n)) := by
  have h6 := vd_dc hv
  unfold f_X8_weightOf
  rw [show f_X8_weightOf_5 (nI n) now doubts (nI (dc v)) N (1 : Int64) (0 : Int32) = some (lN (wgt v n)) from m_weight5 h hv hd hn (dc v) N 0 (by omega) (by omega), bd_s]
theorem m_breaks {v : Nat → Nat} {now : Nat → Int32} (h : RN v now) (hv : Vd v) {N : Nat} (hN : 2000 ≤ N) {order doubts : Nat → Int32} (hl : ML v order doubts (nI (dc v))) {n : Nat} (hn : n < nn v) (worn : Nat → Int32) (pairs : Int64) (tw : Int32) :
    ∃ w p t, f_X8_breaksRule N now order doubts (nI (dc v)) worn pairs tw (nI n) = some (b2 (barR v n), w, p, t) := by
  have z1 := vd_1 hv
  obtain ⟨w, p, t, g1, g2⟩ := m_goes h hv hN hl hn (hour := 99) (by decide) worn pairs tw
  rw [sts_99 hv] at g2
  refine ⟨w, p, t, ?_⟩
  simp (disch := omega) only [f_X8_breaksRule, bd_s, gd_tt, jn_s, lit32, gd_ix, nI_clamp, nI_add, pk_mul, nI_leI, nI_ltI, nI_eq, b2_0n, ite_f, ↓reduceIte, Bool.false_eq_true, Bool.true_eq_false, Nat.not_lt_zero, isb_b2, c_has, c_isHour, c_isKind, c_isPerson, m_isHour, m_isKind, m_isSheet, m_w, c_rN, c_rN2, cB, cF, cK, cN, cS, cM, cZ, mB, mF, mK, mN, mS, mM, mZ, rn_at h, g1, g2.2.2]
  unfold barR
  by_cases q : v 1 = 1
  · rw [if_pos q, decide_eq_true q]
    cases (nst v n (v 3)).2.2 <;> rfl
  · rw [if_neg q, decide_eq_false q]; rfl
theorem allSo_f {v : Nat → Nat} {n k m : Nat} (h : allSo v n k = false) (hk : k ≤ m) : allSo v n m = false := by
  induction m with
  | zero => rw [Nat.le_zero.mp hk] at h; exact h
  | succ m ih =>
    by_cases q : k = m + 1
    · rw [← q]; exact h
    · show (allSo v n m && _) = false
      rw [ih (by omega)]; rfl
theorem m_so5 {v : Nat → Nat} {now : Nat → Int32} (h : RN v now) (hv : Vd v) {N : Nat} (hN : 2000 ≤ N) {order doubts : Nat → Int32} (hl : ML v order doubts (nI (dc v))) {n many : Nat} (hn : n < nn v) (hm : many ≤ v 5) : ∀ d f k (worn : Nat → Int32) (pairs : Int64) (tw : Int32), k + d = many → d < f →
    ∃ w p t, f_X8_areSo_5 N (nI n) (nI many) now order doubts (nI (dc v)) f (b2 (allSo v n k)) (nI k) worn pairs tw = some (b2 (allSo v n many), w, p, t)
  | 0, f, k, worn, pairs, tw, hk, hf => by
    have h5 := vd_5 hv
    cases f with
    | zero => omega
    | succ f =>
      have hc : many ≤ k := by omega
      have hk : k = many := by omega
      refine ⟨worn, pairs, tw, ?_⟩
      simp (disch := omega) only [f_X8_areSo_5, bd_s, gd_tt, jn_s, lit32, gd_ix, nI_clamp, nI_add, pk_mul, nI_leI, nI_ltI, nI_eq, b2_0n, ite_f, ↓reduceIte, Bool.false_eq_true, Bool.true_eq_false, Nat.not_lt_zero, isb_b2, c_has, c_isHour, c_isKind, c_isPerson, m_isHour, m_isKind, m_isSheet, m_w, c_rN, c_rN2, cB, cF, cK, cN, cS, cM, cZ, mB, mF, mK, mN, mS, mM, mZ, hc]
      rw [hk]
  | d + 1, f, k, worn, pairs, tw, hk, hf => by
    have h5 := vd_5 hv
    have h8 := vd_hi hv
    cases f with
    | zero => omega
    | succ f =>
      have hc : ¬ many ≤ k := by omega
      obtain ⟨s0, s1, s2, s3⟩ := vd_s hv k (by omega)
      by_cases q : allSo v n k = true
      · obtain ⟨w', p', t', g1, g2⟩ := m_goes h hv hN hl hn (hour := v (146 + 4 * k + 0)) (by omega) worn pairs tw
        have hw := g2.1 (v (146 + 4 * k + 1)) (by omega)
        have hwb := (Pm_n hv n (sts v (v (146 + 4 * k + 0))) (sts_le _ _)).1 (v (146 + 4 * k + 1)) (by omega)
        obtain ⟨w, p, t, e1⟩ := m_so5 h hv hN hl hn hm d f (k + 1) w' p' t' (by omega) (by omega)
        refine ⟨w, p, t, ?_⟩
        simp (disch := omega) only [f_X8_areSo_5, bd_s, gd_tt, jn_s, lit32, gd_ix, nI_clamp, nI_add, pk_mul, nI_leI, nI_ltI, nI_eq, b2_0n, ite_f, ↓reduceIte, Bool.false_eq_true, Bool.true_eq_false, Nat.not_lt_zero, isb_b2, c_has, c_isHour, c_isKind, c_isPerson, m_isHour, m_isKind, m_isSheet, m_w, c_rN, c_rN2, cB, cF, cK, cN, cS, cM, cZ, mB, mF, mK, mN, mS, mM, mZ, hc, q, m_sayingIs h, g1, hw, ite_b2n, b2_eq]
        rw [← e1]
        congr 1
        show b2 _ = b2 (allSo v n k && _)
        rw [q]
        congr 1
      · have q : allSo v n k = false := by simpa using q
        refine ⟨worn, pairs, tw, ?_⟩
        simp (disch := omega) only [f_X8_areSo_5, bd_s, gd_tt, jn_s, lit32, gd_ix, nI_clamp, nI_add, pk_mul, nI_leI, nI_ltI, nI_eq, b2_0n, ite_f, ↓reduceIte, Bool.false_eq_true, Bool.true_eq_false, Nat.not_lt_zero, isb_b2, c_has, c_isHour, c_isKind, c_isPerson, m_isHour, m_isKind, m_isSheet, m_w, c_rN, c_rN2, cB, cF, cK, cN, cS, cM, cZ, mB, mF, mK, mN, mS, mM, mZ, hc, q]
        rw [allSo_f q (by omega)]
theorem m_areSo {v : Nat → Nat} {now : Nat → Int32} (h : RN v now) (hv : Vd v) {N : Nat} (hN : 2000 ≤ N) {order doubts : Nat → Int32} (hl : ML v order doubts (nI (dc v))) {n many : Nat} (hn : n < nn v) (hm : many ≤ v 5) (worn : Nat → Int32) (pairs : Int64) (tw : Int32) :
    ∃ w p t, f_X8_areSo N now order doubts (nI (dc v)) worn pairs tw (nI n) (nI many) = some (b2 (allSo v n many), w, p, t) := by
  have h5 := vd_5 hv
  obtain ⟨w, p, t, e1⟩ := m_so5 h hv hN hl hn hm many N 0 worn pairs tw (by omega) (by omega)
  refine ⟨w, p, t, ?_⟩
  unfold f_X8_areSo
  rw [show f_X8_areSo_5 N (nI n) (nI many) now order doubts (nI (dc v)) N (1 : Int32) (0 : Int32) worn pairs tw = some (b2 (allSo v n many), w, p, t) from e1, bd_s, isb_b2, gd_tt]
theorem m_weigh8 {v : Nat → Nat} {now : Nat → Int32} (h : RN v now) (hv : Vd v) {N : Nat} (hN : 2000 ≤ N) {order doubts : Nat → Int32} (hl : ML v order doubts (nI (dc v))) : ∀ d f k (weights : Nat → Int64) (worn : Nat → Int32) (pairs : Int64) (tw : Int32), k + d = nn v → d < f → (∀ j, j < k → weights j = lN (wt v j)) →
    ∃ W w p t, f_X8_weigh_8 N now order doubts (nI (dc v)) f (lN (smn (wt v) k)) (nI k) weights worn pairs tw = some (lN (smn (wt v) (nn v)), W, w, p, t) ∧ ∀ j, j < nn v → W j = lN (wt v j)
  | 0, f, k, weights, worn, pairs, tw, hk, hf, hw => by
    have h64 := nn_le hv
    cases f with
    | zero => omega
    | succ f =>
      have hc : nn v ≤ k := by omega
      refine ⟨weights, worn, pairs, tw, ?_, fun j hj => hw j (by omega)⟩
      simp (disch := omega) only [f_X8_weigh_8, bd_s, gd_tt, jn_s, lit32, gd_ix, nI_clamp, nI_add, pk_mul, nI_leI, nI_ltI, nI_eq, b2_0n, ite_f, ↓reduceIte, Bool.false_eq_true, Bool.true_eq_false, Nat.not_lt_zero, isb_b2, c_has, c_isHour, c_isKind, c_isPerson, m_isHour, m_isKind, m_isSheet, m_w, c_rN, c_rN2, cB, cF, cK, cN, cS, cM, cZ, mB, mF, mK, mN, mS, mM, mZ, n_there hv, hc]
      rw [show k = nn v by omega]
  | d + 1, f, k, weights, worn, pairs, tw, hk, hf, hw => by
    have h64 := nn_le hv
    have z2 := vd_2 hv
    have z5 := vd_5 hv
    cases f with
    | zero => omega
    | succ f =>
      have hc : ¬ nn v ≤ k := by omega
      have hkn : k < nn v := by omega
      obtain ⟨w1, p1, t1, e1⟩ := m_breaks h hv hN hl hkn worn pairs tw
      have fin : ∀ (w' : Nat → Int32) (p' : Int64) (t' : Int32), ∃ W w p t, f_X8_weigh_8 N now order doubts (nI (dc v)) f (lN (smn (wt v) k) + lN (wt v k)) (nI (k + 1)) (vp_updL weights k (lN (wt v k))) w' p' t' = some (lN (smn (wt v) (nn v)), W, w, p, t) ∧ ∀ j, j < nn v → W j = lN (wt v j) := fun w' p' t' => by
        obtain ⟨W, w, p, t, g1, g2⟩ := m_weigh8 h hv hN hl d f (k + 1) (vp_updL weights k (lN (wt v k))) w' p' t' (by omega) (by omega) (fun j hj => by
          by_cases q : j = k
          · rw [q, pk_uLs]
          · rw [pk_uLn q]; exact hw j (by omega))
        refine ⟨W, w, p, t, ?_, g2⟩
        rw [lN_add]; exact g1
      by_cases qb : barR v k = true
      · obtain ⟨W, w, p, t, g1, g2⟩ := fin w1 p1 t1
        have ew : wt v k = 0 := by unfold wt; rw [qb]; rfl
        refine ⟨W, w, p, t, ?_, g2⟩
        rw [← g1, ew]
        simp (disch := omega) only [f_X8_weigh_8, bd_s, gd_tt, jn_s, lit32, gd_ix, nI_clamp, nI_add, pk_mul, nI_leI, nI_ltI, nI_eq, b2_0n, ite_f, ↓reduceIte, Bool.false_eq_true, Bool.true_eq_false, Nat.not_lt_zero, isb_b2, c_has, c_isHour, c_isKind, c_isPerson, m_isHour, m_isKind, m_isSheet, m_w, c_rN, c_rN2, cB, cF, cK, cN, cS, cM, cZ, mB, mF, mK, mN, mS, mM, mZ, litL, n_there hv, hc, e1, qb, pk_uLs]
      · have qb : barR v k = false := by simpa using qb
        by_cases q2 : v 2 = 0
        · obtain ⟨W, w, p, t, g1, g2⟩ := fin w1 p1 t1
          have ew : wt v k = wgt v k := by unfold wt; rw [qb, decide_eq_true q2]; rfl
          refine ⟨W, w, p, t, ?_, g2⟩
          rw [← g1, ew]
          have z10 : (nI 1 = nI 0) = False := by decide
          simp (disch := omega) only [f_X8_weigh_8, bd_s, gd_tt, jn_s, lit32, gd_ix, nI_clamp, nI_add, pk_mul, nI_leI, nI_ltI, nI_eq, b2_0n, ite_f, ↓reduceIte, Bool.false_eq_true, Bool.true_eq_false, Nat.not_lt_zero, isb_b2, c_has, c_isHour, c_isKind, c_isPerson, m_isHour, m_isKind, m_isSheet, m_w, c_rN, c_rN2, cB, cF, cK, cN, cS, cM, cZ, mB, mF, mK, mN, mS, mM, mZ, litL, n_there hv, hc, e1, qb, pk_uLs, rn_at h, q2, m_weightOf h hv hN hl.2.2 hkn, Nat.one_ne_zero]
        · obtain ⟨w2, p2, t2, e2⟩ := m_areSo h hv hN hl hkn (Nat.le_refl _) w1 p1 t1
          obtain ⟨W, w, p, t, g1, g2⟩ := fin w2 p2 t2
          refine ⟨W, w, p, t, ?_, g2⟩
          rw [← g1]
          by_cases qs : allSo v k (v 5) = true
          · have ew : wt v k = wgt v k := by unfold wt; rw [qb, qs, decide_eq_false q2]; rfl
            rw [ew]
            simp (disch := omega) only [f_X8_weigh_8, bd_s, gd_tt, jn_s, lit32, gd_ix, nI_clamp, nI_add, pk_mul, nI_leI, nI_ltI, nI_eq, b2_0n, ite_f, ↓reduceIte, Bool.false_eq_true, Bool.true_eq_false, Nat.not_lt_zero, isb_b2, c_has, c_isHour, c_isKind, c_isPerson, m_isHour, m_isKind, m_isSheet, m_w, c_rN, c_rN2, cB, cF, cK, cN, cS, cM, cZ, mB, mF, mK, mN, mS, mM, mZ, litL, n_there hv, hc, e1, qb, pk_uLs, rn_at h, q2, e2, qs, m_weightOf h hv hN hl.2.2 hkn, Nat.one_ne_zero]
          · have qs : allSo v k (v 5) = false := by simpa using qs
            have ew : wt v k = 0 := by unfold wt; rw [qb, qs, decide_eq_false q2]; rfl
            rw [ew]
            simp (disch := omega) only [f_X8_weigh_8, bd_s, gd_tt, jn_s, lit32, gd_ix, nI_clamp, nI_add, pk_mul, nI_leI, nI_ltI, nI_eq, b2_0n, ite_f, ↓reduceIte, Bool.false_eq_true, Bool.true_eq_false, Nat.not_lt_zero, isb_b2, c_has, c_isHour, c_isKind, c_isPerson, m_isHour, m_isKind, m_isSheet, m_w, c_rN, c_rN2, cB, cF, cK, cN, cS, cM, cZ, mB, mF, mK, mN, mS, mM, mZ, litL, n_there hv, hc, e1, qb, pk_uLs, rn_at h, q2, e2, qs]
def MW (v : Nat → Nat) (W : Nat → Int64) : Prop := ∀ j, j < nn v → W j = lN (wt v j)
def alW (v : Nat → Nat) : Nat := smn (wt v) (nn v)
theorem m_weigh {v : Nat → Nat} {now : Nat → Int32} (h : RN v now) (hv : Vd v) {N : Nat} (hN : 2000 ≤ N) (order doubts : Nat → Int32) (dm : Int32) (weights : Nat → Int64) (worn : Nat → Int32) (pairs : Int64) (tw : Int32) :
    ∃ o d W w p t, f_X8_weigh N now order doubts dm weights worn pairs tw = some (lN (alW v), o, d, nI (dc v), W, w, p, t) ∧ ML v o d (nI (dc v)) ∧ MW v W := by
  have h64 := nn_le hv
  obtain ⟨o, d, g1, g2⟩ := m_lay h hv hN order doubts dm
  obtain ⟨W, w, p, t, e1, e2⟩ := m_weigh8 h hv hN g2 (nn v) N 0 weights worn pairs tw (by omega) (by omega) (fun j hj => absurd hj (Nat.not_lt_zero _))
  refine ⟨o, d, W, w, p, t, ?_, g2, e2⟩
  unfold f_X8_weigh
  rw [g1, bd_s]
  rw [show f_X8_weigh_8 N now o d (nI (dc v)) N (0 : Int64) (0 : Int32) weights worn pairs tw = some (lN (smn (wt v) (nn v)), W, w, p, t) from e1, bd_s]
  rfl
