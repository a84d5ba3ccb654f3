/-! ===== the class judges a night ===== -/
/-- the doubted bows made, as a set of bows -/
def bod (v : Nat → Nat) (n : Nat) : Nat → Nat
  | 0 => 0
  | k + 1 => bod v n k ||| (if n.testBit k = true then 2 ^ dh v k else 0)
theorem bod_lt {v : Nat → Nat} (hv : Vd v) (n : Nat) : ∀ k, k ≤ dc v → bod v n k < 2 ^ 20
  | 0, _ => Nat.two_pow_pos 20
  | k + 1, h => by
    have h3 := vd_3 hv
    have := (dh_is (v := v) (k := k) (by omega)).1
    refine Nat.or_lt_two_pow (bod_lt hv n k (by omega)) ?_
    split
    · exact Nat.pow_lt_pow_right (by decide) (by omega)
    · exact Nat.two_pow_pos 20
theorem bod_bit {v : Nat → Nat} (n : Nat) {b : Nat} (hb : b < v 3) : ∀ k, k ≤ dc v → (bod v n k).testBit b = (decide (v (6 + 4 * b + 3) < 10) && decide (dbc v b < k) && n.testBit (dbc v b))
  | 0, _ => by
    show (0 : Nat).testBit b = _
    rw [Nat.zero_testBit, decide_eq_false (Nat.not_lt_zero _), Bool.and_false, Bool.false_and]
  | k + 1, h => by
    have ih := bod_bit (v := v) n hb k (by omega)
    have hd := dh_is (v := v) (k := k) (by omega)
    show (bod v n k ||| _).testBit b = _
    rw [Nat.testBit_or, ih]
    by_cases q : dh v k = b
    · rw [q] at hd
      rw [decide_eq_true hd.2.1, hd.2.2, decide_eq_false (Nat.lt_irrefl k), decide_eq_true (Nat.lt_succ_self k), q]
      by_cases qt : n.testBit k = true
      · rw [if_pos qt, Nat.testBit_two_pow_self, qt]; rfl
      · rw [if_neg qt, Nat.zero_testBit]; simp at qt; rw [qt]; rfl
    · have e1 : (if n.testBit k = true then 2 ^ dh v k else 0).testBit b = false := by
        split
        · rw [Nat.testBit_two_pow, decide_eq_false q]
        · exact Nat.zero_testBit _
      rw [e1, Bool.or_false]
      by_cases q2 : v (6 + 4 * b + 3) < 10
      · have : dbc v b ≠ k := fun w => q (by rw [← w]; exact dh_eq hb q2)
        rw [show decide (dbc v b < k + 1) = decide (dbc v b < k) from decide_eq_decide.mpr (by omega)]
      · rw [decide_eq_false q2]; rfl
theorem c_bod4 {v : Nat → Nat} (hv : Vd v) {doubts : Nat → Int32} (hd : ∀ i, i < dc v → doubts i = nI (dh v i)) {n : Nat} (hn : n < 64) : ∀ d f k, k + d = dc v → d < f → f_X2_bowsOfDoubts_4 (nI n) doubts (nI (dc v)) f (nI (bod v n k)) (nI k) = some (nI (bod v n (dc v)))
  | 0, f, k, hk, hf => by
    have h6 := vd_dc hv
    cases f with
    | zero => omega
    | succ f =>
      have hc : dc v ≤ k := by omega
      simp (disch := omega) only [f_X2_bowsOfDoubts_4, bd_s, gd_tt, jn_s, lit32, gd_ix, nI_clamp, nI_add, pk_mul, nI_leI, nI_ltI, nI_eq, b2_0n, ite_f, ↓reduceIte, Bool.false_eq_true, Bool.true_eq_false, Nat.not_lt_zero, isb_b2, c_has, c_isHour, c_isKind, c_isPerson, m_isHour, m_isKind, m_isSheet, m_w, c_rN, c_rN2, cB, cF, cK, cN, cS, cM, cZ, mB, mF, mK, mN, mS, mM, mZ, hc]
      rw [show k = dc v by omega]
  | d + 1, f, k, hk, hf => by
    have h6 := vd_dc hv
    have h3 := vd_3 hv
    cases f with
    | zero => omega
    | succ f =>
      have hc : ¬ dc v ≤ k := by omega
      have hdk := (dh_is (v := v) (k := k) (by omega)).1
      have ih := c_bod4 hv hd hn d f (k + 1) (by omega) (by omega)
      simp (disch := omega) only [f_X2_bowsOfDoubts_4, bd_s, gd_tt, jn_s, lit32, gd_ix, nI_clamp, nI_add, pk_mul, nI_leI, nI_ltI, nI_eq, b2_0n, ite_f, ↓reduceIte, Bool.false_eq_true, Bool.true_eq_false, Nat.not_lt_zero, isb_b2, c_has, c_isHour, c_isKind, c_isPerson, m_isHour, m_isKind, m_isSheet, m_w, c_rN, c_rN2, cB, cF, cK, cN, cS, cM, cZ, mB, mF, mK, mN, mS, mM, mZ, hc, hd k (by omega), nI_31, nI_bit, b2_1n, nI_1shl, nI_or]
      rw [← ih]
      show _ = f_X2_bowsOfDoubts_4 (nI n) doubts (nI (dc v)) f (nI (bod v n k ||| _)) (nI (k + 1))
      by_cases qt : n.testBit k = true
      · rw [if_pos qt, if_pos qt, bd_s]
      · rw [if_neg qt, if_neg qt, bd_s, Nat.or_zero]
theorem c_bod {v : Nat → Nat} (hv : Vd v) {doubts : Nat → Int32} (hd : ∀ i, i < dc v → doubts i = nI (dh v i)) {n N : Nat} (hN : 2000 ≤ N) (hn : n < 64) : f_X2_bowsOfDoubts N doubts (nI (dc v)) (nI n) = some (nI (bod v n (dc v))) := by
  have h6 := vd_dc hv
  unfold f_X2_bowsOfDoubts
  rw [show f_X2_bowsOfDoubts_4 (nI n) doubts (nI (dc v)) N (0 : Int32) (0 : Int32) = some (nI (bod v n (dc v))) from c_bod4 hv hd hn (dc v) N 0 (by omega) (by omega), bd_s]
/-- all bows made in a night, as a set -/
def mdS (v : Nat → Nat) (n : Nat) : Nat := seb v (v 3) ||| bod v n (dc v)
theorem mdS_lt {v : Nat → Nat} (hv : Vd v) (n : Nat) : mdS v n < 2 ^ 20 := by
  have h3 := vd_3 hv
  exact Nat.or_lt_two_pow (Nat.lt_of_lt_of_le (seb_lt v (v 3)) (Nat.pow_le_pow_right (by decide) h3)) (bod_lt hv n (dc v) (Nat.le_refl _))
theorem mdS_bit {v : Nat → Nat} (n : Nat) {b : Nat} (hb : b < v 3) : (mdS v n).testBit b = mad v n b := by
  unfold mdS mad
  rw [Nat.testBit_or, seb_bit, bod_bit n hb (dc v) (Nat.le_refl _), decide_eq_true hb]
  by_cases q : v (6 + 4 * b + 3) < 10
  · have : dbc v b < dc v := dbc_lt v hb q
    rw [decide_eq_true q, decide_eq_true this, if_pos q]; simp
  · rw [decide_eq_false q, if_neg q]; rfl
theorem c_madeIn {v : Nat → Nat} (hv : Vd v) {doubts : Nat → Int32} (hd : ∀ i, i < dc v → doubts i = nI (dh v i)) {n N : Nat} (hN : 2000 ≤ N) (hn : n < 64) : f_X2_bowsMadeIn N doubts (nI (dc v)) (nI (seb v (v 3))) (nI n) = some (nI (mdS v n)) := by
  unfold f_X2_bowsMadeIn
  rw [c_bod hv hd hN hn, bd_s, nI_or]; rfl
theorem c_zero8 : ∀ d n k (f : Nat → Int32), k + d = 8 → d < n → (∀ m, m < k → f m = nI 0) → ∃ r, f_X2_makeBows_2 n (nI k) f = some r ∧ ∀ m, m < 8 → r m = nI 0
  | 0, n, k, f, hk, hn, hw => by
    cases n with
    | zero => omega
    | succ n =>
      have hc : 8 ≤ k := by omega
      refine ⟨f, ?_, fun m hm => hw m (by omega)⟩
      simp (disch := omega) only [f_X2_makeBows_2, bd_s, gd_tt, jn_s, lit32, gd_ix, nI_clamp, nI_add, pk_mul, nI_leI, nI_ltI, nI_eq, b2_0n, ite_f, ↓reduceIte, Bool.false_eq_true, Bool.true_eq_false, Nat.not_lt_zero, isb_b2, c_has, c_isHour, c_isKind, c_isPerson, m_isHour, m_isKind, m_isSheet, m_w, c_rN, c_rN2, cB, cF, cK, cN, cS, cM, cZ, mB, mF, mK, mN, mS, mM, mZ, hc]
  | d + 1, n, k, f, hk, hn, hw => by
    cases n with
    | zero => omega
    | succ n =>
      have hc : ¬ 8 ≤ k := by omega
      obtain ⟨r, h1, h2⟩ := c_zero8 d n (k + 1) (upd f k (nI 0)) (by omega) (by omega) (fun m hm => by
        by_cases q : m = k
        · rw [q, pk_us]
        · rw [pk_un q]; exact hw m (by omega))
      refine ⟨r, ?_, h2⟩
      simp (disch := omega) only [f_X2_makeBows_2, bd_s, gd_tt, jn_s, lit32, gd_ix, nI_clamp, nI_add, pk_mul, nI_leI, nI_ltI, nI_eq, b2_0n, ite_f, ↓reduceIte, Bool.false_eq_true, Bool.true_eq_false, Nat.not_lt_zero, isb_b2, c_has, c_isHour, c_isKind, c_isPerson, m_isHour, m_isKind, m_isSheet, m_w, c_rN, c_rN2, cB, cF, cK, cN, cS, cM, cZ, mB, mF, mK, mN, mS, mM, mZ, hc]
      exact h1
theorem c_zero8b : ∀ d n k (f : Nat → Int32), k + d = 8 → d < n → (∀ m, m < k → f m = nI 0) → ∃ r, f_X2_lookAnew_56 n (nI k) f = some r ∧ ∀ m, m < 8 → r m = nI 0
  | 0, n, k, f, hk, hn, hw => by
    cases n with
    | zero => omega
    | succ n =>
      have hc : 8 ≤ k := by omega
      refine ⟨f, ?_, fun m hm => hw m (by omega)⟩
      simp (disch := omega) only [f_X2_lookAnew_56, bd_s, gd_tt, jn_s, lit32, gd_ix, nI_clamp, nI_add, pk_mul, nI_leI, nI_ltI, nI_eq, b2_0n, ite_f, ↓reduceIte, Bool.false_eq_true, Bool.true_eq_false, Nat.not_lt_zero, isb_b2, c_has, c_isHour, c_isKind, c_isPerson, m_isHour, m_isKind, m_isSheet, m_w, c_rN, c_rN2, cB, cF, cK, cN, cS, cM, cZ, mB, mF, mK, mN, mS, mM, mZ, hc]
  | d + 1, n, k, f, hk, hn, hw => by
    cases n with
    | zero => omega
    | succ n =>
      have hc : ¬ 8 ≤ k := by omega
      obtain ⟨r, h1, h2⟩ := c_zero8b d n (k + 1) (upd f k (nI 0)) (by omega) (by omega) (fun m hm => by
        by_cases q : m = k
        · rw [q, pk_us]
        · rw [pk_un q]; exact hw m (by omega))
      refine ⟨r, ?_, h2⟩
      simp (disch := omega) only [f_X2_lookAnew_56, bd_s, gd_tt, jn_s, lit32, gd_ix, nI_clamp, nI_add, pk_mul, nI_leI, nI_ltI, nI_eq, b2_0n, ite_f, ↓reduceIte, Bool.false_eq_true, Bool.true_eq_false, Nat.not_lt_zero, isb_b2, c_has, c_isHour, c_isKind, c_isPerson, m_isHour, m_isKind, m_isSheet, m_w, c_rN, c_rN2, cB, cF, cK, cN, cS, cM, cZ, mB, mF, mK, mN, mS, mM, mZ, hc]
      exact h1
/-- rows of a night are right up to its k-th bow -/
def RR (v : Nat → Nat) (rows : Nat → Int32) (n : Nat) : Nat → Prop := fun m => ∀ j, j ≤ m → RW (nst v n j).1 (rows (21 * n + j))
theorem c_s46 {n M B k o a b f : Nat} {order cells rows bt bt' : Nat → Int32} {row row' x4 x y z : Int32} (hk : k < B) (hB : B ≤ 20) (hn : n < 64) (hM : M < 2 ^ 20) (eo : order k = nI o) (ho : o < B) (hbit : M.testBit o = true) (q1 : f_X4_cell (nI 4) (nI B) cells 80 (nI o) (nI 1) = some (nI a)) (q2 : f_X4_cell (nI 4) (nI B) cells 80 (nI o) (nI 2) = some (nI b)) (w1 : f_X7_wearer row (nI a) = some x) (w2 : f_X7_wearer row (nI b) = some y) (y1 : f_X2_noteBow bt x y = some (z, bt')) (x1 : f_X7_changed row (nI a) (nI b) = some row') :
    f_X2_makeBows_46 (nI n) (nI M) order (nI B) (nI B) cells (f + 1) row x4 (nI k) rows bt = f_X2_makeBows_46 (nI n) (nI M) order (nI B) (nI B) cells f row' (x4 ||| z) (nI (k + 1)) (upd rows (21 * n + (k + 1)) row') bt' := by
  have hc : ¬ B ≤ k := by omega
  simp (disch := omega) only [f_X2_makeBows_46, f_X4_size, bd_s, lit32, nI_leI, hc, ↓reduceIte, nI_clamp, gd_ix, eo, nI_31, nI_bit, b2_1n, hbit, nI_add, pk_mul]
  rw [q1, bd_s, q2, bd_s, w1, bd_s, w2, bd_s, y1, bd_s, x1, bd_s, bd_s, show n * 21 + k + 1 = 21 * n + (k + 1) by omega]
theorem c_make46 {v : Nat → Nat} {cells order : Nat → Int32} (h : ∀ j, j < 80 → cells j = nI (v (6 + j))) (hv : Vd v) (ho : ∀ j, j < v 3 → order j = nI (od v j)) {n : Nat} (hn : n < 64) : ∀ d f k (row : Int32) (rows bt : Nat → Int32), k + d = v 3 → d < f → RW (nst v n k).1 row → BT (nst v n k) bt → RR v rows n k →
    ∃ R B, f_X2_makeBows_46 (nI n) (nI (mdS v n)) order (nI (v 3)) (nI (v 3)) cells f row (b2 (nst v n k).2.2) (nI k) rows bt = some (b2 (nst v n (v 3)).2.2, R, B) ∧ BT (nst v n (v 3)) B ∧ RR v R n (v 3) ∧ ∀ i, (i < 21 * n ∨ 21 * n + 21 ≤ i) → R i = rows i := by
  intro d
  induction d with
  | zero =>
    intro f k row rows bt hk hf hr hb hR
    have h3 := vd_3 hv
    cases f with
    | zero => omega
    | succ f =>
      have hc : v 3 ≤ k := by omega
      have hk : k = v 3 := by omega
      refine ⟨rows, bt, ?_, by rw [← hk]; exact hb, by rw [← hk]; exact hR, fun i _ => rfl⟩
      simp (disch := omega) only [f_X2_makeBows_46, f_X4_size, bd_s, gd_tt, jn_s, lit32, gd_ix, nI_clamp, nI_add, pk_mul, nI_leI, nI_ltI, nI_eq, b2_0n, ite_f, ↓reduceIte, Bool.false_eq_true, Bool.true_eq_false, Nat.not_lt_zero, isb_b2, c_has, c_isHour, c_isKind, c_isPerson, m_isHour, m_isKind, m_isSheet, m_w, c_rN, c_rN2, cB, cF, cK, cN, cS, cM, cZ, mB, mF, mK, mN, mS, mM, mZ, hc]
      rw [hk]
  | succ d ih =>
    intro f k row rows bt hk hf hr hb hR
    have h3 := vd_3 hv
    have h8 := vd_hi hv
    have hmd := mdS_lt hv n
    cases f with
    | zero => omega
    | succ f =>
      have hc : ¬ v 3 ≤ k := by omega
      have e1 := ho k (by omega)
      have hod : od v k < v 3 := od_lt (by omega)
      obtain ⟨-, c1, c2, c3, -⟩ := vd_b hv (od v k) hod
      have hp := Pm_n hv n k (by omega)
      by_cases qm : mad v n (od v k) = true
      · have e3 : nst v n (k + 1) = stp (nst v n k) (v (6 + 4 * od v k + 1)) (v (6 + 4 * od v k + 2)) := by
          show (if _ then _ else _) = _
          rw [if_pos qm]
        obtain ⟨row', x1, x2⟩ := c_changed hr (a := v (6 + 4 * od v k + 1)) (b := v (6 + 4 * od v k + 2)) (by omega) (by omega) c3 (hp.1 _ (by omega)) (hp.1 _ (by omega))
        obtain ⟨bt', y1, y2⟩ := c_note hb hp (a := v (6 + 4 * od v k + 1)) (b := v (6 + 4 * od v k + 2)) (by omega) (by omega) c3
        have w1 := c_wearer hr (m := v (6 + 4 * od v k + 1)) (by omega) (hp.1 _ (by omega))
        have w2 := c_wearer hr (m := v (6 + 4 * od v k + 2)) (by omega) (hp.1 _ (by omega))
        obtain ⟨R, B, g1, g2, g3, g4⟩ := ih f (k + 1) row' (upd rows (21 * n + (k + 1)) row') bt' (by omega) (by omega) (by rw [e3]; exact x2) (by rw [e3]; exact y2) (fun j hj => by
          by_cases q : j = k + 1
          · rw [q, pk_us, e3]; exact x2
          · rw [pk_un (by omega)]; exact hR j (by omega))
        refine ⟨R, B, ?_, g2, g3, fun i hi => by rw [g4 i hi, pk_un (by omega)]⟩
        have q1 := c_bow h hod h3 (show 1 < 4 by decide)
        have q2 := c_bow h hod h3 (show 2 < 4 by decide)
        rw [c_s46 (by omega) h3 hn hmd e1 hod (by rw [mdS_bit n hod]; exact qm) q1 q2 w1 w2 y1 x1, b2_or]
        have e4 : (nst v n (k + 1)).2.2 = ((nst v n k).2.2 || (nst v n k).2.1 ((nst v n k).1 (v (6 + 4 * od v k + 1))) ((nst v n k).1 (v (6 + 4 * od v k + 2)))) := by rw [e3]; rfl
        rw [e4] at g1
        exact g1
      · have e3 : nst v n (k + 1) = nst v n k := by
          show (if _ then _ else _) = _
          rw [if_neg qm]
        obtain ⟨R, B, g1, g2, g3, g4⟩ := ih f (k + 1) row (upd rows (21 * n + (k + 1)) row) bt (by omega) (by omega) (by rw [e3]; exact hr) (by rw [e3]; exact hb) (fun j hj => by
          by_cases q : j = k + 1
          · rw [q, pk_us, e3]; exact hr
          · rw [pk_un (by omega)]; exact hR j (by omega))
        refine ⟨R, B, ?_, g2, g3, fun i hi => by rw [g4 i hi, pk_un (by omega)]⟩
        simp (disch := omega) only [f_X2_makeBows_46, f_X4_size, bd_s, gd_tt, jn_s, lit32, gd_ix, nI_clamp, nI_add, pk_mul, nI_leI, nI_ltI, nI_eq, b2_0n, ite_f, ↓reduceIte, Bool.false_eq_true, Bool.true_eq_false, Nat.not_lt_zero, isb_b2, c_has, c_isHour, c_isKind, c_isPerson, m_isHour, m_isKind, m_isSheet, m_w, c_rN, c_rN2, cB, cF, cK, cN, cS, cM, cZ, mB, mF, mK, mN, mS, mM, mZ, hc, e1, nI_31, nI_bit, b2_1n, mdS_bit n hod, qm]
        rw [show n * 21 + k + 1 = 21 * n + (k + 1) by omega]
        rw [e3] at g1
        exact g1
theorem c_make {v : Nat → Nat} {cells order doubts : Nat → Int32} (h : ∀ j, j < 80 → cells j = nI (v (6 + j))) (hv : Vd v) (ho : ∀ j, j < v 3 → order j = nI (od v j)) (hd : ∀ i, i < dc v → doubts i = nI (dh v i)) {n N : Nat} (hN : 2000 ≤ N) (hn : n < 64) (rows bt : Nat → Int32) :
    ∃ R B, f_X2_makeBows N order doubts rows bt (nI (v 3)) (nI (dc v)) (nI (seb v (v 3))) (nI (v 3)) cells (nI n) = some (b2 (nst v n (v 3)).2.2, R, B) ∧ BT (nst v n (v 3)) B ∧ RR v R n (v 3) ∧ ∀ i, (i < 21 * n ∨ 21 * n + 21 ≤ i) → R i = rows i := by
  have h3 := vd_3 hv
  obtain ⟨z, z1, z2⟩ := c_zero8 8 N 0 bt rfl (by omega) (fun m hm => absurd hm (Nat.not_lt_zero _))
  obtain ⟨R, B, g1, g2, g3, g4⟩ := c_make46 h hv ho hn (v 3) N 0 (nI 16434824) (upd rows (n * 21) (nI 16434824)) z (by omega) (by omega) RW_home (fun p hp => ⟨0, z2 p hp, by decide, fun q _ => Nat.zero_testBit _⟩) (fun j hj => by
    obtain rfl : j = 0 := by omega
    rw [show 21 * n + 0 = n * 21 by omega, pk_us]; exact RW_home)
  refine ⟨R, B, ?_, g2, g3, fun i hi => by rw [g4 i hi, pk_un (by omega)]⟩
  have g1' : f_X2_makeBows_46 (nI n) (nI (mdS v n)) order (nI (v 3)) (nI (v 3)) cells N (nI 16434824) (nI 0) (nI 0) (upd rows (n * 21) (nI 16434824)) z = some (b2 (nst v n (v 3)).2.2, R, B) := g1
  simp (disch := omega) only [f_X2_makeBows, bd_s, gd_tt, jn_s, lit32, gd_ix, nI_clamp, nI_add, pk_mul, nI_leI, nI_ltI, nI_eq, b2_0n, ite_f, ↓reduceIte, Bool.false_eq_true, Bool.true_eq_false, Nat.not_lt_zero, isb_b2, c_has, c_isHour, c_isKind, c_isPerson, m_isHour, m_isKind, m_isSheet, m_w, c_rN, c_rN2, cB, cF, cK, cN, cS, cM, cZ, mB, mF, mK, mN, mS, mM, mZ, z1, c_madeIn hv hd hN, g1']
theorem c_weight4 {v : Nat → Nat} {cells : Nat → Int32} (h : ∀ j, j < 80 → cells j = nI (v (6 + j))) (hv : Vd v) {doubts : Nat → Int32} (hd : ∀ i, i < dc v → doubts i = nI (dh v i)) {n : Nat} (hn : n < 64) : ∀ d f k, k + d = dc v → d < f → f_X2_weightOf_4 (nI n) doubts (nI (dc v)) (nI (v 3)) cells f (nI (wgd v n k)) (nI k) = some (nI (wgt v n))
  | 0, f, k, hk, hf => by
    have h6 := vd_dc hv
    cases f with
    | zero => omega
    | succ f =>
      have hc : dc v ≤ k := by omega
      have hk : k = dc v := by omega
      simp (disch := omega) only [f_X2_weightOf_4, bd_s, gd_tt, jn_s, lit32, gd_ix, nI_clamp, nI_add, pk_mul, nI_leI, nI_ltI, nI_eq, b2_0n, ite_f, ↓reduceIte, Bool.false_eq_true, Bool.true_eq_false, Nat.not_lt_zero, isb_b2, c_has, c_isHour, c_isKind, c_isPerson, m_isHour, m_isKind, m_isSheet, m_w, c_rN, c_rN2, cB, cF, cK, cN, cS, cM, cZ, mB, mF, mK, mN, mS, mM, mZ, hc]
      rw [hk]; rfl
  | d + 1, f, k, hk, hf => by
    have h6 := vd_dc hv
    have h3 := vd_3 hv
    cases f with
    | zero => omega
    | succ f =>
      have hc : ¬ dc v ≤ k := by omega
      have hdk := dh_is (v := v) (k := k) (by omega)
      have ht := hdk.2.1
      have hlt := hdk.1
      have ih := c_weight4 h hv hd hn d f (k + 1) (by omega) (by omega)
      simp (disch := omega) only [f_X2_weightOf_4, bd_s, gd_tt, jn_s, lit32, gd_ix, nI_clamp, nI_add, pk_mul, nI_leI, nI_ltI, nI_eq, b2_0n, ite_f, ↓reduceIte, Bool.false_eq_true, Bool.true_eq_false, Nat.not_lt_zero, isb_b2, c_has, c_isHour, c_isKind, c_isPerson, m_isHour, m_isKind, m_isSheet, m_w, c_rN, c_rN2, cB, cF, cK, cN, cS, cM, cZ, mB, mF, mK, mN, mS, mM, mZ, hc, hd k (by omega), nI_31, nI_bit, b2_1n, c_bow h, pk_sub, some_ite]
      rw [← ih, show (if n.testBit k = true then nI (v (6 + 4 * dh v k + 3)) else nI (10 - v (6 + 4 * dh v k + 3))) = nI (if n.testBit k = true then v (6 + 4 * dh v k + 3) else 10 - v (6 + 4 * dh v k + 3)) by split <;> rfl, pk_mul]
      rfl
theorem c_weightOf {v : Nat → Nat} {cells : Nat → Int32} (h : ∀ j, j < 80 → cells j = nI (v (6 + j))) (hv : Vd v) {doubts : Nat → Int32} (hd : ∀ i, i < dc v → doubts i = nI (dh v i)) {n N : Nat} (hN : 2000 ≤ N) (hn : n < 64) : f_X2_weightOf N doubts (nI (dc v)) (nI (v 3)) cells (nI n) = some (nI (wgt v n)) := by
  have h6 := vd_dc hv
  unfold f_X2_weightOf
  rw [show f_X2_weightOf_4 (nI n) doubts (nI (dc v)) (nI (v 3)) cells N (1 : Int32) (0 : Int32) = some (nI (wgt v n)) from c_weight4 h hv hd hn (dc v) N 0 (by omega) (by omega), bd_s]
theorem c_row {v : Nat → Nat} {stepsAt rows : Nat → Int32} (hs : ∀ h, h < 100 → stepsAt h = nI (sts v h)) (hv : Vd v) {n hour : Nat} (hn : n < 64) (hh : hour < 100) : f_X2_row stepsAt rows (nI n) (nI hour) = some (rows (21 * n + sts v hour)) := by
  have h3 := vd_3 hv
  have hst := sts_le v hour
  have hc : ¬ 64 ≤ n := by omega
  simp (disch := omega) only [f_X2_row, bd_s, gd_tt, jn_s, lit32, gd_ix, nI_clamp, nI_add, pk_mul, nI_leI, nI_ltI, nI_eq, b2_0n, ite_f, ↓reduceIte, Bool.false_eq_true, Bool.true_eq_false, Nat.not_lt_zero, isb_b2, c_has, c_isHour, c_isKind, c_isPerson, m_isHour, m_isKind, m_isSheet, m_w, c_rN, c_rN2, cB, cF, cK, cN, cS, cM, cZ, mB, mF, mK, mN, mS, mM, mZ, hc, hh, hs hour hh]
  rw [show n * 21 + sts v hour = 21 * n + sts v hour by omega]
theorem c_isSo {v : Nat → Nat} {scells stepsAt rows : Nat → Int32} (h : ∀ j, j < 40 → scells j = nI (v (146 + j))) (hv : Vd v) (hs : ∀ h, h < 100 → stepsAt h = nI (sts v h)) {n s : Nat} (hn : n < 64) (hsn : s < v 5) (hR : RR v rows n (v 3)) : f_X2_isSo stepsAt rows (nI (v 5)) scells (nI s) (nI n) = some (b2 (soo v n s)) := by
  have h5 := vd_5 hv
  have h8 := vd_hi hv
  obtain ⟨s0, s1, s2, s3⟩ := vd_s hv s hsn
  have hp := Pm_n hv n (sts v (v (146 + 4 * s + 0))) (sts_le _ _)
  have hw := c_wearer (hR _ (sts_le v (v (146 + 4 * s + 0)))) (m := v (146 + 4 * s + 1)) (by omega) (hp.1 _ (by omega))
  have hwb := hp.1 (v (146 + 4 * s + 1)) (by omega)
  simp (disch := omega) only [f_X2_isSo, bd_s, gd_tt, jn_s, lit32, gd_ix, nI_clamp, nI_add, pk_mul, nI_leI, nI_ltI, nI_eq, b2_0n, ite_f, ↓reduceIte, Bool.false_eq_true, Bool.true_eq_false, Nat.not_lt_zero, isb_b2, c_has, c_isHour, c_isKind, c_isPerson, m_isHour, m_isKind, m_isSheet, m_w, c_rN, c_rN2, cB, cF, cK, cN, cS, cM, cZ, mB, mF, mK, mN, mS, mM, mZ, c_say h, c_row hs hv hn s0, hw, ite_b2n, b2_eq]
  congr 1
theorem c_so2 {v : Nat → Nat} {scells stepsAt rows : Nat → Int32} (h : ∀ j, j < 40 → scells j = nI (v (146 + j))) (hv : Vd v) (hs : ∀ h, h < 100 → stepsAt h = nI (sts v h)) {n : Nat} (hn : n < 64) (hR : RR v rows n (v 3)) : ∀ d f k, k + d = v 5 → d < f → f_X2_sayingsSo_2 (nI n) stepsAt rows (nI (v 5)) scells f (nI k) = some (nI (run (fun s => soo v n s) d k))
  | 0, f, k, hk, hf => by
    have h5 := vd_5 hv
    cases f with
    | zero => omega
    | succ f =>
      have hc : v 5 ≤ k := by omega
      simp (disch := omega) only [f_X2_sayingsSo_2, f_X4_size, bd_s, gd_tt, jn_s, lit32, gd_ix, nI_clamp, nI_add, pk_mul, nI_leI, nI_ltI, nI_eq, b2_0n, ite_f, ↓reduceIte, Bool.false_eq_true, Bool.true_eq_false, Nat.not_lt_zero, isb_b2, c_has, c_isHour, c_isKind, c_isPerson, m_isHour, m_isKind, m_isSheet, m_w, c_rN, c_rN2, cB, cF, cK, cN, cS, cM, cZ, mB, mF, mK, mN, mS, mM, mZ, hc]
      rfl
  | d + 1, f, k, hk, hf => by
    have h5 := vd_5 hv
    cases f with
    | zero => omega
    | succ f =>
      have hc : ¬ v 5 ≤ k := by omega
      have e1 := c_isSo h hv hs hn (s := k) (by omega) hR
      have ih := c_so2 h hv hs hn hR d f (k + 1) (by omega) (by omega)
      unfold run
      by_cases q : soo v n k = true
      · rw [if_pos q]
        simp (disch := omega) only [f_X2_sayingsSo_2, f_X4_size, bd_s, gd_tt, jn_s, lit32, gd_ix, nI_clamp, nI_add, pk_mul, nI_leI, nI_ltI, nI_eq, b2_0n, ite_f, ↓reduceIte, Bool.false_eq_true, Bool.true_eq_false, Nat.not_lt_zero, isb_b2, c_has, c_isHour, c_isKind, c_isPerson, m_isHour, m_isKind, m_isSheet, m_w, c_rN, c_rN2, cB, cF, cK, cN, cS, cM, cZ, mB, mF, mK, mN, mS, mM, mZ, hc, e1, q]
        exact ih
      · rw [if_neg q]
        simp (disch := omega) only [f_X2_sayingsSo_2, f_X4_size, bd_s, gd_tt, jn_s, lit32, gd_ix, nI_clamp, nI_add, pk_mul, nI_leI, nI_ltI, nI_eq, b2_0n, ite_f, ↓reduceIte, Bool.false_eq_true, Bool.true_eq_false, Nat.not_lt_zero, isb_b2, c_has, c_isHour, c_isKind, c_isPerson, m_isHour, m_isKind, m_isSheet, m_w, c_rN, c_rN2, cB, cF, cK, cN, cS, cM, cZ, mB, mF, mK, mN, mS, mM, mZ, hc, e1, q]
theorem c_sayings {v : Nat → Nat} {scells stepsAt rows : Nat → Int32} (h : ∀ j, j < 40 → scells j = nI (v (146 + j))) (hv : Vd v) (hs : ∀ h, h < 100 → stepsAt h = nI (sts v h)) {n N : Nat} (hN : 2000 ≤ N) (hn : n < 64) (hR : RR v rows n (v 3)) : f_X2_sayingsSo N stepsAt rows (nI (v 5)) scells (nI n) = some (nI (lead v n)) := by
  have h5 := vd_5 hv
  unfold f_X2_sayingsSo
  rw [show (0 : Int32) = nI 0 from rfl, c_so2 h hv hs hn hR (v 5) N 0 (by omega) (by omega), bd_s]
  rfl
theorem allSo_iff (v : Nat → Nat) (n : Nat) : ∀ k, allSo v n k = true ↔ ∀ j, j < k → soo v n j = true
  | 0 => ⟨fun _ j hj => absurd hj (Nat.not_lt_zero _), fun _ => rfl⟩
  | k + 1 => by
    show (allSo v n k && soo v n k) = true ↔ _
    rw [Bool.and_eq_true, allSo_iff v n k]
    constructor
    · intro ⟨h1, h2⟩ j hj
      by_cases q : j = k
      · rw [q]; exact h2
      · exact h1 j (by omega)
    · intro h; exact ⟨fun j hj => h j (by omega), h k (by omega)⟩
theorem lead_le (v : Nat → Nat) (n : Nat) : lead v n ≤ v 5 := by have := (run_le (fun s => soo v n s) (v 5) 0).2; unfold lead; omega
theorem lead_iff (v : Nat → Nat) (n : Nat) {m : Nat} (hm : m ≤ v 5) : m ≤ lead v n ↔ allSo v n m = true := by
  rw [allSo_iff]
  constructor
  · intro h j hj
    exact run_true (p := fun s => soo v n s) (v 5) 0 j (by omega) (by unfold lead at h; omega)
  · intro h
    refine Classical.byContradiction fun q => ?_
    have h1 : run (fun s => soo v n s) (v 5) 0 < m := by unfold lead at q; omega
    have h2 := run_more (p := fun s => soo v n s) (v 5) 0 (by omega)
    have h3 := h _ h1
    simp only [h3] at h2
    cases h2
/-- who met whom ever, as the class notes it -/
def ME (v : Nat → Nat) (k : Nat) (me : Nat → Int32) : Prop := ∀ p, p < 8 → ∃ e : Nat, me p = nI e ∧ e < 256 ∧ ∀ q, q < 8 → e.testBit q = metS v p q k
theorem c_j82 {v : Nat → Nat} {n : Nat} {bt : Nat → Int32} (hb : BT (nst v n (v 3)) bt) (hw : 0 < wt v n) : ∀ d f k (me : Nat → Int32), k + d = 8 → d < f → (∀ p, p < k → ∃ e : Nat, me p = nI e ∧ e < 256 ∧ ∀ q, q < 8 → e.testBit q = metS v p q (n + 1)) → (∀ p, k ≤ p → p < 8 → ∃ e : Nat, me p = nI e ∧ e < 256 ∧ ∀ q, q < 8 → e.testBit q = metS v p q n) →
    ∃ r, f_X2_judge_82 bt f (nI k) me = some r ∧ ME v (n + 1) r
  | 0, f, k, me, hk, hf, h1, h2 => by
    cases f with
    | zero => omega
    | succ f =>
      have hc : 8 ≤ k := by omega
      refine ⟨me, ?_, fun p hp => h1 p (by omega)⟩
      simp (disch := omega) only [f_X2_judge_82, bd_s, gd_tt, jn_s, lit32, gd_ix, nI_clamp, nI_add, pk_mul, nI_leI, nI_ltI, nI_eq, b2_0n, ite_f, ↓reduceIte, Bool.false_eq_true, Bool.true_eq_false, Nat.not_lt_zero, isb_b2, c_has, c_isHour, c_isKind, c_isPerson, m_isHour, m_isKind, m_isSheet, m_w, c_rN, c_rN2, cB, cF, cK, cN, cS, cM, cZ, mB, mF, mK, mN, mS, mM, mZ, hc]
  | d + 1, f, k, me, hk, hf, h1, h2 => by
    cases f with
    | zero => omega
    | succ f =>
      have hc : ¬ 8 ≤ k := by omega
      obtain ⟨e, a1, a2, a3⟩ := h2 k (by omega) (by omega)
      obtain ⟨g, b1, b2, b3⟩ := hb k (by omega)
      obtain ⟨r, g1, g2⟩ := c_j82 hb hw d f (k + 1) (upd me k (nI (e ||| g))) (by omega) (by omega) (fun p hp => by
        by_cases q : p = k
        · rw [q, pk_us]
          refine ⟨e ||| g, rfl, Nat.or_lt_two_pow (n := 8) a2 b2, fun z hz => ?_⟩
          rw [Nat.testBit_or, a3 z hz, b3 z hz]
          show _ = (metS v k z n || (decide (0 < wt v n) && (nst v n (v 3)).2.1 k z))
          rw [decide_eq_true hw, Bool.true_and]
        · rw [pk_un q]; exact h1 p (by omega)) (fun p hp hp8 => by
        rw [pk_un (by omega)]; exact h2 p (by omega) hp8)
      refine ⟨r, ?_, g2⟩
      simp (disch := omega) only [f_X2_judge_82, bd_s, gd_tt, jn_s, lit32, gd_ix, nI_clamp, nI_add, pk_mul, nI_leI, nI_ltI, nI_eq, b2_0n, ite_f, ↓reduceIte, Bool.false_eq_true, Bool.true_eq_false, Nat.not_lt_zero, isb_b2, c_has, c_isHour, c_isKind, c_isPerson, m_isHour, m_isKind, m_isSheet, m_w, c_rN, c_rN2, cB, cF, cK, cN, cS, cM, cZ, mB, mF, mK, mN, mS, mM, mZ, hc, a1, b1, nI_or]
      exact g1
theorem msf_le (v : Nat → Nat) : ∀ k, msf v k ≤ v 5
  | 0 => Nat.zero_le _
  | k + 1 => by
    unfold msf
    split
    · exact Nat.max_le.mpr ⟨msf_le v k, lead_le v k⟩
    · exact msf_le v k
theorem nI_max {a b : Nat} (ha : a < 2 ^ 31) (hb : b < 2 ^ 31) : (if nI a < nI b then nI b else nI a) = nI (Nat.max a b) := by
  by_cases q : a < b
  · rw [if_pos (nI_lt q hb), show Nat.max a b = b from Nat.max_eq_right (by omega)]
  · rw [if_neg (nI_nlt (by omega) ha), show Nat.max a b = a from Nat.max_eq_left (by omega)]
theorem bst_64 {v : Nat → Nat} {k b : Nat} (h : bst v k = some b) : b < k := (bst_lt v k b h).1
/-- the class's table while nights are judged: the first k are -/
def TJ (v : Nat → Nat) (k : Nat) (weights rows me : Nat → Int32) (lk ms : Int32) : Prop :=
  (∀ n, n < k → weights n = nI (wt v n)) ∧ (∀ n, n < k → 0 < wgt v n → RR v rows n (v 3)) ∧ ME v k me ∧ lk = lkI (bst v k) ∧ ms = nI (msf v k)
