/-! ===== cells on both sides ===== -/
theorem m_w {a : Int32} {h : Nat} (hh : h < 2 ^ 31) : f_X8_within a (nI 0) (nI h) = some (b2 (inr a (h + 1))) := m_within0 (n := h + 1) (by rw [nI_toInt hh]; omega)
theorem m_wl {a : Int32} {l h : Nat} (hl : l < 2 ^ 31) (hh : h < 2 ^ 31) : f_X8_within a (nI l) (nI h) = some (b2 (decide ((l : Int) ≤ a.toInt ∧ a.toInt ≤ (h : Int)))) := by
  rw [m_within, nI_toInt hl, nI_toInt hh]
theorem m_isHour (a : Int32) : f_X8_isHour a = some (b2 (inr a 100)) := by
  unfold f_X8_isHour; rw [m_within0 (n := 100) (by decide), bd_s, isb_b2]; rfl
theorem m_isKind (a : Int32) : f_X8_isKind a = some (b2 (inr a 6)) := by
  unfold f_X8_isKind; rw [m_within0 (n := 6) (by decide), bd_s, isb_b2]; rfl
theorem m_isSheet (a : Int32) : f_X8_isSheet a = some (b2 (inr a 4)) := by
  unfold f_X8_isSheet; rw [m_within0 (n := 4) (by decide), bd_s, isb_b2]; rfl
theorem m_isOne {v : Nat → Nat} {now : Nat → Int32} (h : RN v now) (hv : Vd v) (a : Int32) : f_X8_isOne now a = some (b2 (inr a (v 0))) := by
  have h8 := vd_hi hv
  unfold f_X8_isOne
  rw [show (0 : Int32).toNatClampNeg = 0 from rfl, rn_at h (by omega) (by omega) (by omega), m_withinN (by omega), bd_s, isb_b2]; rfl
theorem m_isBow {v : Nat → Nat} {now : Nat → Int32} (h : RN v now) (hv : Vd v) (a : Int32) : f_X8_isBow now a = some (b2 (inr a (v 3))) := by
  have h8 := vd_3 hv
  unfold f_X8_isBow
  rw [show (3 : Int32).toNatClampNeg = 3 from rfl, rn_at h (by omega) (by omega) (by omega), m_withinN (by omega), bd_s, isb_b2]; rfl
theorem m_isDeed {e : Nat → Nat} {now : Nat → Int32} (h : RE e now) (hv : e 60 ≤ 12) (a : Int32) : f_X8_isDeed now a = some (b2 (inr a (e 60))) := by
  unfold f_X8_isDeed
  rw [show (4 : Int32).toNatClampNeg = 4 from rfl, h.1, m_withinN (by omega), bd_s, isb_b2]; rfl
theorem m_wn {a : Int32} {n : Nat} (h : n < 2 ^ 30) : f_X8_within a (nI 0) (nI n - nI 1) = some (b2 (inr a n)) := m_withinN h
theorem m_bowIs {v : Nat → Nat} {now : Nat → Int32} (h : RN v now) {b i : Nat} (hb : b < 20) (hi : i < 4) : f_X8_bowIs now (nI b) (nI i) = some (nI (v (6 + 4 * b + i))) := by
  unfold f_X8_bowIs
  simp (disch := omega) only [bd_s, gd_tt, jn_s, lit32, gd_ix, nI_clamp, nI_add, pk_mul, nI_leI, nI_ltI, nI_eq, b2_0n, ite_f, ↓reduceIte, Bool.false_eq_true, Bool.true_eq_false, Nat.not_lt_zero, isb_b2, c_has, c_isHour, c_isKind, c_isPerson, rn_at h]
theorem m_sayingIs {v : Nat → Nat} {now : Nat → Int32} (h : RN v now) {b i : Nat} (hb : b < 10) (hi : i < 4) : f_X8_sayingIs now (nI b) (nI i) = some (nI (v (146 + 4 * b + i))) := by
  unfold f_X8_sayingIs
  simp (disch := omega) only [bd_s, gd_tt, jn_s, lit32, gd_ix, nI_clamp, nI_add, pk_mul, nI_leI, nI_ltI, nI_eq, b2_0n, ite_f, ↓reduceIte, Bool.false_eq_true, Bool.true_eq_false, Nat.not_lt_zero, isb_b2, c_has, c_isHour, c_isKind, c_isPerson, rn_at h]
theorem m_deedIs {e : Nat → Nat} {now : Nat → Int32} (h : RE e now) {b i : Nat} (hb : b < 12) (hi : i < 5) : f_X8_deedIs now (nI b) (nI i) = some (nI (e (5 * b + i))) := by
  unfold f_X8_deedIs
  simp (disch := omega) only [bd_s, gd_tt, jn_s, lit32, gd_ix, nI_clamp, nI_add, pk_mul, nI_leI, nI_ltI, nI_eq, b2_0n, ite_f, ↓reduceIte, Bool.false_eq_true, Bool.true_eq_false, Nat.not_lt_zero, isb_b2, c_has, c_isHour, c_isKind, c_isPerson]
  rw [show 86 + 5 * b + i = 86 + (5 * b + i) by omega, (h.2 _ (by omega)).1]
theorem c_cell {w n nc b i : Nat} {cells : Nat → Int32} (hb : b < n) (hn : n ≤ 20) (hi : i < w) (hw : w ≤ 5) (hc : b * w + i < nc) (hnc : nc ≤ 80) : f_X4_cell (nI w) (nI n) cells nc (nI b) (nI i) = some (cells (b * w + i)) := by
  unfold f_X4_cell
  have e : nI b * nI w + nI i = nI (b * w + i) := by rw [pk_mul, nI_add]
  rw [if_neg (nI_pos (by omega)), if_neg (nI_ge hb (by omega)), if_neg (nI_pos (by omega)), if_pos (nI_lt hi (by omega)), e, gd_ix hc (by omega), nI_clamp (by omega)]
theorem c_put {w n nc b i : Nat} {cells : Nat → Int32} {x : Int32} (hb : b < n) (hn : n ≤ 20) (hi : i < w) (hw : w ≤ 5) (hc : b * w + i < nc) (hnc : nc ≤ 80) : f_X4_put (nI w) (nI n) cells nc (nI b) (nI i) x = some (cells (b * w + i), upd cells (b * w + i) x) := by
  unfold f_X4_put
  have e : nI b * nI w + nI i = nI (b * w + i) := by rw [pk_mul, nI_add]
  rw [if_neg (nI_pos (by omega)), if_neg (nI_ge hb (by omega)), if_neg (nI_pos (by omega)), if_pos (nI_lt hi (by omega)), e, gd_ix hc (by omega), nI_clamp (by omega)]
theorem c_isFull {l n : Nat} (hl : l < 2 ^ 31) (hn : n < 2 ^ 31) : f_X4_isFull (nI l) (nI n) = some (b2 (decide (l ≤ n))) := by
  unfold f_X4_isFull
  by_cases h : n < l
  · rw [if_pos (nI_lt h hl), decide_eq_false (by omega)]; rfl
  · rw [if_neg (nI_nlt (by omega) hn), decide_eq_true (by omega)]; rfl
theorem c_add {w l n nc : Nat} {cells : Nat → Int32} {a1 a2 a3 a4 : Int32} (hn : n < l) (hl : l ≤ 20) (hw4 : 4 ≤ w) (hw : w ≤ 5) (hc : l * w ≤ nc) (hnc : nc ≤ 80) : f_X4_add (nI l) (nI w) (nI n) cells nc a1 a2 a3 a4 = some (nI n, nI (n + 1), upd (upd (upd (upd cells (n * w + 0) a1) (n * w + 1) a2) (n * w + 2) a3) (n * w + 3) a4) := by
  unfold f_X4_add
  have hz : n * w + w ≤ l * w := by rw [← Nat.succ_mul]; exact Nat.mul_le_mul_right w hn
  have hp : ∀ (i : Nat) (cs : Nat → Int32) (x : Int32), i < w → f_X4_put (nI w) (nI (n + 1)) cs nc (nI n) (nI i) x = some (cs (n * w + i), upd cs (n * w + i) x) := fun i cs x hi => c_put (by omega) (by omega) hi hw (by omega) hnc
  rw [c_isFull (by omega) (by omega), bd_s, decide_eq_false (by omega), b2_f, if_pos rfl, nI_1, show (0 : Int32) = nI 0 from rfl, show (1 : Int32) = nI 1 from rfl, show (2 : Int32) = nI 2 from rfl, show (3 : Int32) = nI 3 from rfl, hp 0 _ _ (by omega), bd_s, hp 1 _ _ (by omega), bd_s, hp 2 _ _ (by omega), bd_s, hp 3 _ _ (by omega), bd_s]
/-- cells of the class, by the relation -/
theorem c_bow {v : Nat → Nat} {cells : Nat → Int32} (h : ∀ j, j < 80 → cells j = nI (v (6 + j))) {b i : Nat} (hb : b < v 3) (h3 : v 3 ≤ 20) (hi : i < 4) : f_X4_cell (nI 4) (nI (v 3)) cells 80 (nI b) (nI i) = some (nI (v (6 + 4 * b + i))) := by
  rw [c_cell hb h3 hi (by omega) (by omega) (by omega), h _ (by omega), show 6 + (b * 4 + i) = 6 + 4 * b + i by omega]
theorem c_say {v : Nat → Nat} {cells : Nat → Int32} (h : ∀ j, j < 40 → cells j = nI (v (146 + j))) {b i : Nat} (hb : b < v 5) (h3 : v 5 ≤ 10) (hi : i < 4) : f_X4_cell (nI 4) (nI (v 5)) cells 40 (nI b) (nI i) = some (nI (v (146 + 4 * b + i))) := by
  rw [c_cell hb (by omega) hi (by omega) (by omega) (by omega), h _ (by omega), show 146 + (b * 4 + i) = 146 + 4 * b + i by omega]
theorem c_deed {e : Nat → Nat} {cells : Nat → Int32} (h : ∀ j, j < 60 → cells j = nI (e j)) {b i : Nat} (hb : b < e 60) (h3 : e 60 ≤ 12) (hi : i < 5) : f_X4_cell (nI 5) (nI (e 60)) cells 60 (nI b) (nI i) = some (nI (e (5 * b + i))) := by
  rw [c_cell hb (by omega) hi (by omega) (by omega) (by omega), h _ (by omega), show b * 5 + i = 5 * b + i by omega]
/-- how many are doubted -/
theorem m_dbl {v : Nat → Nat} {now : Nat → Int32} (h : RN v now) (h3 : v 3 ≤ 20) : ∀ d n k, k + d = v 3 → d < n → f_X8_doubtedOnes_4 now n (nI (dbc v k)) (nI k) = some (nI (dc v))
  | 0, n, k, hk, hn => by
    cases n with
    | zero => omega
    | succ n =>
      have hc : v 3 ≤ k := by omega
      have hk : k = v 3 := by omega
      simp (disch := omega) only [f_X8_doubtedOnes_4, bd_s, gd_tt, jn_s, lit32, gd_ix, nI_clamp, nI_add, pk_mul, nI_leI, nI_ltI, nI_eq, b2_0n, ite_f, ↓reduceIte, Bool.false_eq_true, Bool.true_eq_false, Nat.not_lt_zero, isb_b2, c_has, c_isHour, c_isKind, c_isPerson, rn_at h, hc]
      rw [hk]; rfl
  | d + 1, n, k, hk, hn => by
    cases n with
    | zero => omega
    | succ n =>
      have hc : ¬ v 3 ≤ k := by omega
      have hb := rn_bd h (k := 6 + 4 * k + 3) (by omega) (by omega) (by omega)
      have ih := m_dbl h h3 d n (k + 1) (by omega) (by omega)
      simp (disch := omega) only [f_X8_doubtedOnes_4, bd_s, gd_tt, jn_s, lit32, gd_ix, nI_clamp, nI_add, pk_mul, nI_leI, nI_ltI, nI_eq, b2_0n, ite_f, ↓reduceIte, Bool.false_eq_true, Bool.true_eq_false, Nat.not_lt_zero, isb_b2, c_has, c_isHour, c_isKind, c_isPerson, rn_at h, hc, m_bowIs h]
      rw [← ih]
      by_cases h10 : v (6 + 4 * k + 3) < 10
      · rw [if_neg (by omega), bd_s, nI_add, show dbc v (k + 1) = dbc v k + 1 by show dbc v k + _ = _; rw [if_pos h10]]
      · rw [if_pos (by omega), bd_s, nI_add, show dbc v (k + 1) = dbc v k + 0 by show dbc v k + _ = _; rw [if_neg h10]]
theorem m_doubted {v : Nat → Nat} {now : Nat → Int32} (h : RN v now) (h3 : v 3 ≤ 20) {N : Nat} (hN : 2000 ≤ N) : f_X8_doubtedOnes N now = some (nI (dc v)) := by
  unfold f_X8_doubtedOnes
  have := m_dbl h h3 (v 3) N 0 (by omega) (by omega)
  rw [show (0 : Int32) = nI (dbc v 0) from rfl]
  rw [show f_X8_doubtedOnes_4 now N (nI (dbc v 0)) (nI (dbc v 0)) = some (nI (dc v)) from this, bd_s]
theorem c_dbl {v : Nat → Nat} {cells : Nat → Int32} (h : ∀ j, j < 80 → cells j = nI (v (6 + j))) (h3 : v 3 ≤ 20) (hb9 : ∀ b, b < v 3 → v (6 + 4 * b + 3) ≤ 10) : ∀ d n k, k + d = v 3 → d < n → f_X0_doubted_4 (nI (v 3)) cells n (nI (dbc v k)) (nI k) = some (nI (dc v))
  | 0, n, k, hk, hn => by
    cases n with
    | zero => omega
    | succ n =>
      have hc : v 3 ≤ k := by omega
      have hk : k = v 3 := by omega
      simp (disch := omega) only [f_X0_doubted_4, f_X4_size, bd_s, gd_tt, jn_s, lit32, gd_ix, nI_clamp, nI_add, pk_mul, nI_leI, nI_ltI, nI_eq, b2_0n, ite_f, ↓reduceIte, Bool.false_eq_true, Bool.true_eq_false, Nat.not_lt_zero, isb_b2, c_has, c_isHour, c_isKind, c_isPerson, hc]
      rw [hk]; rfl
  | d + 1, n, k, hk, hn => by
    cases n with
    | zero => omega
    | succ n =>
      have hc : ¬ v 3 ≤ k := by omega
      have hb := hb9 k (by omega)
      have ih := c_dbl h h3 hb9 d n (k + 1) (by omega) (by omega)
      simp (disch := omega) only [f_X0_doubted_4, f_X4_size, bd_s, gd_tt, jn_s, lit32, gd_ix, nI_clamp, nI_add, pk_mul, nI_leI, nI_ltI, nI_eq, b2_0n, ite_f, ↓reduceIte, Bool.false_eq_true, Bool.true_eq_false, Nat.not_lt_zero, isb_b2, c_has, c_isHour, c_isKind, c_isPerson, hc, c_bow h]
      rw [← ih]
      by_cases h10 : v (6 + 4 * k + 3) < 10
      · rw [if_neg (by omega), bd_s, show dbc v (k + 1) = dbc v k + 1 by show dbc v k + _ = _; rw [if_pos h10]]
      · rw [if_pos (by omega), bd_s, show dbc v (k + 1) = dbc v k by show dbc v k + _ = _; rw [if_neg h10]; rfl]
theorem c_doubted {v : Nat → Nat} {cells : Nat → Int32} (h : ∀ j, j < 80 → cells j = nI (v (6 + j))) (h3 : v 3 ≤ 20) (hb9 : ∀ b, b < v 3 → v (6 + 4 * b + 3) ≤ 10) {N : Nat} (hN : 2000 ≤ N) : f_X0_doubted N (nI (v 3)) cells = some (nI (dc v)) := by
  unfold f_X0_doubted
  have := c_dbl h h3 hb9 (v 3) N 0 (by omega) (by omega)
  rw [show (0 : Int32) = nI (dbc v 0) from rfl]
  rw [show f_X0_doubted_4 (nI (v 3)) cells N (nI (dbc v 0)) (nI (dbc v 0)) = some (nI (dc v)) from this, bd_s]
theorem c_room {v : Nat → Nat} {cells : Nat → Int32} (h : ∀ j, j < 80 → cells j = nI (v (6 + j))) (h3 : v 3 ≤ 20) (hb9 : ∀ b, b < v 3 → v (6 + 4 * b + 3) ≤ 10) (hd : dc v ≤ 6) {N : Nat} (hN : 2000 ≤ N) : f_X0_hasRoomForDoubt N (nI (v 3)) cells = some (b2 (decide (dc v < 6))) := by
  unfold f_X0_hasRoomForDoubt
  rw [c_doubted h h3 hb9 hN, bd_s, show (6 : Int32) = nI 6 from rfl]
  by_cases q : dc v < 6
  · rw [if_neg (nI_ge q (by omega)), decide_eq_true q]; rfl
  · rw [if_pos (nI_le (a := 6) (by omega) (by omega)), decide_eq_false q]; rfl
theorem c_rN {α : Type} {a : Int32} {n : Nat} (hn : n < 2 ^ 31) (x y : α) : (if a < nI 0 then x else (if nI n ≤ a then x else y)) = if inr a n = true then y else x := c_range (nI_toInt hn) x y
theorem c_rN2 {α : Type} {a : Int32} {n : Nat} (hn : n < 2 ^ 31) (x y : α) : (if a < nI 0 then x else (if a < nI n then y else x)) = if inr a n = true then y else x := c_range' (nI_toInt hn) x y
theorem c_areTenths (a : Int32) : f_X7_areTenths a = some (b2 (inr a 11)) := by
  unfold f_X7_areTenths
  by_cases h : inr a 11 = true
  · rw [h]; rw [inr_iff] at h
    rw [if_neg (by rw [i32_lt, show (0 : Int32).toInt = 0 from rfl]; omega), if_neg (by rw [i32_lt, show (10 : Int32).toInt = 10 from rfl]; omega)]; rfl
  · rw [show inr a 11 = false by simpa using h]
    rcases inr_nf h with h | h
    · rw [if_pos (by rw [i32_lt, show (0 : Int32).toInt = 0 from rfl]; omega)]; rfl
    · rw [if_neg (by rw [i32_lt, show (0 : Int32).toInt = 0 from rfl]; omega), if_pos (by rw [i32_lt, show (10 : Int32).toInt = 10 from rfl]; omega)]; rfl
theorem c_areUnlike {n : Nat} (hn : n < 2 ^ 31) (a b : Int32) : f_X7_areUnlike (nI n) a b = some (b2 (inr a n && inr b n && !decide (a = b))) := by
  unfold f_X7_areUnlike
  rw [c_isPerson hn, bd_s]
  cases inr a n
  · rfl
  · rw [b2_t, if_neg z_ne, c_isPerson hn, bd_s]
    cases inr b n
    · rfl
    · rw [b2_t, if_neg z_ne]
      by_cases h : a = b
      · rw [if_pos h, decide_eq_true h]; rfl
      · rw [if_neg h, decide_eq_false h]; rfl
theorem m_areTwo {v : Nat → Nat} {now : Nat → Int32} (h : RN v now) (hv : Vd v) (a b : Int32) : f_X8_areTwo now a b = some (b2 (inr a (v 0) && inr b (v 0) && !decide (a = b))) := by
  unfold f_X8_areTwo
  rw [m_isOne h hv, bd_s]
  cases inr a (v 0)
  · rfl
  · rw [b2_t, if_neg z_ne, m_isOne h hv, bd_s]
    cases inr b (v 0)
    · rfl
    · rw [b2_t, if_neg z_ne]
      by_cases h : a = b
      · rw [if_pos h, decide_eq_true h]; rfl
      · rw [if_neg h, decide_eq_false h]; rfl
/-- a new bow, saying, deed -/
def adB (v : Nat → Nat) (h a b t : Nat) : Nat → Nat := un (un (un (un (un v (6 + 4 * v 3 + 0) h) (6 + 4 * v 3 + 1) a) (6 + 4 * v 3 + 2) b) (6 + 4 * v 3 + 3) t) 3 (v 3 + 1)
def adS (v : Nat → Nat) (h a b t : Nat) : Nat → Nat := un (un (un (un (un v (146 + 4 * v 5 + 0) h) (146 + 4 * v 5 + 1) a) (146 + 4 * v 5 + 2) b) (146 + 4 * v 5 + 3) t) 5 (v 5 + 1)
def adD (e : Nat → Nat) (k h a b t : Nat) : Nat → Nat := un (un (un (un (un (un e (5 * e 60 + 0) k) (5 * e 60 + 1) h) (5 * e 60 + 2) a) (5 * e 60 + 3) b) (5 * e 60 + 4) t) 60 (e 60 + 1)
theorem m_bowed {v e : Nat → Nat} {now : Nat → Int32} (h : RN v now) (hd : RE e now) (h3 : v 3 < 20) {x a b t : Nat} (hx : x < 1000) (ha : a < 1000) (hb : b < 1000) (htt : t < 1000) : ∃ now', f_X8_bowed now (nI x) (nI a) (nI b) (nI t) = some (nI (v 3), now') ∧ RN (adB v x a b t) now' ∧ RE e now' := by
  have e3 : now 3 = nI (v 3) := rn_at h (by omega) (by omega) (by omega)
  refine ⟨upd (upd (upd (upd (upd now (6 + 4 * v 3 + 0) (nI x)) (6 + 4 * v 3 + 1) (nI a)) (6 + 4 * v 3 + 2) (nI b)) (6 + 4 * v 3 + 3) (nI t)) 3 (nI (v 3 + 1)), ?_, ?_, ?_⟩
  · unfold f_X8_bowed
    simp (disch := omega) only [bd_s, gd_tt, jn_s, lit32, gd_ix, nI_clamp, nI_add, pk_mul, nI_leI, nI_ltI, nI_eq, b2_0n, ite_f, ↓reduceIte, Bool.false_eq_true, Bool.true_eq_false, Nat.not_lt_zero, isb_b2, c_has, c_isHour, c_isKind, c_isPerson, e3, pk_un]
  · exact rn_set (rn_set (rn_set (rn_set (rn_set h hx) ha) hb) htt) (by omega)
  · exact re_night (re_night (re_night (re_night (re_night hd (by omega) (by omega)) (by omega) (by omega)) (by omega) (by omega)) (by omega) (by omega)) (by omega) (by omega)
theorem m_said {v e : Nat → Nat} {now : Nat → Int32} (h : RN v now) (hd : RE e now) (h3 : v 5 < 10) {x a b t : Nat} (hx : x < 1000) (ha : a < 1000) (hb : b < 1000) (htt : t < 1000) : ∃ now', f_X8_said now (nI x) (nI a) (nI b) (nI t) = some (nI (v 5), now') ∧ RN (adS v x a b t) now' ∧ RE e now' := by
  have e3 : now 5 = nI (v 5) := rn_at h (by omega) (by omega) (by omega)
  refine ⟨upd (upd (upd (upd (upd now (146 + 4 * v 5 + 0) (nI x)) (146 + 4 * v 5 + 1) (nI a)) (146 + 4 * v 5 + 2) (nI b)) (146 + 4 * v 5 + 3) (nI t)) 5 (nI (v 5 + 1)), ?_, ?_, ?_⟩
  · unfold f_X8_said
    simp (disch := omega) only [bd_s, gd_tt, jn_s, lit32, gd_ix, nI_clamp, nI_add, pk_mul, nI_leI, nI_ltI, nI_eq, b2_0n, ite_f, ↓reduceIte, Bool.false_eq_true, Bool.true_eq_false, Nat.not_lt_zero, isb_b2, c_has, c_isHour, c_isKind, c_isPerson, e3, pk_un]
  · exact rn_set (rn_set (rn_set (rn_set (rn_set h hx) ha) hb) htt) (by omega)
  · exact re_night (re_night (re_night (re_night (re_night hd (by omega) (by omega)) (by omega) (by omega)) (by omega) (by omega)) (by omega) (by omega)) (by omega) (by omega)
theorem m_done {v e : Nat → Nat} {now : Nat → Int32} (h : RN v now) (hd : RE e now) (h3 : e 60 < 12) {k x a b t : Nat} (hk : k < 1000) (hx : x < 1000) (ha : a < 1000) (hb : b < 1000) (htt : t < 1000) : ∃ now', f_X8_done now (nI k) (nI x) (nI a) (nI b) (nI t) = some (nI (e 60), now') ∧ RN v now' ∧ RE (adD e k x a b t) now' := by
  have e3 : now 4 = nI (e 60) := hd.1
  refine ⟨upd (upd (upd (upd (upd (upd now (86 + (5 * e 60 + 0)) (nI k)) (86 + (5 * e 60 + 1)) (nI x)) (86 + (5 * e 60 + 2)) (nI a)) (86 + (5 * e 60 + 3)) (nI b)) (86 + (5 * e 60 + 4)) (nI t)) 4 (nI (e 60 + 1)), ?_, ?_, ?_⟩
  · unfold f_X8_done
    simp (disch := omega) only [bd_s, gd_tt, jn_s, lit32, gd_ix, nI_clamp, nI_add, pk_mul, nI_leI, nI_ltI, nI_eq, b2_0n, ite_f, ↓reduceIte, Bool.false_eq_true, Bool.true_eq_false, Nat.not_lt_zero, isb_b2, c_has, c_isHour, c_isKind, c_isPerson, e3, pk_un, Nat.add_assoc]
  · exact rn_deed (rn_deed (rn_deed (rn_deed (rn_deed (rn_deed h (by omega)) (by omega)) (by omega)) (by omega)) (by omega)) (by omega)
  · exact re_size (re_set (re_set (re_set (re_set (re_set hd (by omega) hk) (by omega) hx) (by omega) ha) (by omega) hb) (by omega) htt)
theorem rl_bow {v : Nat → Nat} {cells : Nat → Int32} (h : ∀ j, j < 80 → cells j = nI (v (6 + j))) (x a b t : Nat) : ∀ j, j < 80 → upd (upd (upd (upd cells (v 3 * 4 + 0) (nI x)) (v 3 * 4 + 1) (nI a)) (v 3 * 4 + 2) (nI b)) (v 3 * 4 + 3) (nI t) j = nI (adB v x a b t (6 + j)) := by
  have q : ∀ i, 6 + 4 * v 3 + i = 6 + (v 3 * 4 + i) := fun i => by omega
  unfold adB
  rw [q 0, q 1, q 2, q 3]
  exact cell_off (cell_set (cell_set (cell_set (cell_set h)))) (by omega)
theorem rl_say {v : Nat → Nat} {cells : Nat → Int32} (h : ∀ j, j < 40 → cells j = nI (v (146 + j))) (x a b t : Nat) : ∀ j, j < 40 → upd (upd (upd (upd cells (v 5 * 4 + 0) (nI x)) (v 5 * 4 + 1) (nI a)) (v 5 * 4 + 2) (nI b)) (v 5 * 4 + 3) (nI t) j = nI (adS v x a b t (146 + j)) := by
  have q : ∀ i, 146 + 4 * v 5 + i = 146 + (v 5 * 4 + i) := fun i => by omega
  unfold adS
  rw [q 0, q 1, q 2, q 3]
  exact cell_off (cell_set (cell_set (cell_set (cell_set h)))) (by omega)
theorem rl_deed {e : Nat → Nat} {cells : Nat → Int32} (h : ∀ j, j < 60 → cells j = nI (e j)) (k x a b t : Nat) : ∀ j, j < 60 → upd (upd (upd (upd (upd cells (e 60 * 5 + 0) (nI k)) (e 60 * 5 + 1) (nI x)) (e 60 * 5 + 2) (nI a)) (e 60 * 5 + 3) (nI b)) (e 60 * 5 + 4) (nI t) j = nI (adD e k x a b t j) := by
  unfold adD
  rw [Nat.mul_comm 5 (e 60)]
  exact deed_off (deed_set (deed_set (deed_set (deed_set (deed_set h))))) (by omega)
/-- what a new bow is -/
theorem adB_old {v : Nat → Nat} {x a b t k : Nat} (h3 : k ≠ 3) (h : k < 6 + 4 * v 3 ∨ 6 + 4 * v 3 + 4 ≤ k) : adB v x a b t k = v k := by
  unfold adB
  rw [un_n h3, un_n (by omega), un_n (by omega), un_n (by omega), un_n (by omega)]
theorem adB_3 {v : Nat → Nat} {x a b t : Nat} : adB v x a b t 3 = v 3 + 1 := un_s
theorem adB_c {v : Nat → Nat} {x a b t : Nat} : adB v x a b t (6 + 4 * v 3 + 0) = x ∧ adB v x a b t (6 + 4 * v 3 + 1) = a ∧ adB v x a b t (6 + 4 * v 3 + 2) = b ∧ adB v x a b t (6 + 4 * v 3 + 3) = t := by
  unfold adB
  refine ⟨?_, ?_, ?_, ?_⟩
  · rw [un_n (by omega), un_n (by omega), un_n (by omega), un_n (by omega), un_s]
  · rw [un_n (by omega), un_n (by omega), un_n (by omega), un_s]
  · rw [un_n (by omega), un_n (by omega), un_s]
  · rw [un_n (by omega), un_s]
theorem adB_dc {v : Nat → Nat} {x a b t : Nat} : dc (adB v x a b t) = dc v + (if t < 10 then 1 else 0) := by
  unfold dc
  rw [adB_3]
  show dbc _ (v 3) + (if adB v x a b t (6 + 4 * v 3 + 3) < 10 then 1 else 0) = _
  rw [adB_c.2.2.2, dbc_congr (v' := v) (v 3) (fun b hb => adB_old (by omega) (by omega))]
theorem adB_vd {v : Nat → Nat} {x a b t : Nat} (hv : Vd v) (h3 : v 3 < 20) (hx : x < 100) (ha : a < v 0) (hb : b < v 0) (hab : a ≠ b) (ht : t ≤ 10) (hdd : t < 10 → dc v < 6) : Vd (adB v x a b t) := by
  have h0 : adB v x a b t 0 = v 0 := adB_old (by omega) (by omega)
  have h5 : adB v x a b t 5 = v 5 := adB_old (by omega) (by omega)
  obtain ⟨c0, c1, c2, c3⟩ := adB_c (v := v) (x := x) (a := a) (b := b) (t := t)
  have q5 := vd_5 hv
  refine ⟨by rw [h0]; exact vd_lo hv, by rw [h0]; exact vd_hi hv, by rw [adB_old (by omega) (by omega)]; exact vd_1 hv, by rw [adB_old (by omega) (by omega)]; exact vd_2 hv, by rw [adB_3]; omega, by rw [h5]; exact vd_5 hv, ?_, fun b' hb' => ?_, fun s hs => ?_⟩
  · rw [adB_dc]; have := vd_dc hv; split
    · have := hdd (by assumption); omega
    · omega
  · rw [adB_3] at hb'
    rw [h0]
    by_cases q : b' = v 3
    · rw [q, c0, c1, c2, c3]; exact ⟨hx, ha, hb, hab, ht⟩
    · rw [adB_old (by omega) (by omega), adB_old (by omega) (by omega), adB_old (by omega) (by omega), adB_old (by omega) (by omega)]
      exact vd_b hv b' (by omega)
  · rw [h5] at hs
    rw [h0, adB_old (by omega) (by omega), adB_old (by omega) (by omega), adB_old (by omega) (by omega), adB_old (by omega) (by omega)]
    exact vd_s hv s hs
theorem adS_old {v : Nat → Nat} {x a b t k : Nat} (h3 : k ≠ 5) (h : k < 146 + 4 * v 5 ∨ 146 + 4 * v 5 + 4 ≤ k) : adS v x a b t k = v k := by
  unfold adS
  rw [un_n h3, un_n (by omega), un_n (by omega), un_n (by omega), un_n (by omega)]
theorem adS_5 {v : Nat → Nat} {x a b t : Nat} : adS v x a b t 5 = v 5 + 1 := un_s
theorem adS_c {v : Nat → Nat} {x a b t : Nat} : adS v x a b t (146 + 4 * v 5 + 0) = x ∧ adS v x a b t (146 + 4 * v 5 + 1) = a ∧ adS v x a b t (146 + 4 * v 5 + 2) = b ∧ adS v x a b t (146 + 4 * v 5 + 3) = t := by
  unfold adS
  refine ⟨?_, ?_, ?_, ?_⟩
  · rw [un_n (by omega), un_n (by omega), un_n (by omega), un_n (by omega), un_s]
  · rw [un_n (by omega), un_n (by omega), un_n (by omega), un_s]
  · rw [un_n (by omega), un_n (by omega), un_s]
  · rw [un_n (by omega), un_s]
theorem adS_dc {v : Nat → Nat} {x a b t : Nat} (h3 : v 3 ≤ 20) : dc (adS v x a b t) = dc v := by
  unfold dc
  rw [adS_old (by omega) (by omega)]
  exact dbc_congr (v 3) (fun b hb => adS_old (by omega) (by omega))
theorem adS_vd {v : Nat → Nat} {x a b t : Nat} (hv : Vd v) (h5 : v 5 < 10) (hx : x < 100) (ha : a < v 0) (hb : b < v 0) (ht : t ≤ 1) : Vd (adS v x a b t) := by
  have q3 := vd_3 hv
  have h0 : adS v x a b t 0 = v 0 := adS_old (by omega) (by omega)
  have h3 : adS v x a b t 3 = v 3 := adS_old (by omega) (by omega)
  obtain ⟨c0, c1, c2, c3⟩ := adS_c (v := v) (x := x) (a := a) (b := b) (t := t)
  refine ⟨by rw [h0]; exact vd_lo hv, by rw [h0]; exact vd_hi hv, by rw [adS_old (by omega) (by omega)]; exact vd_1 hv, by rw [adS_old (by omega) (by omega)]; exact vd_2 hv, by rw [h3]; exact q3, by rw [adS_5]; omega, by rw [adS_dc q3]; exact vd_dc hv, fun b' hb' => ?_, fun s hs => ?_⟩
  · rw [h3] at hb'
    rw [h0, adS_old (by omega) (by omega), adS_old (by omega) (by omega), adS_old (by omega) (by omega), adS_old (by omega) (by omega)]
    exact vd_b hv b' hb'
  · rw [adS_5] at hs
    rw [h0]
    by_cases q : s = v 5
    · rw [q, c0, c1, c2, c3]; exact ⟨hx, ha, hb, ht⟩
    · rw [adS_old (by omega) (by omega), adS_old (by omega) (by omega), adS_old (by omega) (by omega), adS_old (by omega) (by omega)]
      exact vd_s hv s (by omega)
theorem adD_old {e : Nat → Nat} {k x a b t j : Nat} (h3 : j ≠ 60) (h : j < 5 * e 60 ∨ 5 * e 60 + 5 ≤ j) : adD e k x a b t j = e j := by
  unfold adD
  rw [un_n h3, un_n (by omega), un_n (by omega), un_n (by omega), un_n (by omega), un_n (by omega)]
theorem adD_60 {e : Nat → Nat} {k x a b t : Nat} : adD e k x a b t 60 = e 60 + 1 := un_s
theorem adD_c {e : Nat → Nat} {k x a b t : Nat} (h : e 60 < 12) : adD e k x a b t (5 * e 60 + 0) = k ∧ adD e k x a b t (5 * e 60 + 1) = x ∧ adD e k x a b t (5 * e 60 + 2) = a ∧ adD e k x a b t (5 * e 60 + 3) = b ∧ adD e k x a b t (5 * e 60 + 4) = t := by
  unfold adD
  refine ⟨?_, ?_, ?_, ?_, ?_⟩
  · rw [un_n (by omega), un_n (by omega), un_n (by omega), un_n (by omega), un_n (by omega), un_s]
  · rw [un_n (by omega), un_n (by omega), un_n (by omega), un_n (by omega), un_s]
  · rw [un_n (by omega), un_n (by omega), un_n (by omega), un_s]
  · rw [un_n (by omega), un_n (by omega), un_s]
  · rw [un_n (by omega), un_s]
theorem adD_ve {v e : Nat → Nat} {k x a b t : Nat} (he : Ve v e) (h12 : e 60 < 12) (hk : k < 6) (hx : x < 100) (ha : a < v 0) (hb : b < v 0) (hab : a ≠ b) (ht : t < 1000) : Ve v (adD e k x a b t) := by
  obtain ⟨c0, c1, c2, c3, c4⟩ := adD_c (k := k) (x := x) (a := a) (b := b) (t := t) h12
  refine ⟨by rw [adD_60]; omega, fun d hd => ?_⟩
  rw [adD_60] at hd
  by_cases q : d = e 60
  · rw [q, c0, c1, c2, c3, c4]; exact ⟨hk, hx, ha, hb, hab, ht⟩
  · rw [adD_old (by omega) (by omega), adD_old (by omega) (by omega), adD_old (by omega) (by omega), adD_old (by omega) (by omega), adD_old (by omega) (by omega)]
    exact he.2 d (by omega)
