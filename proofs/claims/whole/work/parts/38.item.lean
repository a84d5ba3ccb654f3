/-! ===== numbers and words that must be ===== -/
theorem nI_m1' {w : Nat} (h : w < 2 ^ 31) : ¬ nI w = (-1 : Int32) := by
  rw [show (-1 : Int32) = -nI 1 from rfl, nI_nm1 h]; exact id
theorem b2d_t {P : Prop} [Decidable P] (h : P) : ¬ b2 (decide P) = (0 : Int32) := by rw [decide_eq_true h]; decide
theorem b2d_f {P : Prop} [Decidable P] (h : ¬ P) : b2 (decide P) = (0 : Int32) := by rw [decide_eq_false h]; decide
theorem b2d_1 {P : Prop} [Decidable P] (h : P) : b2 (decide P) = (1 : Int32) := by rw [decide_eq_true h]; rfl
theorem lx_le {t : Nat → Nat} {n N : Nat} {tb tp : Nat → Int32} {p q c w o : Nat} {x y : Int32} (h : LX t n N tb tp p q c w o x y) : p ≤ n := Nat.le_trans h.1 h.2.1
theorem m_must_w {N : Nat} {tp : Nat → Int32} {T b e s v a : Int32} : f_X8_must N tp T b e s v 1 a = some (b, e, s, v, 1) := rfl
theorem m_must_0 {N : Nat} {tp : Nat → Int32} {T b e s v : Int32} : f_X8_must N tp T b e s v 0 0 = some (b, e, s, v, 1) := rfl
theorem m_must_1 {N : Nat} {tp : Nat → Int32} {T b e s v b' e' s' v' : Int32} (h : f_X8_next N tp T b e s v = some (b', e', s', v')) : f_X8_must N tp T b e s v 0 1 = some (b', e', s', v', 0) := by
  unfold f_X8_must
  rw [if_pos rfl, if_neg (by decide), bd_s, if_pos rfl, h, bd_s]
theorem m_num_w {N : Nat} {tp : Nat → Int32} {T b e s v lo hi : Int32} : f_X8_number N tp T b e s v 1 lo hi = some (v, b, e, s, v, 1) := by
  unfold f_X8_number
  have : ∃ u, (if s = (2 : Int32) then (bd (f_X8_within v lo hi) (fun u_2 => (if u_2 = (0 : Int32) then some (0 : Int32) else some (1 : Int32)))) else some (0 : Int32)) = some u := by
    rw [m_within, bd_s]
    repeat' split
    all_goals exact ⟨_, rfl⟩
  obtain ⟨u, hu⟩ := this
  rw [hu, bd_s, m_must_w, bd_s]
theorem m_mask_w {N : Nat} {now tp : Nat → Int32} {T b e s v : Int32} : f_X8_mask N now tp T b e s v 1 = some (v, b, e, s, v, 1) := by
  unfold f_X8_mask
  rw [m_num_w, bd_s]
theorem m_other_w {v : Nat → Nat} {now : Nat → Int32} (h : RN v now) (hv : Vd v) {N : Nat} {tp : Nat → Int32} {T b e s x a : Int32} : f_X8_otherMask N now tp T b e s x 1 a = some (x, b, e, s, x, 1) := by
  unfold f_X8_otherMask
  have : ∃ u, (if s = (2 : Int32) then (bd (f_X8_isOne now x) (fun u_2 => (if u_2 = (0 : Int32) then some (0 : Int32) else (if x = a then some (0 : Int32) else some (1 : Int32))))) else some (0 : Int32)) = some u := by
    rw [m_isOne h hv, bd_s]
    repeat' split
    all_goals exact ⟨_, rfl⟩
  obtain ⟨u, hu⟩ := this
  rw [hu, bd_s, m_must_w, bd_s]
def it6 (it : Nat → Int32) (m : Nat) (a b c d e f : Int32) : Nat → Int32 := upd (upd (upd (upd (upd (upd it (6 * m) a) (6 * m + 1) b) (6 * m + 2) c) (6 * m + 3) d) (6 * m + 4) e) (6 * m + 5) f
theorem m_item {it : Nat → Int32} {m : Nat} (hm : m < 120) (a b c d e f : Int32) : f_X8_item it (nI m) a b c d e f = some (it6 it m a b c d e f, nI (m + 1)) := by
  unfold f_X8_item
  rw [show (6 : Int32) = nI 6 from rfl, show (1 : Int32) = nI 1 from rfl, show (2 : Int32) = nI 2 from rfl, show (3 : Int32) = nI 3 from rfl, show (4 : Int32) = nI 4 from rfl, show (5 : Int32) = nI 5 from rfl, pk_mul, nI_add, nI_add, nI_add, nI_add, nI_add, gd_ix (by omega) (by decide), gd_ix (by omega) (by decide), gd_ix (by omega) (by decide), gd_ix (by omega) (by decide), gd_ix (by omega) (by decide), gd_ix (by omega) (by decide), nI_clamp (by omega), nI_clamp (by omega), nI_clamp (by omega), nI_clamp (by omega), nI_clamp (by omega), nI_clamp (by omega), nI_add]; rfl
/-- a number below a1, then the next token; or neither -/
theorem num_both {t : Nat → Nat} {n : Nat} {tb tp : Nat → Int32} (h : TPx t n tb tp) {N : Nat} (hN : 2000 ≤ N) {p q c w o : Nat} {x y : Int32} (hx : LX t n N tb tp p q c w o x y) {a1 : Nat} (h1 : a1 ≤ 1000) {H A : Int32} (hA : A = nI a1) (hH : ∀ z, f_X8_within z 0 H = some (b2 (inr z a1))) :
    (c = 2 ∧ w < a1 ∧ ∃ p' q' c' w' o' x' y', q ≤ p' ∧ LX t n N tb tp p' q' c' w' o' x' y' ∧ f_X3_number N (nI c) (nI p) (nI q) x tb (nI n) A = some (nI w, nI c', nI p', nI q', x') ∧ f_X8_number N tp (nI n) (nI p) (nI q) (nI (srt c)) y 0 0 H = some (nI w, nI p', nI q', nI (srt c'), y', 0)) ∨
    (¬ (c = 2 ∧ w < a1) ∧ f_X3_number N (nI c) (nI p) (nI q) x tb (nI n) A = some (-1, nI c, nI p, nI q, x) ∧ f_X8_number N tp (nI n) (nI p) (nI q) (nI (srt c)) y 0 0 H = some (y, nI p, nI q, nI (srt c), y, 1)) := by
  obtain ⟨x1, x2, x3, x4, x5, x6, x7, x8, x9⟩ := hx
  subst hA
  by_cases q1 : c = 2
  · obtain ⟨rfl, rfl⟩ := x7 q1
    have s1 : nI c = (2 : Int32) := by rw [q1]; rfl
    have s2 : nI (srt c) = (2 : Int32) := by rw [q1]; rfl
    by_cases q2 : w < a1
    · left
      obtain ⟨p', q', c', w', o', x', y', k1, k2, k3, k4⟩ := lx_next h hN (q := q) x2
      refine ⟨q1, q2, p', q', c', w', o', x', y', k1, k2, ?_, ?_⟩
      · unfold f_X3_number
        rw [if_pos s1, if_pos ((nI_ltI (by omega) (by omega)).mpr (by omega)), k3, bd_s, Nat.min_eq_right (by omega)]
      · unfold f_X8_number
        rw [if_pos s2, hH, bd_s, inr_nI (by omega), decide_eq_true (show min 10000 w < a1 by omega), if_neg (by decide), bd_s, m_must_1 (k4 _ _ _), bd_s, Nat.min_eq_right (by omega)]
    · right
      refine ⟨fun z => q2 z.2, ?_, ?_⟩
      · unfold f_X3_number
        rw [if_pos s1, if_neg (fun z => by have := (nI_ltI (by omega) (by omega)).mp z; omega)]
      · unfold f_X8_number
        rw [if_pos s2, hH, bd_s, inr_nI (by omega), decide_eq_false (show ¬ min 10000 w < a1 by omega), if_pos (by decide), bd_s, m_must_0, bd_s]
  · right
    have : srt c ≤ 4 := by unfold srt; split <;> omega
    refine ⟨fun z => q1 z.1, ?_, ?_⟩
    · unfold f_X3_number
      rw [if_neg (show ¬ nI c = (2 : Int32) from fun z => q1 ((nI_eq (a := c) (b := 2) (by omega) (by omega)).mp z))]
    · unfold f_X8_number
      rw [if_neg (show ¬ nI (srt c) = (2 : Int32) from fun z => q1 (by have := (nI_eq (a := srt c) (b := 2) (by omega) (by omega)).mp z; unfold srt at this; split at this <;> omega)), bd_s, m_must_0, bd_s]
theorem hH_c {k : Nat} (hk : k < 2 ^ 31) : ∀ z, f_X8_within z 0 (nI k) = some (b2 (inr z (k + 1))) := fun _ => m_w hk
theorem hH_n {k : Nat} (hk : k < 2 ^ 30) : ∀ z, f_X8_within z 0 (nI k - 1) = some (b2 (inr z k)) := fun _ => m_wn hk
/-- another mask than a -/
theorem other_both {v : Nat → Nat} {now : Nat → Int32} (hr : RN v now) (hv : Vd v) {t : Nat → Nat} {n : Nat} {tb tp : Nat → Int32} (h : TPx t n tb tp) {N : Nat} (hN : 2000 ≤ N) {p q c w o : Nat} {x y : Int32} (hx : LX t n N tb tp p q c w o x y) {a : Nat} (ha : a < v 0) :
    (w < v 0 ∧ w ≠ a ∧ ∃ p' q' c' w' o' x' y', q ≤ p' ∧ LX t n N tb tp p' q' c' w' o' x' y' ∧ f_X3_isNumber (nI c) x (nI a) = some 0 ∧ f_X3_number N (nI c) (nI p) (nI q) x tb (nI n) (nI (v 0)) = some (nI w, nI c', nI p', nI q', x') ∧ f_X8_otherMask N now tp (nI n) (nI p) (nI q) (nI (srt c)) y 0 (nI a) = some (nI w, nI p', nI q', nI (srt c'), y', 0)) ∨
    (f_X3_isNumber (nI c) x (nI a) = some 1 ∧ f_X8_otherMask N now tp (nI n) (nI p) (nI q) (nI (srt c)) y 0 (nI a) = some (y, nI p, nI q, nI (srt c), y, 1)) ∨
    (f_X3_isNumber (nI c) x (nI a) = some 0 ∧ f_X3_number N (nI c) (nI p) (nI q) x tb (nI n) (nI (v 0)) = some (-1, nI c, nI p, nI q, x) ∧ f_X8_otherMask N now tp (nI n) (nI p) (nI q) (nI (srt c)) y 0 (nI a) = some (y, nI p, nI q, nI (srt c), y, 1)) := by
  have h8 := vd_hi hv
  have hx' := hx
  obtain ⟨x1, x2, x3, x4, x5, x6, x7, x8, x9⟩ := hx'
  have nb := num_both h hN hx (a1 := v 0) (by omega) (A := nI (v 0)) rfl (H := nI (v 0) - 1) (hH_n (by omega))
  by_cases q1 : c = 2
  · obtain ⟨rfl, rfl⟩ := x7 q1
    have s1 : nI c = (2 : Int32) := by rw [q1]; rfl
    have s2 : nI (srt c) = (2 : Int32) := by rw [q1]; rfl
    by_cases q3 : w = a
    · right; left
      constructor
      · unfold f_X3_isNumber
        rw [if_pos s1, if_pos (by rw [q3, Nat.min_eq_right (by omega)])]
      · unfold f_X8_otherMask
        rw [if_pos s2, m_isOne hr hv, bd_s, inr_nI (by omega), decide_eq_true (show min 10000 w < v 0 by omega), if_neg (by decide), if_pos (by rw [q3, Nat.min_eq_right (by omega)]), bd_s, m_must_0, bd_s]
    · have i0 : f_X3_isNumber (nI c) (nI (min 1000 w)) (nI a) = some 0 := by
        unfold f_X3_isNumber
        rw [if_pos s1, if_neg (fun z => q3 (by have := (nI_eq (by omega) (by omega)).mp z; omega))]
      by_cases q2 : w < v 0
      · left
        obtain ⟨p', q', c', w', o', x', y', k1, k2, k3, k4⟩ := lx_next h hN (q := q) x2
        refine ⟨q2, q3, p', q', c', w', o', x', y', k1, k2, i0, ?_, ?_⟩
        · unfold f_X3_number
          rw [if_pos s1, if_pos ((nI_ltI (by omega) (by omega)).mpr (by omega)), k3, bd_s, Nat.min_eq_right (by omega)]
        · unfold f_X8_otherMask
          rw [if_pos s2, m_isOne hr hv, bd_s, inr_nI (by omega), decide_eq_true (show min 10000 w < v 0 by omega), if_neg (by decide), if_neg (fun z => q3 (by have := (nI_eq (by omega) (by omega)).mp z; omega)), bd_s, m_must_1 (k4 _ _ _), bd_s, Nat.min_eq_right (by omega)]
      · right; right
        rcases nb with ⟨-, z, -⟩ | ⟨-, z1, -⟩
        · exact absurd z q2
        · refine ⟨i0, z1, ?_⟩
          unfold f_X8_otherMask
          rw [if_pos s2, m_isOne hr hv, bd_s, inr_nI (by omega), decide_eq_false (show ¬ min 10000 w < v 0 by omega), if_pos (by decide), bd_s, m_must_0, bd_s]
  · right; right
    have : srt c ≤ 4 := by unfold srt; split <;> omega
    rcases nb with ⟨z, -⟩ | ⟨-, z1, -⟩
    · exact absurd z q1
    · refine ⟨?_, z1, ?_⟩
      · unfold f_X3_isNumber
        rw [if_neg (show ¬ nI c = (2 : Int32) from fun z => q1 ((nI_eq (a := c) (b := 2) (by omega) (by omega)).mp z))]
      · unfold f_X8_otherMask
        rw [if_neg (show ¬ nI (srt c) = (2 : Int32) from fun z => q1 (by have := (nI_eq (a := srt c) (b := 2) (by omega) (by omega)).mp z; unfold srt at this; split at this <;> omega)), bd_s, m_must_0, bd_s]
