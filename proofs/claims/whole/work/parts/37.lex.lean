/-! ===== the text's tokens ===== -/
def TPx (t : Nat → Nat) (n : Nat) (tb tp : Nat → Int32) : Prop := n ≤ 120 ∧ ∀ j, j < n → t j < 256 ∧ tb j = nI (t j) ∧ tp j = nI (t j)
def cls (x : Nat) : Nat := if 97 ≤ x ∧ x ≤ 122 then 1 else if 48 ≤ x ∧ x ≤ 57 then 2 else if x = 59 then 3 else 4
theorem cls_le (x : Nat) : 1 ≤ cls x ∧ cls x ≤ 4 := by unfold cls; repeat' split
                                                       all_goals omega
theorem cls_3 {x : Nat} (h : cls x = 3) : x = 59 := by
  unfold cls at h; split at h
  · omega
  · split at h
    · omega
    · split at h <;> omega
theorem cls_4 {x : Nat} (h : cls x = 4) : x ≠ 59 := by rintro rfl; exact absurd h (by decide)
theorem cls_2 {x : Nat} (h : cls x = 2) : 48 ≤ x ∧ x ≤ 57 := by
  unfold cls at h; split at h
  · omega
  · split at h
    · omega
    · split at h <;> omega
theorem c_tok0 : ∀ x : Fin 256, f_X3_tokenOf (nI x.val) = some (nI (cls x.val)) := by decide +kernel
theorem m_let0 : ∀ x : Fin 256, f_X8_within (nI x.val) 97 122 = some (b2 (decide (cls x.val = 1))) := by decide +kernel
theorem m_dig0 : ∀ x : Fin 256, f_X8_within (nI x.val) 48 57 = some (b2 (decide (cls x.val = 2))) := by decide +kernel
theorem c_tok {x : Nat} (h : x < 256) : f_X3_tokenOf (nI x) = some (nI (cls x)) := c_tok0 ⟨x, h⟩
theorem m_let {x : Nat} (h : x < 256) : f_X8_within (nI x) 97 122 = some (b2 (decide (cls x = 1))) := m_let0 ⟨x, h⟩
theorem m_dig {x : Nat} (h : x < 256) : f_X8_within (nI x) 48 57 = some (b2 (decide (cls x = 2))) := m_dig0 ⟨x, h⟩
theorem c_at {t : Nat → Nat} {n : Nat} {tb tp : Nat → Int32} (h : TPx t n tb tp) {j : Nat} (hj : j < n) : f_X6_at tb (nI n) (nI j) = some (nI (t j)) := by
  have hn := h.1
  unfold f_X6_at
  rw [if_neg (show ¬ nI j < (0 : Int32) from nI_pos (by omega)), if_neg (nI_ge (by omega) (by omega)), gd_ix (by omega) (by decide), nI_clamp (by omega), (h.2 j hj).2.1]
theorem c_atE {n j : Nat} {tb : Nat → Int32} (hj : n ≤ j) (h2 : j < 2 ^ 31) : f_X6_at tb (nI n) (nI j) = some (-1 : Int32) := by
  unfold f_X6_at
  rw [if_neg (show ¬ nI j < (0 : Int32) from nI_pos (by omega)), if_pos (nI_le (by omega) (by omega))]
theorem m_at {t : Nat → Nat} {n : Nat} {tb tp : Nat → Int32} (h : TPx t n tb tp) {j : Nat} (hj : j < n) : f_X8_byteAt tp (nI n) (nI j) = some (nI (t j)) := by
  have hn := h.1
  unfold f_X8_byteAt
  rw [if_neg (nI_ge (by omega) (by omega)), gd_ix (by omega) (by decide), nI_clamp (by omega), (h.2 j hj).2.2]
theorem m_atE {n j : Nat} {tp : Nat → Int32} (hj : n ≤ j) (h2 : j < 2 ^ 31) : f_X8_byteAt tp (nI n) (nI j) = some (-1 : Int32) := by
  unfold f_X8_byteAt
  rw [if_pos (nI_le (by omega) (by omega))]
def blk (t : Nat → Nat) (j : Nat) : Bool := decide (t j = 32)
theorem c_skip {t : Nat → Nat} {n : Nat} {tb tp : Nat → Int32} (h : TPx t n tb tp) : ∀ d f k, k + d = n → d < f → f_X3_step_8 tb (nI n) f (nI k) = some (nI (run (blk t) d k))
  | 0, f, k, hk, hf => by
    have hn := h.1
    cases f with
    | zero => omega
    | succ f =>
      unfold f_X3_step_8 f_X6_length
      rw [bd_s, if_pos (nI_le (by omega) (by omega))]; rfl
  | d + 1, f, k, hk, hf => by
    have hn := h.1
    cases f with
    | zero => omega
    | succ f =>
      have ih := c_skip h d f (k + 1) (by omega) (by omega)
      have ht := (h.2 k (by omega)).1
      unfold f_X3_step_8 f_X6_length
      rw [bd_s, if_neg (nI_ge (by omega) (by omega)), c_at h (by omega), bd_s, nI_1]
      show _ = some (nI (if blk t k = true then run (blk t) d (k + 1) else k))
      by_cases q : t k = 32
      · rw [if_pos (show nI (t k) = (32 : Int32) by rw [q]; rfl), if_pos (show blk t k = true from decide_eq_true q)]; exact ih
      · rw [if_neg (show ¬ nI (t k) = (32 : Int32) from fun z => q ((nI_eq (a := t k) (b := 32) (by omega) (by omega)).mp z)), if_neg (show ¬ blk t k = true from fun z => q (of_decide_eq_true z))]
theorem m_skip {t : Nat → Nat} {n : Nat} {tb tp : Nat → Int32} (h : TPx t n tb tp) : ∀ d f k, k + d = n → d < f → f_X8_next_8 tp (nI n) f (nI k) = some (nI (run (blk t) d k))
  | 0, f, k, hk, hf => by
    have hn := h.1
    cases f with
    | zero => omega
    | succ f =>
      unfold f_X8_next_8
      rw [m_atE (by omega) (by omega), bd_s, if_neg (by decide)]; rfl
  | d + 1, f, k, hk, hf => by
    have hn := h.1
    cases f with
    | zero => omega
    | succ f =>
      have ih := m_skip h d f (k + 1) (by omega) (by omega)
      have ht := (h.2 k (by omega)).1
      unfold f_X8_next_8
      rw [m_at h (by omega), bd_s, nI_1]
      show _ = some (nI (if blk t k = true then run (blk t) d (k + 1) else k))
      by_cases q : t k = 32
      · rw [if_pos (show nI (t k) = (32 : Int32) by rw [q]; rfl), if_pos (show blk t k = true from decide_eq_true q)]; exact ih
      · rw [if_neg (show ¬ nI (t k) = (32 : Int32) from fun z => q ((nI_eq (a := t k) (b := 32) (by omega) (by omega)).mp z)), if_neg (show ¬ blk t k = true from fun z => q (of_decide_eq_true z))]
def tv (t : Nat → Nat) (p : Nat) : Nat → Nat
  | 0 => 0
  | k + 1 => 10 * tv t p k + (t (p + k) - 48)
def ofc (t : Nat → Nat) (c : Nat) (j : Nat) : Bool := decide (cls (t j) = c)
theorem nI_subN {a b : Nat} (h : b ≤ a) : nI a - nI b = nI (a - b) := by
  have : nI a = nI (a - b) + nI b := by rw [nI_add]; congr 1; omega
  rw [this, Int32.add_sub_cancel]
theorem cap_c {m b : Nat} (hm : m ≤ 1000) (h1 : 48 ≤ b) (h2 : b ≤ 57) : (if (10 : Int32) * nI m + nI b - 48 < 1000 then (10 : Int32) * nI m + nI b - 48 else 1000) = nI (min 1000 (10 * m + (b - 48))) := by
  have e : (10 : Int32) * nI m + nI b - 48 = nI (10 * m + (b - 48)) := by
    rw [show (10 : Int32) = nI 10 from rfl, show (48 : Int32) = nI 48 from rfl, pk_mul, nI_add, nI_subN (by omega)]
    congr 1; omega
  rw [e]
  by_cases q : 10 * m + (b - 48) < 1000
  · rw [if_pos (show nI (10 * m + (b - 48)) < (1000 : Int32) from (nI_ltI (b := 1000) (by omega) (by omega)).mpr q), Nat.min_eq_right (by omega)]
  · rw [if_neg (show ¬ nI (10 * m + (b - 48)) < (1000 : Int32) from fun z => q ((nI_ltI (b := 1000) (by omega) (by omega)).mp z)), Nat.min_eq_left (by omega)]; rfl
theorem cap_m {m b : Nat} (hm : m ≤ 10000) (h1 : 48 ≤ b) (h2 : b ≤ 57) : (if (10 : Int32) * nI m + nI b - 48 < 10000 then (10 : Int32) * nI m + nI b - 48 else 10000) = nI (min 10000 (10 * m + (b - 48))) := by
  have e : (10 : Int32) * nI m + nI b - 48 = nI (10 * m + (b - 48)) := by
    rw [show (10 : Int32) = nI 10 from rfl, show (48 : Int32) = nI 48 from rfl, pk_mul, nI_add, nI_subN (by omega)]
    congr 1; omega
  rw [e]
  by_cases q : 10 * m + (b - 48) < 10000
  · rw [if_pos (show nI (10 * m + (b - 48)) < (10000 : Int32) from (nI_ltI (b := 10000) (by omega) (by omega)).mpr q), Nat.min_eq_right (by omega)]
  · rw [if_neg (show ¬ nI (10 * m + (b - 48)) < (10000 : Int32) from fun z => q ((nI_ltI (b := 10000) (by omega) (by omega)).mp z)), Nat.min_eq_left (by omega)]; rfl
theorem c_run {t : Nat → Nat} {n : Nat} {tb tp : Nat → Int32} (h : TPx t n tb tp) {c p : Nat} (hc : c ≤ 4) (hp : p < n → cls (t p) = c) : ∀ d f k x, k + d = n → d < f → p ≤ k → ∃ y, f_X3_step_104 (nI 1) (nI c) (nI p) tb (nI n) f (nI k) x = some (nI (run (ofc t c) d k), y) ∧ (c = 2 → x = nI (min 1000 (tv t p (k - p))) → y = nI (min 1000 (tv t p (run (ofc t c) d k - p))))
  | 0, f, k, x, hk, hf, hpk => by
    have hn := h.1
    cases f with
    | zero => omega
    | succ f =>
      refine ⟨x, ?_, fun _ z => z⟩
      unfold f_X3_step_104 f_X6_length
      rw [bd_s, if_pos (nI_le (by omega) (by omega))]; rfl
  | d + 1, f, k, x, hk, hf, hpk => by
    have hn := h.1
    cases f with
    | zero => omega
    | succ f =>
      have ht := (h.2 k (by omega)).1
      have hcl := cls_le (t k)
      by_cases q : cls (t k) = c
      · obtain ⟨y, g1, g2⟩ := c_run h hc hp d f (k + 1) (if (10 : Int32) * x + nI (t k) - 48 < 1000 then (10 : Int32) * x + nI (t k) - 48 else 1000) (by omega) (by omega) (by omega)
        have er : run (ofc t c) (d + 1) k = run (ofc t c) d (k + 1) := if_pos (show ofc t c k = true from decide_eq_true q)
        refine ⟨y, ?_, fun hc2 hx => ?_⟩
        · rw [er, ← g1]
          conv => lhs; unfold f_X3_step_104 f_X6_length
          rw [bd_s, if_neg (nI_ge (by omega) (by omega)), c_at h (by omega), nI_1, jn_s]
          by_cases z : k = p
          · rw [z, if_pos rfl]; rfl
          · rw [if_neg (fun w => z ((nI_eq (by omega) (by omega)).mp w)), if_neg (by decide), bd_s, c_tok ht, bd_s, q, if_pos rfl]; rfl
        · rw [er]
          refine g2 hc2 ?_
          have hb := cls_2 (q.trans hc2)
          rw [hx, cap_c (by omega) hb.1 hb.2, show k + 1 - p = (k - p) + 1 by omega]
          have e : tv t p (k - p + 1) = 10 * tv t p (k - p) + (t k - 48) := by
            show 10 * tv t p (k - p) + (t (p + (k - p)) - 48) = _
            rw [show p + (k - p) = k by omega]
          rw [e]
          congr 1
          omega
      · have er : run (ofc t c) (d + 1) k = k := if_neg (show ¬ ofc t c k = true from fun z => q (of_decide_eq_true z))
        have z : k ≠ p := fun z => q (by rw [z]; exact hp (by omega))
        refine ⟨x, ?_, fun _ hx => by rw [er]; exact hx⟩
        rw [er]
        unfold f_X3_step_104 f_X6_length
        rw [bd_s, if_neg (nI_ge (by omega) (by omega)), c_at h (by omega), jn_s, if_neg (fun w => z ((nI_eq (by omega) (by omega)).mp w)), if_neg (by decide), bd_s, c_tok ht, bd_s, if_neg (fun w => q ((nI_eq (by omega) (by omega)).mp w))]
theorem c_sgn {t : Nat → Nat} {n : Nat} {tb tp : Nat → Int32} (h : TPx t n tb tp) {c p f : Nat} {x : Int32} (hp : p < n) (hf : 2 ≤ f) : ∃ y, f_X3_step_104 (nI 0) (nI c) (nI p) tb (nI n) f (nI p) x = some (nI (p + 1), y) := by
  have hn := h.1
  obtain ⟨f, rfl⟩ : ∃ g, f = g + 2 := ⟨f - 2, by omega⟩
  refine ⟨(if (10 : Int32) * x + nI (t p) - 48 < 1000 then (10 : Int32) * x + nI (t p) - 48 else 1000), ?_⟩
  unfold f_X3_step_104 f_X6_length
  rw [bd_s, if_neg (nI_ge (by omega) (by omega)), c_at h (by omega), jn_s, if_pos rfl, bd_s, nI_1]
  unfold f_X3_step_104 f_X6_length
  rw [bd_s]
  by_cases q : n ≤ p + 1
  · rw [if_pos (nI_le (by omega) (by omega))]
  · rw [if_neg (nI_ge (by omega) (by omega)), jn_s, if_neg (fun w => by have := (nI_eq (by omega) (by omega)).mp w; omega)]; exact if_pos rfl
theorem m_runL {t : Nat → Nat} {n : Nat} {tb tp : Nat → Int32} (h : TPx t n tb tp) : ∀ d f k, k + d = n → d < f → f_X8_next_84 tp (nI n) f (nI k) = some (nI (run (ofc t 1) d k))
  | 0, f, k, hk, hf => by
    have hn := h.1
    cases f with
    | zero => omega
    | succ f =>
      unfold f_X8_next_84
      rw [m_atE (by omega) (by omega), bd_s, show f_X8_within (-1) 97 122 = some 0 from by decide, bd_s, if_pos rfl]; rfl
  | d + 1, f, k, hk, hf => by
    have hn := h.1
    cases f with
    | zero => omega
    | succ f =>
      have ih := m_runL h d f (k + 1) (by omega) (by omega)
      have ht := (h.2 k (by omega)).1
      unfold f_X8_next_84
      rw [m_at h (by omega), bd_s, m_let ht, bd_s, nI_1]
      show _ = some (nI (if ofc t 1 k = true then run (ofc t 1) d (k + 1) else k))
      by_cases q : cls (t k) = 1
      · rw [if_neg (by rw [decide_eq_true q]; decide), if_pos (show ofc t 1 k = true from decide_eq_true q)]; exact ih
      · rw [if_pos (by rw [decide_eq_false q]; decide), if_neg (show ¬ ofc t 1 k = true from fun z => q (of_decide_eq_true z))]
theorem m_runD {t : Nat → Nat} {n : Nat} {tb tp : Nat → Int32} (h : TPx t n tb tp) {p : Nat} : ∀ d f k x, k + d = n → d < f → p ≤ k → x = nI (min 10000 (tv t p (k - p))) → f_X8_next_131 tp (nI n) f (nI k) x = some (nI (run (ofc t 2) d k), nI (min 10000 (tv t p (run (ofc t 2) d k - p))))
  | 0, f, k, x, hk, hf, hpk, hx => by
    have hn := h.1
    cases f with
    | zero => omega
    | succ f =>
      unfold f_X8_next_131
      rw [m_atE (by omega) (by omega), bd_s, show f_X8_within (-1) 48 57 = some 0 from by decide, bd_s, if_pos rfl, hx]; rfl
  | d + 1, f, k, x, hk, hf, hpk, hx => by
    have hn := h.1
    cases f with
    | zero => omega
    | succ f =>
      have ht := (h.2 k (by omega)).1
      unfold f_X8_next_131
      rw [m_at h (by omega), bd_s, m_dig ht, bd_s, nI_1]
      by_cases q : cls (t k) = 2
      · have er : run (ofc t 2) (d + 1) k = run (ofc t 2) d (k + 1) := if_pos (show ofc t 2 k = true from decide_eq_true q)
        have hb := cls_2 q
        rw [if_neg (by rw [decide_eq_true q]; decide), bd_s, er, hx, cap_m (by omega) hb.1 hb.2]
        refine m_runD h d f (k + 1) _ (by omega) (by omega) (by omega) ?_
        rw [show k + 1 - p = (k - p) + 1 by omega]
        have e : tv t p (k - p + 1) = 10 * tv t p (k - p) + (t k - 48) := by
          show 10 * tv t p (k - p) + (t (p + (k - p)) - 48) = _
          rw [show p + (k - p) = k by omega]
        rw [e]
        congr 1
        omega
      · have er : run (ofc t 2) (d + 1) k = k := if_neg (show ¬ ofc t 2 k = true from fun z => q (of_decide_eq_true z))
        rw [if_pos (by rw [decide_eq_false q]; decide), er, hx]
