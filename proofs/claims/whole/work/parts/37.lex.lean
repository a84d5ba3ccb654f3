/-! ===== the text's tokens ===== -/
def TPx (t : Nat → Nat) (n : Nat) (tb tp : Nat → Int32) : Prop := n ≤ 120 ∧ ∀ j, j < n → t j < 256 ∧ tb j = nI (t j) ∧ tp j = nI (t j)
def cls (x : Nat) : Nat := if 97 ≤ x ∧ x ≤ 122 then 1 else if 48 ≤ x ∧ x ≤ 57 then 2 else if x = 59 then 3 else 4
theorem cls_le (x : Nat) : 1 ≤ cls x ∧ cls x ≤ 4 := by unfold cls; repeat' split
                                                       all_goals omega
theorem cls_3 {x : Nat} (h : cls x = 3) : x = 59 := by
  unfold cls at h; split at h
  · omega
  · split at h
    · omega
    · split at h <;> omega
theorem cls_4 {x : Nat} (h : cls x = 4) : x ≠ 59 := by rintro rfl; exact absurd h (by decide)
theorem cls_2 {x : Nat} (h : cls x = 2) : 48 ≤ x ∧ x ≤ 57 := by
  unfold cls at h; split at h
  · omega
  · split at h
    · omega
    · split at h <;> omega
theorem c_tok0 : ∀ x : Fin 256, f_X3_tokenOf (nI x.val) = some (nI (cls x.val)) := by decide +kernel
theorem m_let0 : ∀ x : Fin 256, f_X8_within (nI x.val) 97 122 = some (b2 (decide (cls x.val = 1))) := by decide +kernel
theorem m_dig0 : ∀ x : Fin 256, f_X8_within (nI x.val) 48 57 = some (b2 (decide (cls x.val = 2))) := by decide +kernel
theorem c_tok {x : Nat} (h : x < 256) : f_X3_tokenOf (nI x) = some (nI (cls x)) := c_tok0 ⟨x, h⟩
theorem m_let {x : Nat} (h : x < 256) : f_X8_within (nI x) 97 122 = some (b2 (decide (cls x = 1))) := m_let0 ⟨x, h⟩
theorem m_dig {x : Nat} (h : x < 256) : f_X8_within (nI x) 48 57 = some (b2 (decide (cls x = 2))) := m_dig0 ⟨x, h⟩
theorem c_at {t : Nat → Nat} {n : Nat} {tb tp : Nat → Int32} (h : TPx t n tb tp) {j : Nat} (hj : j < n) : f_X6_at tb (nI n) (nI j) = some (nI (t j)) := by
  have hn := h.1
  unfold f_X6_at
  rw [if_neg (show ¬ nI j < (0 : Int32) from nI_pos (by omega)), if_neg (nI_ge (by omega) (by omega)), gd_ix (by omega) (by decide), nI_clamp (by omega), (h.2 j hj).2.1]
theorem c_atE {n j : Nat} {tb : Nat → Int32} (hj : n ≤ j) (h2 : j < 2 ^ 31) : f_X6_at tb (nI n) (nI j) = some (-1 : Int32) := by
  unfold f_X6_at
  rw [if_neg (show ¬ nI j < (0 : Int32) from nI_pos (by omega)), if_pos (nI_le (by omega) (by omega))]
theorem m_at {t : Nat → Nat} {n : Nat} {tb tp : Nat → Int32} (h : TPx t n tb tp) {j : Nat} (hj : j < n) : f_X8_byteAt tp (nI n) (nI j) = some (nI (t j)) := by
  have hn := h.1
  unfold f_X8_byteAt
  rw [if_neg (nI_ge (by omega) (by omega)), gd_ix (by omega) (by decide), nI_clamp (by omega), (h.2 j hj).2.2]
theorem m_atE {n j : Nat} {tp : Nat → Int32} (hj : n ≤ j) (h2 : j < 2 ^ 31) : f_X8_byteAt tp (nI n) (nI j) = some (-1 : Int32) := by
  unfold f_X8_byteAt
  rw [if_pos (nI_le (by omega) (by omega))]
def blk (t : Nat → Nat) (j : Nat) : Bool := decide (t j = 32)
theorem c_skip {t : Nat → Nat} {n : Nat} {tb tp : Nat → Int32} (h : TPx t n tb tp) : ∀ d f k, k + d = n → d < f → f_X3_step_8 tb (nI n) f (nI k) = some (nI (run (blk t) d k))
  | 0, f, k, hk, hf => by
    have hn := h.1
    cases f with
    | zero => omega
    | succ f =>
      unfold f_X3_step_8 f_X6_length
      rw [bd_s, if_pos (nI_le (by omega) (by omega))]; rfl
  | d + 1, f, k, hk, hf => by
    have hn := h.1
    cases f with
    | zero => omega
    | succ f =>
      have ih := c_skip h d f (k + 1) (by omega) (by omega)
      have ht := (h.2 k (by omega)).1
      unfold f_X3_step_8 f_X6_length
      rw [bd_s, if_neg (nI_ge (by omega) (by omega)), c_at h (by omega), bd_s, nI_1]
      show _ = some (nI (if blk t k = true then run (blk t) d (k + 1) else k))
      by_cases q : t k = 32
      · rw [if_pos (show nI (t k) = (32 : Int32) by rw [q]; rfl), if_pos (show blk t k = true from decide_eq_true q)]; exact ih
      · rw [if_neg (show ¬ nI (t k) = (32 : Int32) from fun z => q ((nI_eq (a := t k) (b := 32) (by omega) (by omega)).mp z)), if_neg (show ¬ blk t k = true from fun z => q (of_decide_eq_true z))]
theorem m_skip {t : Nat → Nat} {n : Nat} {tb tp : Nat → Int32} (h : TPx t n tb tp) : ∀ d f k, k + d = n → d < f → f_X8_next_8 tp (nI n) f (nI k) = some (nI (run (blk t) d k))
  | 0, f, k, hk, hf => by
    have hn := h.1
    cases f with
    | zero => omega
    | succ f =>
      unfold f_X8_next_8
      rw [m_atE (by omega) (by omega), bd_s, if_neg (by decide)]; rfl
  | d + 1, f, k, hk, hf => by
    have hn := h.1
    cases f with
    | zero => omega
    | succ f =>
      have ih := m_skip h d f (k + 1) (by omega) (by omega)
      have ht := (h.2 k (by omega)).1
      unfold f_X8_next_8
      rw [m_at h (by omega), bd_s, nI_1]
      show _ = some (nI (if blk t k = true then run (blk t) d (k + 1) else k))
      by_cases q : t k = 32
      · rw [if_pos (show nI (t k) = (32 : Int32) by rw [q]; rfl), if_pos (show blk t k = true from decide_eq_true q)]; exact ih
      · rw [if_neg (show ¬ nI (t k) = (32 : Int32) from fun z => q ((nI_eq (a := t k) (b := 32) (by omega) (by omega)).mp z)), if_neg (show ¬ blk t k = true from fun z => q (of_decide_eq_true z))]
def tv (t : Nat → Nat) (p : Nat) : Nat → Nat
  | 0 => 0
  | k + 1 => 10 * tv t p k + (t (p + k) - 48)
def ofc (t : Nat → Nat) (c : Nat) (j : Nat) : Bool := decide (cls (t j) = c)
theorem nI_subN {a b : Nat} (h : b ≤ a) : nI a - nI b = nI (a - b) := by
  have : nI a = nI (a - b) + nI b := by rw [nI_add]; congr 1; omega
  rw [this, Int32.add_sub_cancel]
theorem cap_c {m b : Nat} (hm : m ≤ 1000) (h1 : 48 ≤ b) (h2 : b ≤ 57) : (if (10 : Int32) * nI m + nI b - 48 < 1000 then (10 : Int32) * nI m + nI b - 48 else 1000) = nI (min 1000 (10 * m + (b - 48))) := by
  have e : (10 : Int32) * nI m + nI b - 48 = nI (10 * m + (b - 48)) := by
    rw [show (10 : Int32) = nI 10 from rfl, show (48 : Int32) = nI 48 from rfl, pk_mul, nI_add, nI_subN (by omega)]
    congr 1; omega
  rw [e]
  by_cases q : 10 * m + (b - 48) < 1000
  · rw [if_pos (show nI (10 * m + (b - 48)) < (1000 : Int32) from (nI_ltI (b := 1000) (by omega) (by omega)).mpr q), Nat.min_eq_right (by omega)]
  · rw [if_neg (show ¬ nI (10 * m + (b - 48)) < (1000 : Int32) from fun z => q ((nI_ltI (b := 1000) (by omega) (by omega)).mp z)), Nat.min_eq_left (by omega)]; rfl
theorem cap_m {m b : Nat} (hm : m ≤ 10000) (h1 : 48 ≤ b) (h2 : b ≤ 57) : (if (10 : Int32) * nI m + nI b - 48 < 10000 then (10 : Int32) * nI m + nI b - 48 else 10000) = nI (min 10000 (10 * m + (b - 48))) := by
  have e : (10 : Int32) * nI m + nI b - 48 = nI (10 * m + (b - 48)) := by
    rw [show (10 : Int32) = nI 10 from rfl, show (48 : Int32) = nI 48 from rfl, pk_mul, nI_add, nI_subN (by omega)]
    congr 1; omega
  rw [e]
  by_cases q : 10 * m + (b - 48) < 10000
  · rw [if_pos (show nI (10 * m + (b - 48)) < (10000 : Int32) from (nI_ltI (b := 10000) (by omega) (by omega)).mpr q), Nat.min_eq_right (by omega)]
  · rw [if_neg (show ¬ nI (10 * m + (b - 48)) < (10000 : Int32) from fun z => q ((nI_ltI (b := 10000) (by omega) (by omega)).mp z)), Nat.min_eq_left (by omega)]; rfl
theorem c_run {t : Nat → Nat} {n : Nat} {tb tp : Nat → Int32} (h : TPx t n tb tp) {c p : Nat} (hc : c ≤ 4) (hp : p < n → cls (t p) = c) : ∀ d f k x, k + d = n → d < f → p ≤ k → ∃ y, f_X3_step_104 (nI 1) (nI c) (nI p) tb (nI n) f (nI k) x = some (nI (run (ofc t c) d k), y) ∧ (c = 2 → x = nI (min 1000 (tv t p (k - p))) → y = nI (min 1000 (tv t p (run (ofc t c) d k - p))))
  | 0, f, k, x, hk, hf, hpk => by
    have hn := h.1
    cases f with
    | zero => omega
    | succ f =>
      refine ⟨x, ?_, fun _ z => z⟩
      unfold f_X3_step_104 f_X6_length
      rw [bd_s, if_pos (nI_le (by omega) (by omega))]; rfl
  | d + 1, f, k, x, hk, hf, hpk => by
    have hn := h.1
    cases f with
    | zero => omega
    | succ f =>
      have ht := (h.2 k (by omega)).1
      have hcl := cls_le (t k)
      by_cases q : cls (t k) = c
      · obtain ⟨y, g1, g2⟩ := c_run h hc hp d f (k + 1) (if (10 : Int32) * x + nI (t k) - 48 < 1000 then (10 : Int32) * x + nI (t k) - 48 else 1000) (by omega) (by omega) (by omega)
        have er : run (ofc t c) (d + 1) k = run (ofc t c) d (k + 1) := if_pos (show ofc t c k = true from decide_eq_true q)
        refine ⟨y, ?_, fun hc2 hx => ?_⟩
        · rw [er, ← g1]
          conv => lhs; unfold f_X3_step_104 f_X6_length
          rw [bd_s, if_neg (nI_ge (by omega) (by omega)), c_at h (by omega), nI_1, jn_s]
          by_cases z : k = p
          · rw [z, if_pos rfl]; rfl
          · rw [if_neg (fun w => z ((nI_eq (by omega) (by omega)).mp w)), if_neg (by decide), bd_s, c_tok ht, bd_s, q, if_pos rfl]; rfl
        · rw [er]
          refine g2 hc2 ?_
          have hb := cls_2 (q.trans hc2)
          rw [hx, cap_c (by omega) hb.1 hb.2, show k + 1 - p = (k - p) + 1 by omega]
          have e : tv t p (k - p + 1) = 10 * tv t p (k - p) + (t k - 48) := by
            show 10 * tv t p (k - p) + (t (p + (k - p)) - 48) = _
            rw [show p + (k - p) = k by omega]
          rw [e]
          congr 1
          omega
      · have er : run (ofc t c) (d + 1) k = k := if_neg (show ¬ ofc t c k = true from fun z => q (of_decide_eq_true z))
        have z : k ≠ p := fun z => q (by rw [z]; exact hp (by omega))
        refine ⟨x, ?_, fun _ hx => by rw [er]; exact hx⟩
        rw [er]
        unfold f_X3_step_104 f_X6_length
        rw [bd_s, if_neg (nI_ge (by omega) (by omega)), c_at h (by omega), jn_s, if_neg (fun w => z ((nI_eq (by omega) (by omega)).mp w)), if_neg (by decide), bd_s, c_tok ht, bd_s, if_neg (fun w => q ((nI_eq (by omega) (by omega)).mp w))]
theorem c_sgn {t : Nat → Nat} {n : Nat} {tb tp : Nat → Int32} (h : TPx t n tb tp) {c p f : Nat} {x : Int32} (hp : p < n) (hf : 2 ≤ f) : ∃ y, f_X3_step_104 (nI 0) (nI c) (nI p) tb (nI n) f (nI p) x = some (nI (p + 1), y) := by
  have hn := h.1
  obtain ⟨f, rfl⟩ : ∃ g, f = g + 2 := ⟨f - 2, by omega⟩
  refine ⟨(if (10 : Int32) * x + nI (t p) - 48 < 1000 then (10 : Int32) * x + nI (t p) - 48 else 1000), ?_⟩
  unfold f_X3_step_104 f_X6_length
  rw [bd_s, if_neg (nI_ge (by omega) (by omega)), c_at h (by omega), jn_s, if_pos rfl, bd_s, nI_1]
  unfold f_X3_step_104 f_X6_length
  rw [bd_s]
  by_cases q : n ≤ p + 1
  · rw [if_pos (nI_le (by omega) (by omega))]
  · rw [if_neg (nI_ge (by omega) (by omega)), jn_s, if_neg (fun w => by have := (nI_eq (by omega) (by omega)).mp w; omega)]; exact if_pos rfl
theorem m_runL {t : Nat → Nat} {n : Nat} {tb tp : Nat → Int32} (h : TPx t n tb tp) : ∀ d f k, k + d = n → d < f → f_X8_next_84 tp (nI n) f (nI k) = some (nI (run (ofc t 1) d k))
  | 0, f, k, hk, hf => by
    have hn := h.1
    cases f with
    | zero => omega
    | succ f =>
      unfold f_X8_next_84
      rw [m_atE (by omega) (by omega), bd_s, show f_X8_within (-1) 97 122 = some 0 from by decide, bd_s, if_pos rfl]; rfl
  | d + 1, f, k, hk, hf => by
    have hn := h.1
    cases f with
    | zero => omega
    | succ f =>
      have ih := m_runL h d f (k + 1) (by omega) (by omega)
      have ht := (h.2 k (by omega)).1
      unfold f_X8_next_84
      rw [m_at h (by omega), bd_s, m_let ht, bd_s, nI_1]
      show _ = some (nI (if ofc t 1 k = true then run (ofc t 1) d (k + 1) else k))
      by_cases q : cls (t k) = 1
      · rw [if_neg (by rw [decide_eq_true q]; decide), if_pos (show ofc t 1 k = true from decide_eq_true q)]; exact ih
      · rw [if_pos (by rw [decide_eq_false q]; decide), if_neg (show ¬ ofc t 1 k = true from fun z => q (of_decide_eq_true z))]
theorem m_runD {t : Nat → Nat} {n : Nat} {tb tp : Nat → Int32} (h : TPx t n tb tp) {p : Nat} : ∀ d f k x, k + d = n → d < f → p ≤ k → x = nI (min 10000 (tv t p (k - p))) → f_X8_next_131 tp (nI n) f (nI k) x = some (nI (run (ofc t 2) d k), nI (min 10000 (tv t p (run (ofc t 2) d k - p))))
  | 0, f, k, x, hk, hf, hpk, hx => by
    have hn := h.1
    cases f with
    | zero => omega
    | succ f =>
      unfold f_X8_next_131
      rw [m_atE (by omega) (by omega), bd_s, show f_X8_within (-1) 48 57 = some 0 from by decide, bd_s, if_pos rfl, hx]; rfl
  | d + 1, f, k, x, hk, hf, hpk, hx => by
    have hn := h.1
    cases f with
    | zero => omega
    | succ f =>
      have ht := (h.2 k (by omega)).1
      unfold f_X8_next_131
      rw [m_at h (by omega), bd_s, m_dig ht, bd_s, nI_1]
      by_cases q : cls (t k) = 2
      · have er : run (ofc t 2) (d + 1) k = run (ofc t 2) d (k + 1) := if_pos (show ofc t 2 k = true from decide_eq_true q)
        have hb := cls_2 q
        rw [if_neg (by rw [decide_eq_true q]; decide), bd_s, er, hx, cap_m (by omega) hb.1 hb.2]
        refine m_runD h d f (k + 1) _ (by omega) (by omega) (by omega) ?_
        rw [show k + 1 - p = (k - p) + 1 by omega]
        have e : tv t p (k - p + 1) = 10 * tv t p (k - p) + (t k - 48) := by
          show 10 * tv t p (k - p) + (t (p + (k - p)) - 48) = _
          rw [show p + (k - p) = k by omega]
        rw [e]
        congr 1
        omega
      · have er : run (ofc t 2) (d + 1) k = k := if_neg (show ¬ ofc t 2 k = true from fun z => q (of_decide_eq_true z))
        rw [if_pos (by rw [decide_eq_false q]; decide), er, hx]
/-! words -/
def la (a : Nat) : Nat := en_len.getD a 0
theorem la_le0 : ∀ a : Fin 17, la a.val ≤ 8 := by decide
theorem la_le {a : Nat} (h : a < 17) : la a ≤ 8 := la_le0 ⟨a, h⟩
def mw (t : Nat → Nat) (p a : Nat) : Nat → Nat → Bool
  | 0, _ => true
  | d + 1, k => decide (nI (t (p + k)) = wc a (nI k)) && mw t p a d (k + 1)
def isw (t : Nat → Nat) (p q c a : Nat) : Bool := if c = 1 ∧ q - p = la a then mw t p a (la a) 0 else false
theorem mw_all {t : Nat → Nat} {p a : Nat} : ∀ d k, mw t p a d k = true → ∀ j, k ≤ j → j < k + d → nI (t (p + j)) = wc a (nI j)
  | 0, k, _, j, h1, h2 => by omega
  | d + 1, k, h, j, h1, h2 => by
    unfold mw at h
    rw [Bool.and_eq_true] at h
    by_cases q : j = k
    · rw [q]; exact of_decide_eq_true h.1
    · exact mw_all d (k + 1) h.2 j (by omega) (by omega)
theorem words0 : ∀ a b : Fin 17, la a.val = la b.val → (∀ k : Fin 8, k.val < la a.val → wc a.val (nI k.val) = wc b.val (nI k.val)) → a = b := by decide +kernel
theorem isw_one {t : Nat → Nat} {p q c a b : Nat} (ha : a < 17) (hb : b < 17) (h1 : isw t p q c a = true) (h2 : isw t p q c b = true) : a = b := by
  unfold isw at h1 h2
  by_cases q1 : c = 1 ∧ q - p = la a
  · by_cases q2 : c = 1 ∧ q - p = la b
    · rw [if_pos q1] at h1
      rw [if_pos q2] at h2
      have e : la a = la b := by omega
      have := words0 ⟨a, ha⟩ ⟨b, hb⟩ e (fun k hk => by
        have hk : k.val < la a := hk
        exact (mw_all _ _ h1 k.val (by omega) (by omega)).symm.trans (mw_all _ _ h2 k.val (by omega) (by omega)))
      exact congrArg Fin.val this
    · rw [if_neg q2] at h2; cases h2
  · rw [if_neg q1] at h1; cases h1
theorem isw_o (t : Nat → Nat) (p q c : Nat) : ∃ o, ∀ a, a < 17 → isw t p q c a = decide (a = o) := by
  by_cases h : ∃ a, a < 17 ∧ isw t p q c a = true
  · obtain ⟨o, h1, h2⟩ := h
    refine ⟨o, fun a ha => ?_⟩
    by_cases e : a = o
    · rw [e, h2]; exact (decide_eq_true rfl).symm
    · rw [decide_eq_false e]
      cases z : isw t p q c a
      · rfl
      · exact absurd (isw_one ha h1 z h2) e
  · refine ⟨17, fun a ha => ?_⟩
    rw [decide_eq_false (by omega)]
    cases z : isw t p q c a
    · rfl
    · exact absurd ⟨a, ha, z⟩ h
theorem c_iw28 {t : Nat → Nat} {n : Nat} {tb tp : Nat → Int32} (h : TPx t n tb tp) {p a : Nat} (ha : a < 17) (hp : p + la a ≤ n) : ∀ d f k, k + d = la a → d < f → f_X3_isWord_28 a (nI p) tb (nI n) (fun _ => some (1 : Int32)) f (nI k) = some (b2 (mw t p a d k))
  | 0, f, k, hk, hf => by
    have h8 := la_le ha
    cases f with
    | zero => omega
    | succ f =>
      unfold f_X3_isWord_28
      rw [show wl a = nI (la a) from rfl, if_pos (nI_le (by omega) (by omega))]; rfl
  | d + 1, f, k, hk, hf => by
    have h8 := la_le ha
    have hn := h.1
    cases f with
    | zero => omega
    | succ f =>
      have ih := c_iw28 h ha hp d f (k + 1) (by omega) (by omega)
      unfold f_X3_isWord_28
      rw [show wl a = nI (la a) from rfl, if_neg (nI_ge (by omega) (by omega)), nI_add, c_at h (by omega), bd_s, show en_len.getD a 0 = la a from rfl, gd_ix (by omega) (by omega), nI_1]
      unfold mw
      by_cases q : nI (t (p + k)) = wc a (nI k)
      · rw [if_pos q, ih, decide_eq_true q, Bool.true_and]
      · rw [if_neg q, decide_eq_false q, Bool.false_and]; rfl
theorem m_iw32 {t : Nat → Nat} {n : Nat} {tb tp : Nat → Int32} (h : TPx t n tb tp) {p a : Nat} (ha : a < 17) (hp : p + la a ≤ n) : ∀ d f k B, k + d = la a → d + 1 < f → f_X8_isWord_32 a tp (nI p) f (b2 B) (nI k) = some (b2 (B && mw t p a d k))
  | 0, f, k, B, hk, hf => by
    have h8 := la_le ha
    cases f with
    | zero => omega
    | succ f =>
      unfold f_X8_isWord_32
      rw [show wl a = nI (la a) from rfl, if_pos (nI_le (by omega) (by omega))]
      cases B <;> rfl
  | d + 1, f, k, B, hk, hf => by
    have h8 := la_le ha
    have hn := h.1
    cases f with
    | zero => omega
    | succ f =>
      unfold f_X8_isWord_32
      rw [show wl a = nI (la a) from rfl, if_neg (nI_ge (by omega) (by omega))]
      cases B with
      | false => rw [if_pos (show b2 false = 0 from rfl)]; rfl
      | true =>
        have ih := fun B => m_iw32 h ha hp d f (k + 1) B (by omega) (by omega)
        rw [if_neg (by decide), nI_add, gd_ix (by omega) (by decide), show en_len.getD a 0 = la a from rfl, gd_ix (by omega) (by omega), nI_clamp (by omega), (h.2 (p + k) (by omega)).2.2, nI_1]
        unfold mw
        by_cases q : nI (t (p + k)) = wc a (nI k)
        · rw [if_pos q, bd_s, show (1 : Int32) = b2 true from rfl, ih, decide_eq_true q]; rfl
        · rw [if_neg q, bd_s, show (0 : Int32) = b2 false from rfl, ih, decide_eq_false q]; rfl
def srt (c : Nat) : Nat := if c = 4 then 3 else c
theorem c_isWord {t : Nat → Nat} {n : Nat} {tb tp : Nat → Int32} (h : TPx t n tb tp) {N : Nat} (hN : 2000 ≤ N) {p q c a : Nat} (hc : c ≤ 4) (hpq : p ≤ q) (hq : q ≤ n) (ha : a < 17) : f_X3_isWord N (nI c) (nI p) (nI q) tb (nI n) a = some (b2 (isw t p q c a)) := by
  have h8 := la_le ha
  have hn := h.1
  unfold f_X3_isWord isw
  by_cases q1 : c = 1
  · rw [if_pos (show nI c = (1 : Int32) by rw [q1]; rfl), nI_subN hpq, show wl a = nI (la a) from rfl]
    by_cases q2 : q - p = la a
    · rw [if_pos (by rw [q2]), if_pos ⟨q1, q2⟩]
      exact c_iw28 h ha (by omega) (la a) N 0 (by omega) (by omega)
    · rw [if_neg (fun z => q2 ((nI_eq (by omega) (by omega)).mp z)), if_neg (fun z => q2 z.2)]; rfl
  · rw [if_neg (show ¬ nI c = (1 : Int32) from fun z => q1 ((nI_eq (a := c) (b := 1) (by omega) (by omega)).mp z)), if_neg (fun z => q1 z.1)]; rfl
theorem m_isWord {t : Nat → Nat} {n : Nat} {tb tp : Nat → Int32} (h : TPx t n tb tp) {N : Nat} (hN : 2000 ≤ N) {p q c a : Nat} (hc : c ≤ 4) (hpq : p ≤ q) (hq : q ≤ n) (ha : a < 17) : f_X8_isWord N tp (nI p) (nI q) (nI (srt c)) a = some (b2 (isw t p q c a)) := by
  have h8 := la_le ha
  have hn := h.1
  have w0 : f_X8_isWord_32 a tp (nI p) N (0 : Int32) (0 : Int32) = some (0 : Int32) := by
    obtain ⟨m, rfl⟩ : ∃ m, N = m + 1 := ⟨N - 1, by omega⟩
    unfold f_X8_isWord_32
    split
    · rfl
    · rw [if_pos rfl]
  unfold f_X8_isWord isw
  by_cases q1 : c = 1
  · rw [if_pos (show nI (srt c) = (1 : Int32) by rw [q1]; rfl), nI_subN hpq, show wl a = nI (la a) from rfl]
    by_cases q2 : q - p = la a
    · rw [if_pos (by rw [q2]), if_pos ⟨q1, q2⟩, bd_s, show f_X8_isWord_32 a tp (nI p) N (1 : Int32) (0 : Int32) = some (b2 (true && mw t p a (la a) 0)) from m_iw32 h ha (by omega) (la a) N 0 true (by omega) (by omega), bd_s, isb_b2, gd_tt, Bool.true_and]
    · rw [if_neg (fun z => q2 ((nI_eq (by omega) (by omega)).mp z)), if_neg (fun z => q2 z.2), bd_s, w0, bd_s, show isb 0 = true from rfl, gd_tt]; rfl
  · have : srt c ≤ 4 := by unfold srt; split <;> omega
    rw [if_neg (show ¬ nI (srt c) = (1 : Int32) from fun z => q1 (by have := (nI_eq (a := srt c) (b := 1) (by omega) (by omega)).mp z; unfold srt at this; split at this <;> omega)), if_neg (fun z => q1 z.1), bd_s, w0, bd_s, show isb 0 = true from rfl, gd_tt]; rfl
/-- the token that both stand at -/
def LX (t : Nat → Nat) (n N : Nat) (tb tp : Nat → Int32) (p q c w o : Nat) (x y : Int32) : Prop := p ≤ q ∧ q ≤ n ∧ c ≤ 4 ∧ (c = 0 ∨ p < q) ∧ (c = 3 → p < n ∧ t p = 59) ∧ (c = 4 → p < n ∧ t p ≠ 59) ∧ (c = 2 → x = nI (min 1000 w) ∧ y = nI (min 10000 w)) ∧ (∀ a, a < 17 → f_X3_isWord N (nI c) (nI p) (nI q) tb (nI n) a = some (b2 (decide (a = o)))) ∧ (∀ a, a < 17 → f_X8_isWord N tp (nI p) (nI q) (nI (srt c)) a = some (b2 (decide (a = o))))
theorem lx_mk {t : Nat → Nat} {n : Nat} {tb tp : Nat → Int32} (h : TPx t n tb tp) {N : Nat} (hN : 2000 ≤ N) {p q c w : Nat} {x y : Int32} (h1 : p ≤ q) (h2 : q ≤ n) (h3 : c ≤ 4) (h4 : c = 0 ∨ p < q) (h5 : c = 3 → p < n ∧ t p = 59) (h6 : c = 4 → p < n ∧ t p ≠ 59) (h7 : c = 2 → x = nI (min 1000 w) ∧ y = nI (min 10000 w)) : ∃ o, LX t n N tb tp p q c w o x y := by
  obtain ⟨o, ho⟩ := isw_o t p q c
  exact ⟨o, h1, h2, h3, h4, h5, h6, h7, fun a ha => by rw [c_isWord h hN h3 h1 h2 ha, ho a ha], fun a ha => by rw [m_isWord h hN h3 h1 h2 ha, ho a ha]⟩
theorem lx_next {t : Nat → Nat} {n : Nat} {tb tp : Nat → Int32} (h : TPx t n tb tp) {N : Nat} (hN : 2000 ≤ N) {q : Nat} (hq : q ≤ n) : ∃ p' q' c' w' o' x y, q ≤ p' ∧ LX t n N tb tp p' q' c' w' o' x y ∧ (∀ a b v, f_X3_step N a b (nI q) v tb (nI n) = some (nI c', nI p', nI q', x)) ∧ (∀ b s v, f_X8_next N tp (nI n) b (nI q) s v = some (nI p', nI q', nI (srt c'), y)) := by
  have hn := h.1
  have rl := run_le (blk t) (n - q) q
  have e1 := c_skip h (n - q) N q (by omega) (by omega)
  have e2 := m_skip h (n - q) N q (by omega) (by omega)
  generalize run (blk t) (n - q) q = p at rl e1 e2
  by_cases hp : p < n
  · have ht := (h.2 p hp).1
    have hc := cls_le (t p)
    have a1 := c_at h hp
    have a2 := m_at h hp
    have nn0 : (0 : Int32) ≤ nI (t p) := nI_pos' (by omega)
    by_cases k1 : cls (t p) = 1
    · have rr := run_le (ofc t 1) (n - p) p
      have rp : p < run (ofc t 1) (n - p) p := by
        obtain ⟨d, hd⟩ : ∃ d, n - p = d + 1 := ⟨n - p - 1, by omega⟩
        rw [hd]
        have : run (ofc t 1) (d + 1) p = run (ofc t 1) d (p + 1) := if_pos (show ofc t 1 p = true from decide_eq_true k1)
        rw [this]; have := run_le (ofc t 1) d (p + 1); omega
      obtain ⟨x, r1, r2⟩ := c_run h (c := 1) (p := p) (by omega) (fun _ => k1) (n - p) N p (0 : Int32) (by omega) (by omega) (by omega)
      obtain ⟨o, hx⟩ := lx_mk h hN (c := 1) (w := 0) (x := x) (y := 0) (show p ≤ run (ofc t 1) (n - p) p by omega) (by omega) (by omega) (by omega) (fun z => by omega) (fun z => by omega) (fun z => by omega)
      refine ⟨p, run (ofc t 1) (n - p) p, 1, 0, o, x, 0, by omega, hx, fun a b v => ?_, fun b s v => ?_⟩
      · unfold f_X3_step
        rw [e1, bd_s, a1, bd_s, c_tok ht, bd_s, k1, if_pos (show nI 1 = (1 : Int32) from rfl), bd_s, show (1 : Int32) = nI 1 from rfl, r1, bd_s]
      · unfold f_X8_next
        rw [e2, bd_s, a2, bd_s, if_pos nn0, m_let ht, bd_s, if_neg (by rw [decide_eq_true k1]; decide), m_runL h (n - p) N p (by omega) (by omega), bd_s]; rfl
    · by_cases k2 : cls (t p) = 2
      · have rr := run_le (ofc t 2) (n - p) p
        have rp : p < run (ofc t 2) (n - p) p := by
          obtain ⟨d, hd⟩ : ∃ d, n - p = d + 1 := ⟨n - p - 1, by omega⟩
          rw [hd]
          have : run (ofc t 2) (d + 1) p = run (ofc t 2) d (p + 1) := if_pos (show ofc t 2 p = true from decide_eq_true k2)
          rw [this]; have := run_le (ofc t 2) d (p + 1); omega
        have z0 : (0 : Int32) = nI (min 1000 (tv t p (p - p))) := by rw [Nat.sub_self]; rfl
        have z1 : (0 : Int32) = nI (min 10000 (tv t p (p - p))) := by rw [Nat.sub_self]; rfl
        obtain ⟨x, r1, r2⟩ := c_run h (c := 2) (p := p) (by omega) (fun _ => k2) (n - p) N p (0 : Int32) (by omega) (by omega) (by omega)
        have rm := m_runD h (p := p) (n - p) N p (0 : Int32) (by omega) (by omega) (by omega) z1
        obtain ⟨o, hx⟩ := lx_mk h hN (c := 2) (w := tv t p (run (ofc t 2) (n - p) p - p)) (x := x) (y := nI (min 10000 (tv t p (run (ofc t 2) (n - p) p - p)))) (show p ≤ run (ofc t 2) (n - p) p by omega) (by omega) (by omega) (by omega) (fun z => by omega) (fun z => by omega) (fun z => ⟨r2 rfl z0, rfl⟩)
        refine ⟨p, run (ofc t 2) (n - p) p, 2, _, o, x, _, by omega, hx, fun a b v => ?_, fun b s v => ?_⟩
        · unfold f_X3_step
          rw [e1, bd_s, a1, bd_s, c_tok ht, bd_s, k2, if_neg (by decide), if_pos (show nI 2 = (2 : Int32) from rfl), bd_s, show (1 : Int32) = nI 1 from rfl, r1, bd_s]
        · unfold f_X8_next
          rw [e2, bd_s, a2, bd_s, if_pos nn0, m_let ht, bd_s, if_pos (by rw [decide_eq_false k1]; decide), m_dig ht, bd_s, if_neg (by rw [decide_eq_true k2]; decide), rm, bd_s]; rfl
      · obtain ⟨x, r1⟩ := c_sgn h (c := cls (t p)) (f := N) (x := 0) hp (by omega)
        obtain ⟨o, hx⟩ := lx_mk h hN (c := cls (t p)) (w := 0) (x := x) (y := 0) (show p ≤ p + 1 by omega) (by omega) (by omega) (by omega) (fun z => ⟨hp, cls_3 z⟩) (fun z => ⟨hp, cls_4 z⟩) (fun z => by omega)
        have h34 : srt (cls (t p)) = 3 := by unfold srt; split <;> omega
        refine ⟨p, p + 1, cls (t p), 0, o, x, 0, by omega, hx, fun a b v => ?_, fun b s v => ?_⟩
        · unfold f_X3_step
          rw [e1, bd_s, a1, bd_s, c_tok ht, bd_s, if_neg (show ¬ nI (cls (t p)) = (1 : Int32) from fun z => k1 ((nI_eq (a := cls (t p)) (b := 1) (by omega) (by omega)).mp z)), if_neg (show ¬ nI (cls (t p)) = (2 : Int32) from fun z => k2 ((nI_eq (a := cls (t p)) (b := 2) (by omega) (by omega)).mp z)), bd_s, show f_X3_step_104 (0 : Int32) (nI (cls (t p))) (nI p) tb (nI n) N (nI p) (0 : Int32) = some (nI (p + 1), x) from r1, bd_s]
        · unfold f_X8_next
          rw [e2, bd_s, a2, bd_s, if_pos nn0, m_let ht, bd_s, if_pos (by rw [decide_eq_false k1]; decide), m_dig ht, bd_s, if_pos (by rw [decide_eq_false k2]; decide), h34, nI_1]; rfl
  · obtain ⟨o, hx⟩ := lx_mk h hN (p := p) (q := p) (c := 0) (w := 0) (x := (0 : Int32)) (y := 0) (by omega) (by omega) (by omega) (Or.inl rfl) (fun z => by omega) (fun z => by omega) (fun z => by omega)
    refine ⟨p, p, 0, 0, o, 0, 0, by omega, hx, fun a b v => ?_, fun b s v => ?_⟩
    · unfold f_X3_step
      obtain ⟨m, rfl⟩ : ∃ m, N = m + 1 := ⟨N - 1, by omega⟩
      rw [e1, bd_s, c_atE (by omega) (by omega), bd_s, show f_X3_tokenOf (-1) = some 0 from by decide, bd_s, if_neg (by decide), if_neg (by decide), bd_s]
      unfold f_X3_step_104 f_X6_length
      rw [bd_s, if_pos (nI_le (by omega) (by omega)), bd_s]; rfl
    · unfold f_X8_next
      rw [e2, bd_s, m_atE (by omega) (by omega), bd_s, if_neg (by decide)]; rfl
