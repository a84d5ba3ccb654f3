/-! ===== the pure part: numbers ===== -/
theorem bd_s {α β : Type} {a : α} {f : α → Option β} : bd (some a) f = f a := rfl
theorem gd_tt {α : Type} {k : Option α} : gd true k = k := rfl
theorem jn_s {α β : Type} {f : α → Option β} {g : (α → Option β) → Option β} : jn f g = g f := rfl
theorem lit32 (n : Nat) : (OfNat.ofNat n : Int32) = nI (OfNat.ofNat n) := Eq.trans rfl rfl
theorem litL (n : Nat) : (OfNat.ofNat n : Int64) = lN (OfNat.ofNat n) := Eq.trans rfl rfl
theorem i32_lt {a b : Int32} : a < b ↔ a.toInt < b.toInt := Int32.lt_iff_toInt_lt
theorem i32_le {a b : Int32} : a ≤ b ↔ a.toInt ≤ b.toInt := Int32.le_iff_toInt_le
theorem i32_eq {a b : Int32} : a = b ↔ a.toInt = b.toInt := Int32.toInt_inj.symm
/-- a number within 0 .. n - 1 -/
def inr (a : Int32) (n : Nat) : Bool := decide (0 ≤ a.toInt ∧ a.toInt < (n : Int))
theorem inr_iff {a : Int32} {n : Nat} : inr a n = true ↔ 0 ≤ a.toInt ∧ a.toInt < (n : Int) := by unfold inr; exact decide_eq_true_iff
theorem inr_nf {a : Int32} {n : Nat} (h : ¬ inr a n = true) : a.toInt < 0 ∨ (n : Int) ≤ a.toInt := by
  rw [inr_iff] at h; omega
theorem inr_t {a : Int32} {n : Nat} (hn : n < 2 ^ 31) (h : inr a n = true) : ∃ j, j < n ∧ a = nI j := vp_in_of (vp_in_iff.mpr (inr_iff.mp h)) hn
theorem inr_nI {j n : Nat} (hj : j < 2 ^ 31) : inr (nI j) n = decide (j < n) := by
  unfold inr; rw [nI_toInt hj]; simp
theorem ix_inr (a : Int32) (n : Nat) : ix a n = inr a n := by
  by_cases h : inr a n = true
  · rw [h]
    have : vp_in a n := vp_in_iff.mpr (inr_iff.mp h)
    exact decide_eq_true this
  · have h1 : inr a n = false := by simpa using h
    rw [h1]
    refine decide_eq_false (fun z => h (inr_iff.mpr (vp_in_iff.mp ?_)))
    exact z
theorem ix_nI {j n : Nat} (h : j < n) (hn : n < 2 ^ 31) : ix (nI j) n = true := by
  rw [ix_inr, inr_nI (by omega)]; exact decide_eq_true h
theorem gd_ix {α : Type} {j n : Nat} {k : Option α} (h : j < n) (hn : n < 2 ^ 31) : gd (ix (nI j) n) k = k := by rw [ix_nI h hn]; rfl
theorem z_ne : ¬ (1 : Int32) = 0 := by decide
def b2 (b : Bool) : Int32 := if b = true then 1 else 0
theorem b2_0 (b : Bool) : (b2 b = 0) = (b = false) := by cases b <;> decide
theorem b2_0n (b : Bool) : (b2 b = nI 0) = (b = false) := by cases b <;> decide
theorem b2_1n (b : Bool) : (b2 b = nI 1) = (b = true) := by cases b <;> decide
theorem b2_eq (a b : Bool) : (b2 a = b2 b) = (a = b) := by cases a <;> cases b <;> decide
theorem b2_t : b2 true = 1 := rfl
theorem b2_f : b2 false = 0 := rfl
theorem b2_tn : nI 1 = b2 true := rfl
theorem b2_fn : nI 0 = b2 false := rfl
theorem isb_b2 (b : Bool) : isb (b2 b) = true := by cases b <;> decide
theorem ite_f {α : Type} {b : Bool} {x y : α} : (if b = false then x else y) = (if b = true then y else x) := by cases b <;> rfl
theorem ite_b2 {b : Bool} : (if b = true then some (1 : Int32) else some (0 : Int32)) = some (b2 b) := by cases b <;> rfl
theorem ite_b2d {p : Prop} [Decidable p] : (if p then some (1 : Int32) else some (0 : Int32)) = some (b2 (decide p)) := by by_cases h : p <;> simp [h, b2]
theorem ite_b2n {p : Prop} [Decidable p] : (if p then some (nI 1) else some (nI 0)) = some (b2 (decide p)) := by by_cases h : p <;> simp [h, b2] <;> rfl
theorem ite_b2m {p : Prop} [Decidable p] : (if p then some (nI 0) else some (nI 1)) = some (b2 (!decide p)) := by by_cases h : p <;> simp [h, b2] <;> rfl
theorem some_ite {α : Type} {p : Prop} [Decidable p] {x y : α} : (if p then some x else some y) = some (if p then x else y) := by by_cases h : p <;> simp [h]
theorem m_within (a lo hi : Int32) : f_X8_within a lo hi = some (b2 (decide (lo.toInt ≤ a.toInt ∧ a.toInt ≤ hi.toInt))) := by
  unfold f_X8_within
  by_cases h1 : a < lo
  · rw [if_pos h1, decide_eq_false (by rw [i32_lt] at h1; omega)]; rfl
  · rw [if_neg h1]
    by_cases h2 : hi < a
    · rw [if_pos h2, decide_eq_false (by rw [i32_lt] at h2; omega)]; rfl
    · rw [if_neg h2, decide_eq_true (by rw [i32_lt] at h1 h2; omega)]; rfl
theorem m_within0 {a hi : Int32} {n : Nat} (h : hi.toInt = (n : Int) - 1) : f_X8_within a 0 hi = some (b2 (inr a n)) := by
  rw [m_within, h]
  have : (decide ((0 : Int32).toInt ≤ a.toInt ∧ a.toInt ≤ (n : Int) - 1)) = inr a n := by
    unfold inr
    rw [show (0 : Int32).toInt = 0 from rfl]
    exact decide_eq_decide.mpr (by omega)
  rw [this]
theorem nI_m1 {n : Nat} (h : n < 2 ^ 30) : (nI n - (1 : Int32)).toInt = (n : Int) - 1 := pk_sub_toInt (a := n) (b := 1) h (by omega)
theorem m_withinN {a : Int32} {n : Nat} (h : n < 2 ^ 30) : f_X8_within a 0 (nI n - (1 : Int32)) = some (b2 (inr a n)) := m_within0 (nI_m1 h)
/-- 0 ≤ a, and a < n, as the class asks it -/
theorem c_range {α : Type} {a k : Int32} {n : Nat} (hk : k.toInt = (n : Int)) (x y : α) : (if a < (0 : Int32) then x else (if k ≤ a then x else y)) = if inr a n = true then y else x := by
  by_cases h : inr a n = true
  · rw [if_pos h]
    rw [inr_iff] at h
    rw [if_neg (by rw [i32_lt, show (0 : Int32).toInt = 0 from rfl]; omega), if_neg (by rw [i32_le, hk]; omega)]
  · rw [if_neg h]
    rcases inr_nf h with h | h
    · rw [if_pos (by rw [i32_lt, show (0 : Int32).toInt = 0 from rfl]; omega)]
    · by_cases h0 : a < (0 : Int32)
      · rw [if_pos h0]
      · rw [if_neg h0, if_pos (by rw [i32_le, hk]; omega)]
theorem c_range' {α : Type} {a k : Int32} {n : Nat} (hk : k.toInt = (n : Int)) (x y : α) : (if a < (0 : Int32) then x else (if a < k then y else x)) = if inr a n = true then y else x := by
  rw [← c_range hk x y]
  by_cases h0 : a < (0 : Int32)
  · rw [if_pos h0, if_pos h0]
  · rw [if_neg h0, if_neg h0]
    by_cases h1 : a < k
    · rw [if_pos h1, if_neg (by rw [i32_le]; rw [i32_lt] at h1; omega)]
    · rw [if_neg h1, if_pos (by rw [i32_le]; rw [i32_lt] at h1; omega)]
theorem c_has {n : Nat} (hn : n < 2 ^ 31) (a : Int32) : f_X4_has (nI n) a = some (b2 (inr a n)) := by
  unfold f_X4_has; rw [c_range (nI_toInt hn), ite_b2]
theorem c_isPerson {n : Nat} (hn : n < 2 ^ 31) (a : Int32) : f_X7_isPerson (nI n) a = some (b2 (inr a n)) := by
  unfold f_X7_isPerson; rw [c_range (nI_toInt hn), ite_b2]
theorem c_isHour (a : Int32) : f_X7_isHour a = some (b2 (inr a 100)) := by
  unfold f_X7_isHour; rw [c_range (n := 100) (by decide), ite_b2]
theorem c_isKind (a : Int32) : f_X7_isKind a = some (b2 (inr a 6)) := by
  unfold f_X7_isKind; rw [c_range (n := 6) (by decide), ite_b2]
theorem inr_mono {a : Int32} {n m : Nat} (h : inr a n = true) (hnm : n ≤ m) : inr a m = true := by
  rw [inr_iff] at h ⊢; omega
/-- bits of small numbers -/
theorem nI_or (a b : Nat) : nI a ||| nI b = nI (a ||| b) := by
  apply Int32.toBitVec_inj.mp
  apply BitVec.eq_of_toNat_eq
  show (BitVec.ofNat 32 a ||| BitVec.ofNat 32 b).toNat = (BitVec.ofNat 32 (a ||| b)).toNat
  simp [Nat.or_mod_two_pow]
theorem nI_xor (a b : Nat) : nI a ^^^ nI b = nI (a ^^^ b) := by
  apply Int32.toBitVec_inj.mp
  apply BitVec.eq_of_toNat_eq
  show (BitVec.ofNat 32 a ^^^ BitVec.ofNat 32 b).toNat = (BitVec.ofNat 32 (a ^^^ b)).toNat
  simp [Nat.xor_mod_two_pow]
theorem nI_and (a b : Nat) : nI a &&& nI b = nI (a &&& b) := by
  apply Int32.toBitVec_inj.mp
  apply BitVec.eq_of_toNat_eq
  show (BitVec.ofNat 32 a &&& BitVec.ofNat 32 b).toNat = (BitVec.ofNat 32 (a &&& b)).toNat
  simp [Nat.and_mod_two_pow]
theorem lN_or (a b : Nat) : lN a ||| lN b = lN (a ||| b) := by
  apply Int64.toBitVec_inj.mp
  apply BitVec.eq_of_toNat_eq
  show (BitVec.ofNat 64 a ||| BitVec.ofNat 64 b).toNat = (BitVec.ofNat 64 (a ||| b)).toNat
  simp [Nat.or_mod_two_pow]
theorem lN_and (a b : Nat) : lN a &&& lN b = lN (a &&& b) := by
  apply Int64.toBitVec_inj.mp
  apply BitVec.eq_of_toNat_eq
  show (BitVec.ofNat 64 a &&& BitVec.ofNat 64 b).toNat = (BitVec.ofNat 64 (a &&& b)).toNat
  simp [Nat.and_mod_two_pow]
theorem nI_31 {k : Nat} (h : k < 32) : nI k &&& nI 31 = nI k := by
  rw [nI_and]; congr 1
  exact (Nat.and_two_pow_sub_one_eq_mod k 5).trans (Nat.mod_eq_of_lt h)
theorem lN_63 {k : Nat} (h : k < 64) : lN k &&& lN 63 = lN k := by
  rw [lN_and]; congr 1
  exact (Nat.and_two_pow_sub_one_eq_mod k 6).trans (Nat.mod_eq_of_lt h)
theorem sm32 {k : Nat} (h : k < 32) : ((nI k).toBitVec.smod 32).toNat = k := by
  have : ∀ k : Fin 32, ((nI k.val).toBitVec.smod 32).toNat = k.val := by decide
  exact this ⟨k, h⟩
theorem nI_shr {n k : Nat} (h : n < 2 ^ 31) (hk : k < 32) : nI n >>> nI k = nI (n >>> k) := by
  rw [pk_shrN h (nI k) k (sm32 hk), Nat.shiftRight_eq_div_pow]
theorem nI_shl {n k : Nat} (hk : k < 32) (h : n * 2 ^ k < 2 ^ 32) : nI n <<< nI k = nI (n <<< k) := by
  rw [pk_shlN (nI k) k (sm32 hk) h, Nat.shiftLeft_eq]
theorem nI_1shl {k : Nat} (hk : k < 31) : nI 1 <<< nI k = nI (2 ^ k) := by
  have h : 1 * 2 ^ k < 2 ^ 32 := by
    have : 2 ^ k < 2 ^ 32 := Nat.pow_lt_pow_right (by omega) (by omega)
    omega
  rw [nI_shl (by omega) h, Nat.shiftLeft_eq, Nat.one_mul]
theorem nat_bit (n k : Nat) : (n >>> k) &&& 1 = if n.testBit k = true then 1 else 0 := by
  rw [Nat.and_one_is_mod, Nat.testBit]
  rw [Nat.one_and_eq_mod_two]
  rcases Nat.mod_two_eq_zero_or_one (n >>> k) with h | h <;> rw [h] <;> rfl
theorem nI_bit {n k : Nat} (h : n < 2 ^ 31) (hk : k < 32) : (nI n >>> nI k) &&& nI 1 = b2 (n.testBit k) := by
  rw [nI_shr h hk, nI_and, nat_bit]
  cases n.testBit k <;> rfl
