/-! ===== the relation between the two states ===== -/
def RN (v : Nat → Nat) (now : Nat → Int32) : Prop := ∀ k, k < 186 → k ≠ 4 → ¬ (86 ≤ k ∧ k < 146) → now k = nI (v k) ∧ v k < 1000
def RE (e : Nat → Nat) (now : Nat → Int32) : Prop := now 4 = nI (e 60) ∧ ∀ j, j < 60 → now (86 + j) = nI (e j) ∧ e j < 1000
def RLv (v e : Nat → Nat) (bsize : Int32) (bcells : Nat → Int32) (ssize : Int32) (scells : Nat → Int32) (dsize : Int32) (dcells : Nat → Int32) (people rule believed : Int32) : Prop :=
  bsize = nI (v 3) ∧ (∀ j, j < 80 → bcells j = nI (v (6 + j))) ∧ ssize = nI (v 5) ∧ (∀ j, j < 40 → scells j = nI (v (146 + j))) ∧ dsize = nI (e 60) ∧ (∀ j, j < 60 → dcells j = nI (e j)) ∧ people = nI (v 0) ∧ rule = nI (v 1) ∧ believed = nI (v 2)
/-- the findings told so far, on both sides -/
def RF (findings found : Nat → Int32) : Prop := (∀ i, i < 7 → found (i + 1) = findings i) ∧ found 0 = findings 0 + findings 1 + findings 2 + findings 3 + findings 4 + findings 5 + findings 6
/-- the tape -/
def RP (tbytes : Nat → Int32) (tlen : Int32) (tape : Nat → Int32) (taped : Int32) : Prop := ∃ (n : Nat) (t : Nat → Nat), n ≤ 120 ∧ tlen = nI n ∧ taped = nI n ∧ ∀ j, j < n → t j < 256 ∧ tbytes j = nI (t j) ∧ tape j = nI (t j)
/-- a sheet: the i-th -/
def RS (i : Nat) (nums : Nat → Int64) (bits len : Int32) (widths sizes : Nat → Int32) (numbers : Nat → Int64) : Prop := ∃ w n : Nat, n ≤ 40 ∧ (w = 0 ∨ w = 8 ∨ w = 16 ∨ w = 64) ∧ (w = 0 → n = 0) ∧ bits = nI w ∧ widths i = nI w ∧ len = nI n ∧ sizes i = nI n ∧ ∀ j, j < n → numbers (40 * i + j) = nums j
/-- a row of wearers, three bits a mask -/
def RW (w : Nat → Nat) (row : Int32) : Prop := ∃ r : Nat, row = nI r ∧ r < 2 ^ 24 ∧ ∀ m, m < 8 → ∀ k, k < 3 → r.testBit (3 * m + k) = (w m).testBit k
/-- the class's table, looked at anew -/
def TB (v : Nat → Nat) (order stepsAt doubts weights rows metEver : Nat → Int32) (doubtCount seenBows likeliest mostSayingsSo : Int32) : Prop :=
  (∀ j, j < v 3 → order j = nI (od v j)) ∧ (∀ h, h < 100 → stepsAt h = nI (sts v h)) ∧ doubtCount = nI (dc v) ∧ (∀ k, k < dc v → doubts k = nI (dh v k)) ∧
  seenBows = nI (seb v (v 3)) ∧ (∀ n, n < nn v → weights n = nI (wt v n)) ∧
  (∀ n, n < nn v → 0 < wgt v n → ∀ k, k ≤ v 3 → RW (nst v n k).1 (rows (21 * n + k))) ∧
  (∀ p, p < 8 → ∃ e : Nat, metEver p = nI e ∧ e < 256 ∧ ∀ q, q < 8 → e.testBit q = metS v p q (nn v)) ∧ likeliest = lkI (lkl v) ∧ mostSayingsSo = nI (msf v (nn v))
@RLv
theorem rn_at {v : Nat → Nat} {now : Nat → Int32} (h : RN v now) {k : Nat} (h1 : k < 186) (h2 : k ≠ 4) (h3 : ¬ (86 ≤ k ∧ k < 146)) : now k = nI (v k) := (h k h1 h2 h3).1
theorem rn_bd {v : Nat → Nat} {now : Nat → Int32} (h : RN v now) {k : Nat} (h1 : k < 186) (h2 : k ≠ 4) (h3 : ¬ (86 ≤ k ∧ k < 146)) : v k < 1000 := (h k h1 h2 h3).2
theorem rn_set {v : Nat → Nat} {now : Nat → Int32} {k x : Nat} (h : RN v now) (hx : x < 1000) : RN (un v k x) (upd now k (nI x)) := by
  intro j h1 h2 h3
  by_cases e : j = k
  · rw [e, un_s, pk_us]; exact ⟨rfl, hx⟩
  · rw [un_n e, pk_un e]; exact h j h1 h2 h3
theorem rn_deed {v : Nat → Nat} {now : Nat → Int32} {k : Nat} {x : Int32} (h : RN v now) (hk : k = 4 ∨ (86 ≤ k ∧ k < 146)) : RN v (upd now k x) := by
  intro j h1 h2 h3
  rw [pk_un (by intro e; subst e; rcases hk with hk | hk; exact h2 hk; exact h3 hk)]
  exact h j h1 h2 h3
theorem re_night {e : Nat → Nat} {now : Nat → Int32} {k : Nat} {x : Int32} (h : RE e now) (hk : k ≠ 4) (hk2 : ¬ (86 ≤ k ∧ k < 146)) : RE e (upd now k x) :=
  ⟨by rw [pk_un (by omega)]; exact h.1, fun j hj => by rw [pk_un (by omega)]; exact h.2 j hj⟩
theorem re_set {e : Nat → Nat} {now : Nat → Int32} {j x : Nat} (h : RE e now) (hj : j < 60) (hx : x < 1000) : RE (un e j x) (upd now (86 + j) (nI x)) := by
  refine ⟨by rw [pk_un (by omega), un_n (by omega)]; exact h.1, fun i hi => ?_⟩
  by_cases q : i = j
  · rw [q, un_s, pk_us]; exact ⟨rfl, hx⟩
  · rw [un_n q, pk_un (by omega)]; exact h.2 i hi
theorem re_size {e : Nat → Nat} {now : Nat → Int32} {x : Nat} (h : RE e now) : RE (un e 60 x) (upd now 4 (nI x)) :=
  ⟨by rw [un_s, pk_us], fun i hi => by rw [un_n (by omega), pk_un (by omega)]; exact h.2 i hi⟩
theorem cell_set {f : Nat → Int32} {v : Nat → Nat} {o n c x : Nat} (h : ∀ j, j < n → f j = nI (v (o + j))) : ∀ j, j < n → upd f c (nI x) j = nI (un v (o + c) x (o + j)) := by
  intro j hj
  by_cases e : j = c
  · rw [e, pk_us, un_s]
  · rw [pk_un e, un_n (by omega)]; exact h j hj
theorem cell_off {f : Nat → Int32} {v : Nat → Nat} {o n k x : Nat} (h : ∀ j, j < n → f j = nI (v (o + j))) (hk : k < o ∨ o + n ≤ k) : ∀ j, j < n → f j = nI (un v k x (o + j)) := by
  intro j hj; rw [un_n (by omega)]; exact h j hj
theorem deed_set {f : Nat → Int32} {v : Nat → Nat} {n c x : Nat} (h : ∀ j, j < n → f j = nI (v j)) : ∀ j, j < n → upd f c (nI x) j = nI (un v c x j) := by
  intro j hj
  by_cases e : j = c
  · rw [e, pk_us, un_s]
  · rw [pk_un e, un_n e]; exact h j hj
theorem deed_off {f : Nat → Int32} {v : Nat → Nat} {n k x : Nat} (h : ∀ j, j < n → f j = nI (v j)) (hk : n ≤ k) : ∀ j, j < n → f j = nI (un v k x j) := by
  intro j hj; rw [un_n (by omega)]; exact h j hj
/-! ===== findings ===== -/
def fcu (g : Nat → Int32) (k : Nat) : Nat → Int32 := upd g k (g k + 1)
def fmu (d : Nat → Int32) (k : Nat) : Nat → Int32 := upd (upd d (k + 1) (d (k + 1) + 1)) 0 (upd d (k + 1) (d (k + 1) + 1) 0 + 1)
theorem rf_step {g d : Nat → Int32} (h : RF g d) (k : Nat) (hk : k < 7) : RF (fcu g k) (fmu d k) := by
  obtain ⟨h1, h2⟩ := h
  have e0 := h1 0 (by decide)
  have e1 := h1 1 (by decide)
  have e2 := h1 2 (by decide)
  have e3 := h1 3 (by decide)
  have e4 := h1 4 (by decide)
  have e5 := h1 5 (by decide)
  have e6 := h1 6 (by decide)
  rcases (show k = 0 ∨ k = 1 ∨ k = 2 ∨ k = 3 ∨ k = 4 ∨ k = 5 ∨ k = 6 by omega) with rfl | rfl | rfl | rfl | rfl | rfl | rfl <;>
  · refine ⟨fun i hi => ?_, ?_⟩
    · rcases (show i = 0 ∨ i = 1 ∨ i = 2 ∨ i = 3 ∨ i = 4 ∨ i = 5 ∨ i = 6 by omega) with rfl | rfl | rfl | rfl | rfl | rfl | rfl <;> simp [fcu, fmu, upd, e0, e1, e2, e3, e4, e5, e6]
    · simp [fcu, fmu, upd, h2]; ac_rfl
theorem cB (g : Nat → Int32) : f_X7_found g (-nI 1000000001) = some (-nI 1000000001, fcu g 0) := rfl
theorem cF (g : Nat → Int32) : f_X7_found g (-nI 1000000002) = some (-nI 1000000002, fcu g 1) := rfl
theorem cK (g : Nat → Int32) : f_X7_found g (-nI 1000000003) = some (-nI 1000000003, fcu g 2) := rfl
theorem cN (g : Nat → Int32) : f_X7_found g (-nI 1000000004) = some (-nI 1000000004, fcu g 3) := rfl
theorem cS (g : Nat → Int32) : f_X7_found g (-nI 1000000005) = some (-nI 1000000005, fcu g 4) := rfl
theorem cM (g : Nat → Int32) : f_X7_found g (-nI 1000000006) = some (-nI 1000000006, fcu g 5) := rfl
theorem cZ (g : Nat → Int32) : f_X7_found g (-nI 1000000007) = some (-nI 1000000007, fcu g 6) := rfl
theorem mB (g : Nat → Int32) : f_X8_finding g (-nI 1000000001) = some (-nI 1000000001, fmu g 0) := rfl
theorem mF (g : Nat → Int32) : f_X8_finding g (-nI 1000000002) = some (-nI 1000000002, fmu g 1) := rfl
theorem mK (g : Nat → Int32) : f_X8_finding g (-nI 1000000003) = some (-nI 1000000003, fmu g 2) := rfl
theorem mN (g : Nat → Int32) : f_X8_finding g (-nI 1000000004) = some (-nI 1000000004, fmu g 3) := rfl
theorem mS (g : Nat → Int32) : f_X8_finding g (-nI 1000000005) = some (-nI 1000000005, fmu g 4) := rfl
theorem mM (g : Nat → Int32) : f_X8_finding g (-nI 1000000006) = some (-nI 1000000006, fmu g 5) := rfl
theorem mZ (g : Nat → Int32) : f_X8_finding g (-nI 1000000007) = some (-nI 1000000007, fmu g 6) := rfl
