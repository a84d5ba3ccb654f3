/-! ===== the relation between the two states ===== -/
def RN (v : Nat → Nat) (now : Nat → Int32) : Prop := ∀ k, k < 186 → k ≠ 4 → ¬ (86 ≤ k ∧ k < 146) → now k = nI (v k) ∧ v k < 1000
def RE (e : Nat → Nat) (now : Nat → Int32) : Prop := now 4 = nI (e 60) ∧ ∀ j, j < 60 → now (86 + j) = nI (e j) ∧ e j < 1000
def RLv (v e : Nat → Nat) (bsize : Int32) (bcells : Nat → Int32) (ssize : Int32) (scells : Nat → Int32) (dsize : Int32) (dcells : Nat → Int32) (people rule believed : Int32) : Prop :=
  bsize = nI (v 3) ∧ (∀ j, j < 80 → bcells j = nI (v (6 + j))) ∧ ssize = nI (v 5) ∧ (∀ j, j < 40 → scells j = nI (v (146 + j))) ∧ dsize = nI (e 60) ∧ (∀ j, j < 60 → dcells j = nI (e j)) ∧ people = nI (v 0) ∧ rule = nI (v 1) ∧ believed = nI (v 2)
/-- the findings told so far, on both sides -/
def RF (findings found : Nat → Int32) : Prop := (∀ i, i < 7 → found (i + 1) = findings i) ∧ found 0 = findings 0 + findings 1 + findings 2 + findings 3 + findings 4 + findings 5 + findings 6
/-- the tape -/
def RP (tbytes : Nat → Int32) (tlen : Int32) (tape : Nat → Int32) (taped : Int32) : Prop := ∃ (n : Nat) (t : Nat → Nat), n ≤ 120 ∧ tlen = nI n ∧ taped = nI n ∧ ∀ j, j < n → t j < 256 ∧ tbytes j = nI (t j) ∧ tape j = nI (t j)
/-- a sheet: the i-th -/
def RS (i : Nat) (nums : Nat → Int64) (bits len : Int32) (widths sizes : Nat → Int32) (numbers : Nat → Int64) : Prop := ∃ w n : Nat, n ≤ 40 ∧ (w = 0 ∨ w = 8 ∨ w = 16 ∨ w = 64) ∧ (w = 0 → n = 0) ∧ bits = nI w ∧ widths i = nI w ∧ len = nI n ∧ sizes i = nI n ∧ ∀ j, j < n → numbers (40 * i + j) = nums j
/-- a row of wearers, three bits a mask -/
def RW (w : Nat → Nat) (row : Int32) : Prop := ∃ r : Nat, row = nI r ∧ r < 2 ^ 24 ∧ ∀ m, m < 8 → ∀ k, k < 3 → r.testBit (3 * m + k) = (w m).testBit k
/-- the class's table, looked at anew -/
def TB (v : Nat → Nat) (order stepsAt doubts weights rows metEver : Nat → Int32) (doubtCount seenBows likeliest mostSayingsSo : Int32) : Prop :=
  (∀ j, j < v 3 → order j = nI (od v j)) ∧ (∀ h, h < 100 → stepsAt h = nI (sts v h)) ∧ doubtCount = nI (dc v) ∧ (∀ k, k < dc v → doubts k = nI (dh v k)) ∧
  seenBows = nI (seb v (v 3)) ∧ (∀ n, n < nn v → weights n = nI (wt v n)) ∧
  (∀ n, n < nn v → 0 < wgt v n → ∀ k, k ≤ v 3 → RW (nst v n k).1 (rows (21 * n + k))) ∧
  (∀ p, p < 8 → ∃ e : Nat, metEver p = nI e ∧ e < 256 ∧ ∀ q, q < 8 → e.testBit q = metS v p q (nn v)) ∧ likeliest = lkI (lkl v) ∧ mostSayingsSo = nI (msf v (nn v))
/-- THE RELATION: one abstract carnival behind both sides -/
def Rl (C_isKept : Int32) (C_l_bsize : Int32) (C_l_bcells : (Nat → Int32)) (C_l_ssize : Int32) (C_l_scells : (Nat → Int32)) (C_l_dsize : Int32) (C_l_dcells : (Nat → Int32)) (C_l_people : Int32) (C_l_rule : Int32) (C_l_believed : Int32) (C_k_bsize : Int32) (C_k_bcells : (Nat → Int32)) (C_k_ssize : Int32) (C_k_scells : (Nat → Int32)) (C_k_dsize : Int32) (C_k_dcells : (Nat → Int32)) (C_k_people : Int32) (C_k_rule : Int32) (C_k_believed : Int32) (C_d_bsize : Int32) (C_d_bcells : (Nat → Int32)) (C_d_ssize : Int32) (C_d_scells : (Nat → Int32)) (C_d_dsize : Int32) (C_d_dcells : (Nat → Int32)) (C_d_people : Int32) (C_d_rule : Int32) (C_d_believed : Int32) (C_order : (Nat → Int32)) (C_stepsAt : (Nat → Int32)) (C_doubts : (Nat → Int32)) (C_weights : (Nat → Int32)) (C_rows : (Nat → Int32)) (C_metEver : (Nat → Int32)) (C_bowedTo : (Nat → Int32)) (C_isStale : Int32) (C_bowCount : Int32) (C_doubtCount : Int32) (C_seenBows : Int32) (C_likeliest : Int32) (C_mostSayingsSo : Int32) (C_doers : (Nat → Int64)) (C_isTelling : (Nat → Int32)) (C_tbytes : (Nat → Int32)) (C_tlen : Int32) (C_token : Int32) (C_place : Int32) (C_behindIt : Int32) (C_value : Int32) (C_sa_nums : (Nat → Int64)) (C_sa_bits : Int32) (C_sa_len : Int32) (C_sb_nums : (Nat → Int64)) (C_sb_bits : Int32) (C_sb_len : Int32) (C_sc_nums : (Nat → Int64)) (C_sc_bits : Int32) (C_sc_len : Int32) (C_sd_nums : (Nat → Int64)) (C_sd_bits : Int32) (C_sd_len : Int32) (C_findings : (Nat → Int32)) (M_now : (Nat → Int32)) (M_kept : (Nat → Int32)) (M_isKept : Int32) (M_found : (Nat → Int32)) (M_order : (Nat → Int32)) (M_doubts : (Nat → Int32)) (M_doubtMany : Int32) (M_weights : (Nat → Int64)) (M_worn : (Nat → Int32)) (M_pairs : Int64) (M_isTwice : Int32) (M_doer : (Nat → Int32)) (M_doneTo : (Nat → Int32)) (M_doers : (Nat → Int64)) (M_tape : (Nat → Int32)) (M_taped : Int32) (M_begins : Int32) (M_ends : Int32) (M_sort : Int32) (M_value : Int32) (M_isWrong : Int32) (M_items : (Nat → Int32)) (M_itemMany : Int32) (M_bowThen : Int32) (M_doubtThen : Int32) (M_deedThen : Int32) (M_sayingThen : Int32) (M_widths : (Nat → Int32)) (M_sizes : (Nat → Int32)) (M_numbers : (Nat → Int64)) (M_moved : (Nat → Int64)) : Prop := ∃ v e : Nat → Nat, Vd v ∧ Ve v e ∧ RN v M_now ∧ RE e M_now ∧ RLv v e C_l_bsize C_l_bcells C_l_ssize C_l_scells C_l_dsize C_l_dcells C_l_people C_l_rule C_l_believed ∧ (C_isStale = nI 0 ∨ C_isStale = nI 1) ∧ (C_isStale = nI 0 → TB v C_order C_stepsAt C_doubts C_weights C_rows C_metEver C_doubtCount C_seenBows C_likeliest C_mostSayingsSo) ∧ (C_isKept = nI 0 ∨ C_isKept = nI 1) ∧ M_isKept = C_isKept ∧ (C_isKept = nI 1 → ∃ v2 e2 : Nat → Nat, Vd v2 ∧ Ve v2 e2 ∧ RN v2 M_kept ∧ RE e2 M_kept ∧ RLv v2 e2 C_k_bsize C_k_bcells C_k_ssize C_k_scells C_k_dsize C_k_dcells C_k_people C_k_rule C_k_believed) ∧ RF C_findings M_found ∧ RP C_tbytes C_tlen M_tape M_taped ∧ RS 0 C_sa_nums C_sa_bits C_sa_len M_widths M_sizes M_numbers ∧ RS 1 C_sb_nums C_sb_bits C_sb_len M_widths M_sizes M_numbers ∧ RS 2 C_sc_nums C_sc_bits C_sc_len M_widths M_sizes M_numbers ∧ RS 3 C_sd_nums C_sd_bits C_sd_len M_widths M_sizes M_numbers
theorem rn_at {v : Nat → Nat} {now : Nat → Int32} (h : RN v now) {k : Nat} (h1 : k < 186) (h2 : k ≠ 4) (h3 : ¬ (86 ≤ k ∧ k < 146)) : now k = nI (v k) := (h k h1 h2 h3).1
theorem rn_bd {v : Nat → Nat} {now : Nat → Int32} (h : RN v now) {k : Nat} (h1 : k < 186) (h2 : k ≠ 4) (h3 : ¬ (86 ≤ k ∧ k < 146)) : v k < 1000 := (h k h1 h2 h3).2
theorem rn_set {v : Nat → Nat} {now : Nat → Int32} {k x : Nat} (h : RN v now) (hx : x < 1000) : RN (un v k x) (upd now k (nI x)) := by
  intro j h1 h2 h3
  by_cases e : j = k
  · rw [e, un_s, pk_us]; exact ⟨rfl, hx⟩
  · rw [un_n e, pk_un e]; exact h j h1 h2 h3
theorem rn_deed {v : Nat → Nat} {now : Nat → Int32} {k : Nat} {x : Int32} (h : RN v now) (hk : k = 4 ∨ (86 ≤ k ∧ k < 146)) : RN v (upd now k x) := by
  intro j h1 h2 h3
  rw [pk_un (by intro e; subst e; rcases hk with hk | hk; exact h2 hk; exact h3 hk)]
  exact h j h1 h2 h3
theorem re_night {e : Nat → Nat} {now : Nat → Int32} {k : Nat} {x : Int32} (h : RE e now) (hk : k ≠ 4) (hk2 : ¬ (86 ≤ k ∧ k < 146)) : RE e (upd now k x) :=
  ⟨by rw [pk_un (by omega)]; exact h.1, fun j hj => by rw [pk_un (by omega)]; exact h.2 j hj⟩
theorem re_set {e : Nat → Nat} {now : Nat → Int32} {j x : Nat} (h : RE e now) (hj : j < 60) (hx : x < 1000) : RE (un e j x) (upd now (86 + j) (nI x)) := by
  refine ⟨by rw [pk_un (by omega), un_n (by omega)]; exact h.1, fun i hi => ?_⟩
  by_cases q : i = j
  · rw [q, un_s, pk_us]; exact ⟨rfl, hx⟩
  · rw [un_n q, pk_un (by omega)]; exact h.2 i hi
theorem re_size {e : Nat → Nat} {now : Nat → Int32} {x : Nat} (h : RE e now) : RE (un e 60 x) (upd now 4 (nI x)) :=
  ⟨by rw [un_s, pk_us], fun i hi => by rw [un_n (by omega), pk_un (by omega)]; exact h.2 i hi⟩
theorem cell_set {f : Nat → Int32} {v : Nat → Nat} {o n c x : Nat} (h : ∀ j, j < n → f j = nI (v (o + j))) : ∀ j, j < n → upd f c (nI x) j = nI (un v (o + c) x (o + j)) := by
  intro j hj
  by_cases e : j = c
  · rw [e, pk_us, un_s]
  · rw [pk_un e, un_n (by omega)]; exact h j hj
theorem cell_off {f : Nat → Int32} {v : Nat → Nat} {o n k x : Nat} (h : ∀ j, j < n → f j = nI (v (o + j))) (hk : k < o ∨ o + n ≤ k) : ∀ j, j < n → f j = nI (un v k x (o + j)) := by
  intro j hj; rw [un_n (by omega)]; exact h j hj
theorem deed_set {f : Nat → Int32} {v : Nat → Nat} {n c x : Nat} (h : ∀ j, j < n → f j = nI (v j)) : ∀ j, j < n → upd f c (nI x) j = nI (un v c x j) := by
  intro j hj
  by_cases e : j = c
  · rw [e, pk_us, un_s]
  · rw [pk_un e, un_n e]; exact h j hj
theorem deed_off {f : Nat → Int32} {v : Nat → Nat} {n k x : Nat} (h : ∀ j, j < n → f j = nI (v j)) (hk : n ≤ k) : ∀ j, j < n → f j = nI (un v k x j) := by
  intro j hj; rw [un_n (by omega)]; exact h j hj
/-! ===== findings ===== -/
def fcu (g : Nat → Int32) (k : Nat) : Nat → Int32 := upd g k (g k + 1)
def fmu (d : Nat → Int32) (k : Nat) : Nat → Int32 := upd (upd d (k + 1) (d (k + 1) + 1)) 0 (upd d (k + 1) (d (k + 1) + 1) 0 + 1)
theorem rf_step {g d : Nat → Int32} (h : RF g d) (k : Nat) (hk : k < 7) : RF (fcu g k) (fmu d k) := by
  obtain ⟨h1, h2⟩ := h
  have e0 := h1 0 (by decide)
  have e1 := h1 1 (by decide)
  have e2 := h1 2 (by decide)
  have e3 := h1 3 (by decide)
  have e4 := h1 4 (by decide)
  have e5 := h1 5 (by decide)
  have e6 := h1 6 (by decide)
  rcases (show k = 0 ∨ k = 1 ∨ k = 2 ∨ k = 3 ∨ k = 4 ∨ k = 5 ∨ k = 6 by omega) with rfl | rfl | rfl | rfl | rfl | rfl | rfl <;>
  · refine ⟨fun i hi => ?_, ?_⟩
    · rcases (show i = 0 ∨ i = 1 ∨ i = 2 ∨ i = 3 ∨ i = 4 ∨ i = 5 ∨ i = 6 by omega) with rfl | rfl | rfl | rfl | rfl | rfl | rfl <;> simp [fcu, fmu, upd, e0, e1, e2, e3, e4, e5, e6]
    · simp [fcu, fmu, upd, h2]; ac_rfl
theorem cB (g : Nat → Int32) : f_X7_found g (-nI 1000000001) = some (-nI 1000000001, fcu g 0) := rfl
theorem cF (g : Nat → Int32) : f_X7_found g (-nI 1000000002) = some (-nI 1000000002, fcu g 1) := rfl
theorem cK (g : Nat → Int32) : f_X7_found g (-nI 1000000003) = some (-nI 1000000003, fcu g 2) := rfl
theorem cN (g : Nat → Int32) : f_X7_found g (-nI 1000000004) = some (-nI 1000000004, fcu g 3) := rfl
theorem cS (g : Nat → Int32) : f_X7_found g (-nI 1000000005) = some (-nI 1000000005, fcu g 4) := rfl
theorem cM (g : Nat → Int32) : f_X7_found g (-nI 1000000006) = some (-nI 1000000006, fcu g 5) := rfl
theorem cZ (g : Nat → Int32) : f_X7_found g (-nI 1000000007) = some (-nI 1000000007, fcu g 6) := rfl
theorem mB (g : Nat → Int32) : f_X8_finding g (-nI 1000000001) = some (-nI 1000000001, fmu g 0) := rfl
theorem mF (g : Nat → Int32) : f_X8_finding g (-nI 1000000002) = some (-nI 1000000002, fmu g 1) := rfl
theorem mK (g : Nat → Int32) : f_X8_finding g (-nI 1000000003) = some (-nI 1000000003, fmu g 2) := rfl
theorem mN (g : Nat → Int32) : f_X8_finding g (-nI 1000000004) = some (-nI 1000000004, fmu g 3) := rfl
theorem mS (g : Nat → Int32) : f_X8_finding g (-nI 1000000005) = some (-nI 1000000005, fmu g 4) := rfl
theorem mM (g : Nat → Int32) : f_X8_finding g (-nI 1000000006) = some (-nI 1000000006, fmu g 5) := rfl
theorem mZ (g : Nat → Int32) : f_X8_finding g (-nI 1000000007) = some (-nI 1000000007, fmu g 6) := rfl
