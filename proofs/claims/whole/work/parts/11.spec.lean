/-! ===== what the document tells, in numbers =====
v: persons v 0, rule v 1, believed v 2, bows v 3, sayings v 5; bow b at 6 + 4 b (hour, one, other, tenths), saying s at 146 + 4 s (hour, mask, person, is); e: deed d at 5 d (kind, hour, mask, other, coins), deeds e 60 -/
def un (f : Nat → Nat) (k x : Nat) : Nat → Nat := fun j => if j = k then x else f j
theorem un_s {f : Nat → Nat} {k x : Nat} : un f k x k = x := if_pos rfl
theorem un_n {f : Nat → Nat} {k x j : Nat} (h : j ≠ k) : un f k x j = f j := if_neg h
/-- doubted ones among the first bows -/
def dbc (v : Nat → Nat) : Nat → Nat
  | 0 => 0
  | k + 1 => dbc v k + (if v (6 + 4 * k + 3) < 10 then 1 else 0)
def dc (v : Nat → Nat) : Nat := dbc v (v 3)
/-- the k-th doubted one -/
def dth (v : Nat → Nat) (k : Nat) : Nat → Nat
  | 0 => 0
  | n + 1 => if v (6 + 4 * n + 3) < 10 ∧ dbc v n = k then n else dth v k n
def dh (v : Nat → Nat) (k : Nat) : Nat := dth v k (v 3)
def Vd (v : Nat → Nat) : Prop := 2 ≤ v 0 ∧ v 0 ≤ 8 ∧ v 1 ≤ 1 ∧ v 2 ≤ 1 ∧ v 3 ≤ 20 ∧ v 5 ≤ 10 ∧ dc v ≤ 6 ∧
  (∀ b, b < v 3 → v (6 + 4 * b + 0) < 100 ∧ v (6 + 4 * b + 1) < v 0 ∧ v (6 + 4 * b + 2) < v 0 ∧ v (6 + 4 * b + 1) ≠ v (6 + 4 * b + 2) ∧ v (6 + 4 * b + 3) ≤ 10) ∧
  (∀ s, s < v 5 → v (146 + 4 * s + 0) < 100 ∧ v (146 + 4 * s + 1) < v 0 ∧ v (146 + 4 * s + 2) < v 0 ∧ v (146 + 4 * s + 3) ≤ 1)
theorem vd_lo {v : Nat → Nat} (h : Vd v) : 2 ≤ v 0 := h.1
theorem vd_hi {v : Nat → Nat} (h : Vd v) : v 0 ≤ 8 := h.2.1
theorem vd_1 {v : Nat → Nat} (h : Vd v) : v 1 ≤ 1 := h.2.2.1
theorem vd_2 {v : Nat → Nat} (h : Vd v) : v 2 ≤ 1 := h.2.2.2.1
theorem vd_3 {v : Nat → Nat} (h : Vd v) : v 3 ≤ 20 := h.2.2.2.2.1
theorem vd_5 {v : Nat → Nat} (h : Vd v) : v 5 ≤ 10 := h.2.2.2.2.2.1
theorem vd_dc {v : Nat → Nat} (h : Vd v) : dc v ≤ 6 := h.2.2.2.2.2.2.1
theorem vd_b {v : Nat → Nat} (h : Vd v) : ∀ b, b < v 3 → v (6 + 4 * b + 0) < 100 ∧ v (6 + 4 * b + 1) < v 0 ∧ v (6 + 4 * b + 2) < v 0 ∧ v (6 + 4 * b + 1) ≠ v (6 + 4 * b + 2) ∧ v (6 + 4 * b + 3) ≤ 10 := h.2.2.2.2.2.2.2.1
theorem vd_s {v : Nat → Nat} (h : Vd v) : ∀ s, s < v 5 → v (146 + 4 * s + 0) < 100 ∧ v (146 + 4 * s + 1) < v 0 ∧ v (146 + 4 * s + 2) < v 0 ∧ v (146 + 4 * s + 3) ≤ 1 := h.2.2.2.2.2.2.2.2
def Ve (v e : Nat → Nat) : Prop := e 60 ≤ 12 ∧ ∀ d, d < e 60 → e (5 * d + 0) < 6 ∧ e (5 * d + 1) < 100 ∧ e (5 * d + 2) < v 0 ∧ e (5 * d + 3) < v 0 ∧ e (5 * d + 2) ≠ e (5 * d + 3) ∧ e (5 * d + 4) < 1000
theorem dbc_congr {v v' : Nat → Nat} : ∀ n, (∀ b, b < n → v (6 + 4 * b + 3) = v' (6 + 4 * b + 3)) → dbc v n = dbc v' n
  | 0, _ => rfl
  | n + 1, h => by
    show dbc v n + _ = dbc v' n + _
    rw [dbc_congr n (fun b hb => h b (by omega)), h n (by omega)]
theorem dbc_mono (v : Nat → Nat) {a b : Nat} (h : a ≤ b) : dbc v a ≤ dbc v b := by
  induction b with
  | zero => rw [Nat.le_zero.mp h]; exact Nat.le_refl _
  | succ b ih =>
    by_cases e : a = b + 1
    · rw [e]; exact Nat.le_refl _
    · exact Nat.le_trans (ih (by omega)) (Nat.le_add_right _ _)
theorem dbc_lt (v : Nat → Nat) {b n : Nat} (h : b < n) (hd : v (6 + 4 * b + 3) < 10) : dbc v b < dbc v n := by
  have h1 : dbc v (b + 1) ≤ dbc v n := dbc_mono v h
  have h2 : dbc v (b + 1) = dbc v b + 1 := by show dbc v b + _ = _; rw [if_pos hd]
  omega
theorem dbc_inj (v : Nat → Nat) {a b : Nat} (ha : v (6 + 4 * a + 3) < 10) (hb : v (6 + 4 * b + 3) < 10) (h : dbc v a = dbc v b) : a = b := by
  rcases Nat.lt_trichotomy a b with hl | rfl | hl
  · have := dbc_lt v hl ha; omega
  · rfl
  · have := dbc_lt v hl hb; omega
theorem dth_eq (v : Nat → Nat) {b : Nat} (hd : v (6 + 4 * b + 3) < 10) : ∀ n, b < n → dth v (dbc v b) n = b
  | 0, h => by omega
  | n + 1, h => by
    show (if _ then n else _) = b
    by_cases hc : v (6 + 4 * n + 3) < 10 ∧ dbc v n = dbc v b
    · rw [if_pos hc]; exact dbc_inj v hc.1 hd hc.2
    · rw [if_neg hc]
      refine dth_eq v hd n ?_
      have : b ≠ n := fun e => hc (by rw [← e]; exact ⟨hd, rfl⟩)
      omega
theorem dth_ex (v : Nat → Nat) {k : Nat} : ∀ n, k < dbc v n → ∃ b, b < n ∧ v (6 + 4 * b + 3) < 10 ∧ dbc v b = k
  | 0, h => absurd h (Nat.not_lt_zero _)
  | n + 1, h => by
    by_cases h1 : k < dbc v n
    · obtain ⟨b, h2, h3⟩ := dth_ex v n h1
      exact ⟨b, by omega, h3⟩
    · have h : k < dbc v n + (if v (6 + 4 * n + 3) < 10 then 1 else 0) := h
      by_cases h2 : v (6 + 4 * n + 3) < 10
      · rw [if_pos h2] at h
        exact ⟨n, by omega, h2, by omega⟩
      · rw [if_neg h2] at h; omega
theorem dh_is {v : Nat → Nat} {k : Nat} (h : k < dc v) : dh v k < v 3 ∧ v (6 + 4 * dh v k + 3) < 10 ∧ dbc v (dh v k) = k := by
  obtain ⟨b, h1, h2, h3⟩ := dth_ex v (v 3) h
  have : dh v k = b := by unfold dh; rw [← h3]; exact dth_eq v h2 (v 3) h1
  rw [this]; exact ⟨h1, h2, h3⟩
theorem dh_eq {v : Nat → Nat} {b : Nat} (hb : b < v 3) (hd : v (6 + 4 * b + 3) < 10) : dh v (dbc v b) = b := dth_eq v hd _ hb
theorem dh_inj {v : Nat → Nat} {j k : Nat} (hj : j < dc v) (hk : k < dc v) (h : dh v j = dh v k) : j = k := by
  rw [← (dh_is hj).2.2, h, (dh_is hk).2.2]
/-- is bow b made in night n: a doubted one by its bit, a seen one always -/
def mad (v : Nat → Nat) (n b : Nat) : Bool := if v (6 + 4 * b + 3) < 10 then n.testBit (dbc v b) else true
/-- the order in which bows are made: stable, by hours -/
def shf (h : Nat → Nat) (b : Nat) : Nat → (Nat → Nat) → Nat × (Nat → Nat)
  | 0, o => (0, o)
  | a + 1, o => if h (o a) ≤ h b then (a + 1, o) else shf h b a (un o (a + 1) (o a))
def ord (h : Nat → Nat) : Nat → (Nat → Nat)
  | 0 => fun _ => 0
  | b + 1 => un (shf h b b (ord h b)).2 (shf h b b (ord h b)).1 b
def hr (v : Nat → Nat) (b : Nat) : Nat := v (6 + 4 * b + 0)
def od (v : Nat → Nat) : Nat → Nat := ord (hr v) (v 3)
theorem shf_lt (h : Nat → Nat) (b : Nat) : ∀ (a : Nat) (o : Nat → Nat), a ≤ b → (∀ j, j ≤ b → j ≠ a → o j < b) → (shf h b a o).1 ≤ a ∧ ∀ j, j ≤ b → j ≠ (shf h b a o).1 → (shf h b a o).2 j < b
  | 0, o, _, ho => ⟨Nat.le_refl _, ho⟩
  | a + 1, o, ha, ho => by
    by_cases hc : h (o a) ≤ h b
    · rw [show shf h b (a + 1) o = (a + 1, o) from if_pos hc]; exact ⟨Nat.le_refl _, ho⟩
    · rw [show shf h b (a + 1) o = shf h b a (un o (a + 1) (o a)) from if_neg hc]
      obtain ⟨h1, h2⟩ := shf_lt h b a (un o (a + 1) (o a)) (by omega) (fun j hj hja => by
        by_cases e : j = a + 1
        · rw [e, un_s]; exact ho a (by omega) (by omega)
        · rw [un_n e]; exact ho j hj e)
      exact ⟨by omega, h2⟩
theorem ord_lt (h : Nat → Nat) : ∀ n j, j < n → ord h n j < n
  | 0, j, hj => absurd hj (Nat.not_lt_zero _)
  | n + 1, j, hj => by
    obtain ⟨h1, h2⟩ := shf_lt h n n (ord h n) (Nat.le_refl _) (fun j hj hn => ord_lt h n j (by omega))
    show un _ _ n j < _
    by_cases e : j = (shf h n n (ord h n)).1
    · rw [e, un_s]; omega
    · rw [un_n e]; exact Nat.lt_succ_of_lt (h2 j (by omega) e)
theorem od_lt {v : Nat → Nat} {j : Nat} (h : j < v 3) : od v j < v 3 := ord_lt _ _ _ h
/-- wearers, who bowed to whom, whether two did twice -/
abbrev Nst : Type := (Nat → Nat) × (Nat → Nat → Bool) × Bool
def swp (w : Nat → Nat) (a b : Nat) : Nat → Nat := un (un w a (w b)) b (w a)
def stp (s : Nst) (a b : Nat) : Nst := (swp s.1 a b, fun x y => s.2.1 x y || (decide (x = s.1 a) && decide (y = s.1 b)) || (decide (x = s.1 b) && decide (y = s.1 a)), s.2.2 || s.2.1 (s.1 a) (s.1 b))
def st0 : Nst := (fun m => m, fun _ _ => false, false)
def nst (v : Nat → Nat) (n : Nat) : Nat → Nst
  | 0 => st0
  | k + 1 => if mad v n (od v k) = true then stp (nst v n k) (v (6 + 4 * od v k + 1)) (v (6 + 4 * od v k + 2)) else nst v n k
/-- a permutation of eight, and bows are told both ways -/
def Pm (s : Nst) : Prop := (∀ a, a < 8 → s.1 a < 8) ∧ (∀ a b, a < 8 → b < 8 → s.1 a = s.1 b → a = b) ∧ (∀ p, p < 8 → ∃ m, m < 8 ∧ s.1 m = p) ∧ (∀ x y, s.2.1 x y = s.2.1 y x) ∧ (∀ x, s.2.1 x x = false)
theorem Pm_0 : Pm st0 := ⟨fun a h => h, fun a b _ _ h => h, fun p h => ⟨p, h, rfl⟩, fun _ _ => rfl, fun _ => rfl⟩
theorem swp_a {w : Nat → Nat} {a b : Nat} : swp w a b a = w b := by
  unfold swp
  by_cases h : a = b
  · rw [h, un_s]
  · rw [un_n h, un_s]
theorem swp_b {w : Nat → Nat} {a b : Nat} : swp w a b b = w a := by unfold swp; rw [un_s]
theorem swp_n {w : Nat → Nat} {a b m : Nat} (h1 : m ≠ a) (h2 : m ≠ b) : swp w a b m = w m := by unfold swp; rw [un_n h2, un_n h1]
theorem Pm_s {s : Nst} {a b : Nat} (h : Pm s) (ha : a < 8) (hb : b < 8) (hab : a ≠ b) : Pm (stp s a b) := by
  obtain ⟨h1, h2, h3, h4, h5⟩ := h
  have hne : s.1 a ≠ s.1 b := fun e => hab (h2 a b ha hb e)
  refine ⟨fun m hm => ?_, fun x y hx hy hxy => ?_, fun p hp => ?_, fun x y => ?_, fun x => ?_⟩
  · show swp s.1 a b m < 8
    by_cases e : m = a
    · rw [e, swp_a]; exact h1 b hb
    · by_cases e2 : m = b
      · rw [e2, swp_b]; exact h1 a ha
      · rw [swp_n e e2]; exact h1 m hm
  · have hxy : swp s.1 a b x = swp s.1 a b y := hxy
    by_cases e1 : x = a
    · by_cases e2 : y = a
      · omega
      · by_cases e3 : y = b
        · rw [e1, e3, swp_a, swp_b] at hxy; exact absurd hxy.symm hne
        · rw [e1, swp_a, swp_n e2 e3] at hxy; exact absurd (h2 b y hb hy hxy) (by omega)
    · by_cases e2 : x = b
      · by_cases e3 : y = a
        · rw [e2, e3, swp_a, swp_b] at hxy; exact absurd hxy hne
        · by_cases e4 : y = b
          · omega
          · rw [e2, swp_b, swp_n e3 e4] at hxy; exact absurd (h2 a y ha hy hxy) (by omega)
      · rw [swp_n e1 e2] at hxy
        by_cases e3 : y = a
        · rw [e3, swp_a] at hxy; exact absurd (h2 x b hx hb hxy) e2
        · by_cases e4 : y = b
          · rw [e4, swp_b] at hxy; exact absurd (h2 x a hx ha hxy) e1
          · rw [swp_n e3 e4] at hxy; exact h2 x y hx hy hxy
  · obtain ⟨m, hm, e⟩ := h3 p hp
    by_cases e1 : m = a
    · exact ⟨b, hb, by show swp s.1 a b b = p; rw [swp_b, ← e1, e]⟩
    · by_cases e2 : m = b
      · exact ⟨a, ha, by show swp s.1 a b a = p; rw [swp_a, ← e2, e]⟩
      · exact ⟨m, hm, by show swp s.1 a b m = p; rw [swp_n e1 e2, e]⟩
  · show (s.2.1 x y || _ || _) = (s.2.1 y x || _ || _)
    rw [h4 x y]
    cases s.2.1 y x <;> cases decide (x = s.1 a) <;> cases decide (y = s.1 b) <;> cases decide (x = s.1 b) <;> cases decide (y = s.1 a) <;> rfl
  · show (s.2.1 x x || (decide (x = s.1 a) && decide (x = s.1 b)) || (decide (x = s.1 b) && decide (x = s.1 a))) = false
    rw [h5 x]
    by_cases e1 : x = s.1 a
    · rw [decide_eq_false (p := x = s.1 b) (fun e2 => hne (e1.symm.trans e2))]; simp
    · rw [decide_eq_false (p := x = s.1 a) e1]; simp
theorem Pm_n {v : Nat → Nat} (hv : Vd v) (n : Nat) : ∀ k, k ≤ v 3 → Pm (nst v n k)
  | 0, _ => Pm_0
  | k + 1, hk => by
    have ih := Pm_n hv n k (by omega)
    have h8 := vd_hi hv
    unfold nst
    by_cases hm : mad v n (od v k) = true
    · rw [if_pos hm]
      obtain ⟨-, a1, a2, a3, -⟩ := vd_b hv (od v k) (od_lt (by omega))
      exact Pm_s ih (by omega) (by omega) a3
    · rw [if_neg hm]
      exact ih
/-- how many steps of m from k on go on while p holds -/
def run (p : Nat → Bool) : Nat → Nat → Nat
  | 0, k => k
  | m + 1, k => if p k = true then run p m (k + 1) else k
theorem run_le (p : Nat → Bool) : ∀ m k, k ≤ run p m k ∧ run p m k ≤ k + m
  | 0, k => ⟨Nat.le_refl _, Nat.le_refl _⟩
  | m + 1, k => by
    unfold run
    by_cases h : p k = true
    · rw [if_pos h]; have := run_le p m (k + 1); omega
    · rw [if_neg h]; omega
/-- how many bows are made up to an hour -/
def sts (v : Nat → Nat) (hour : Nat) : Nat := run (fun k => decide (hr v (od v k) ≤ hour)) (v 3) 0
theorem sts_le (v : Nat → Nat) (h : Nat) : sts v h ≤ v 3 := by have := (run_le (fun k => decide (hr v (od v k) ≤ h)) (v 3) 0).2; unfold sts; omega
/-- who wears which mask in night n at an hour -/
def wr (v : Nat → Nat) (n hour : Nat) : Nat → Nat := (nst v n (sts v hour)).1
def wgd (v : Nat → Nat) (n : Nat) : Nat → Nat
  | 0 => 1
  | k + 1 => wgd v n k * (if n.testBit k = true then v (6 + 4 * dh v k + 3) else 10 - v (6 + 4 * dh v k + 3))
def wgt (v : Nat → Nat) (n : Nat) : Nat := wgd v n (dc v)
theorem wgd_le {v : Nat → Nat} (hv : Vd v) (n : Nat) : ∀ k, k ≤ dc v → wgd v n k ≤ 10 ^ k
  | 0, _ => Nat.le_refl _
  | k + 1, hk => by
    show wgd v n k * _ ≤ 10 ^ (k + 1)
    rw [Nat.pow_succ]
    have := (dh_is (v := v) (k := k) (by omega)).2.1
    exact Nat.mul_le_mul (wgd_le hv n k (by omega)) (by split <;> omega)
theorem wgt_le {v : Nat → Nat} (hv : Vd v) (n : Nat) : wgt v n ≤ 1000000 := by
  have h1 := wgd_le hv n (dc v) (Nat.le_refl _)
  have h2 : dc v ≤ 6 := hv.2.2.2.2.2.2.1
  have h3 : 10 ^ dc v ≤ 10 ^ 6 := Nat.pow_le_pow_right (by decide) h2
  exact Nat.le_trans h1 h3
def soo (v : Nat → Nat) (n s : Nat) : Bool := decide (wr v n (v (146 + 4 * s + 0)) (v (146 + 4 * s + 1)) = v (146 + 4 * s + 2)) == decide (v (146 + 4 * s + 3) = 1)
def barR (v : Nat → Nat) (n : Nat) : Bool := decide (v 1 = 1) && (nst v n (v 3)).2.2
def allSo (v : Nat → Nat) (n : Nat) : Nat → Bool
  | 0 => true
  | k + 1 => allSo v n k && soo v n k
/-- the weight that counts -/
def wt (v : Nat → Nat) (n : Nat) : Nat := if !(barR v n) && (decide (v 2 = 0) || allSo v n (v 5)) then wgt v n else 0
theorem wt_le {v : Nat → Nat} (hv : Vd v) (n : Nat) : wt v n ≤ 1000000 := by
  unfold wt; split
  · exact wgt_le hv n
  · omega
def nn (v : Nat → Nat) : Nat := 2 ^ dc v
theorem nn_le {v : Nat → Nat} (hv : Vd v) : nn v ≤ 64 := Nat.pow_le_pow_right (by decide) hv.2.2.2.2.2.2.1
theorem nn_pos (v : Nat → Nat) : 0 < nn v := Nat.two_pow_pos _
def smn (g : Nat → Nat) : Nat → Nat
  | 0 => 0
  | k + 1 => smn g k + g k
def orr (g : Nat → Nat) : Nat → Nat
  | 0 => 0
  | k + 1 => orr g k ||| g k
def smL (g : Nat → Int64) : Nat → Int64
  | 0 => lN 0
  | k + 1 => smL g k + g k
theorem smL_lN (g : Nat → Nat) : ∀ k, smL (fun n => lN (g n)) k = lN (smn g k)
  | 0 => rfl
  | k + 1 => by show smL _ k + _ = _; rw [smL_lN g k, lN_add]; rfl
theorem sm_le {g : Nat → Nat} {c : Nat} (h : ∀ k, g k ≤ c) : ∀ k, smn g k ≤ k * c
  | 0 => by simp [smn]
  | k + 1 => by
    have := sm_le h k
    have := h k
    show smn g k + g k ≤ _
    rw [Nat.succ_mul]; omega
/-- the nights that hold: who is likeliest among the first k -/
def bst (v : Nat → Nat) : Nat → Option Nat
  | 0 => none
  | k + 1 => if (match bst v k with | none => 0 | some b => wt v b) < wt v k then some k else bst v k
theorem bst_lt (v : Nat → Nat) : ∀ k b, bst v k = some b → b < k ∧ 0 < wt v b
  | 0, b, h => by cases h
  | k + 1, b, h => by
    unfold bst at h
    by_cases hc : (match bst v k with | none => 0 | some b => wt v b) < wt v k
    · rw [if_pos hc] at h
      cases h
      exact ⟨by omega, by omega⟩
    · rw [if_neg hc] at h
      have := bst_lt v k b h
      exact ⟨by omega, this.2⟩
def lkl (v : Nat → Nat) : Option Nat := bst v (nn v)
def lkI (x : Option Nat) : Int32 := match x with | none => -1 | some b => nI b
/-- how many sayings are so ahead of the first that isn't; the most of that among the first k nights that may be -/
def lead (v : Nat → Nat) (n : Nat) : Nat := run (fun s => soo v n s) (v 5) 0
def msf (v : Nat → Nat) : Nat → Nat
  | 0 => 0
  | k + 1 => if 0 < wgt v k ∧ barR v k = false then Nat.max (msf v k) (lead v k) else msf v k
def metS (v : Nat → Nat) (p q : Nat) : Nat → Bool
  | 0 => false
  | k + 1 => metS v p q k || (decide (0 < wt v k) && (nst v k (v 3)).2.1 p q)
/-- seen ones among the first k, as a set -/
def seb (v : Nat → Nat) : Nat → Nat
  | 0 => 0
  | k + 1 => if v (6 + 4 * k + 3) < 10 then seb v k else seb v k ||| 2 ^ k
