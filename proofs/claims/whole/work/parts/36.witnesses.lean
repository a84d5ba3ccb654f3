/-! ===== witnesses ===== -/
def bcn (k : Nat) : Nat := k % 2 + k / 2 % 2 + k / 4 % 2 + k / 8 % 2 + k / 16 % 2 + k / 32 % 2
theorem c_bc0 : ∀ k : Fin 64, f_J6_bitCount_0f7a4 (nI k.val) = some (nI (bcn k.val)) := by decide +kernel
theorem c_bc {k : Nat} (h : k < 64) : f_J6_bitCount_0f7a4 (nI k) = some (nI (bcn k)) := c_bc0 ⟨k, h⟩
theorem m_bc0 : ∀ k : Fin 64, f_X8_bits_4 8 (nI 0) (nI k.val) = some (nI (bcn k.val)) := by decide +kernel
theorem m_bcm {r : Int32} (m : Nat) : ∀ n c x, f_X8_bits_4 n c x = some r → f_X8_bits_4 (n + m) c x = some r
  | 0, c, x, h => by cases h
  | n + 1, c, x, h => by
    rw [show n + 1 + m = (n + m) + 1 by omega]
    unfold f_X8_bits_4 at h ⊢
    by_cases q : x = 0
    · rw [if_pos q] at h ⊢; exact h
    · rw [if_neg q] at h ⊢; exact m_bcm m n _ _ h
theorem m_bc {k N : Nat} (hN : 2000 ≤ N) (h : k < 64) : f_X8_bits N (nI k) = some (nI (bcn k)) := by
  unfold f_X8_bits
  have g : f_X8_bits_4 (8 + (N - 8)) (nI 0) (nI k) = some (nI (bcn k)) := m_bcm (N - 8) 8 (nI 0) (nI k) (m_bc0 ⟨k, h⟩)
  rw [show 8 + (N - 8) = N by omega] at g
  rw [show f_X8_bits_4 N (0 : Int32) (nI k) = some (nI (bcn k)) from g, bd_s]
theorem bcn_le (k : Nat) : bcn k ≤ 6 := by unfold bcn; omega
theorem bcn_top0 : ∀ d : Fin 7, ∀ k : Fin 64, k.val < 2 ^ d.val → bcn (2 ^ d.val - 1) ≤ bcn k.val → k.val = 2 ^ d.val - 1 := by decide +kernel
theorem bcn_top {v : Nat → Nat} (hv : Vd v) {k : Nat} (hk : k < nn v) (h : bcn (nn v - 1) ≤ bcn k) : k = nn v - 1 := by
  have h64 := nn_le hv
  have h6 := vd_dc hv
  exact bcn_top0 ⟨dc v, by omega⟩ ⟨k, by omega⟩ hk h
/-- the doers of the deeds in a night, packed -/
def dN (v e : Nat → Nat) (n : Nat) : Nat → Nat
  | 0 => 0
  | k + 1 => dN v e n k * 8 + dDo v e n k
def dM (v e : Nat → Nat) (n : Nat) : Nat → Nat
  | 0 => 0
  | k + 1 => dM v e n k + dDo v e n k * 8 ^ k
theorem dN_lt {v e : Nat → Nat} (hv : Vd v) (he : Ve v e) (n : Nat) : ∀ k, k ≤ e 60 → dN v e n k < 8 ^ k
  | 0, _ => Nat.one_pos
  | k + 1, h => by
    have ih := dN_lt hv he n k (by omega)
    have := dDo_lt (n := n) hv he (d := k) (by omega)
    rw [Nat.pow_succ]
    show dN v e n k * 8 + dDo v e n k < _
    omega
theorem dM_lt {v e : Nat → Nat} (hv : Vd v) (he : Ve v e) (n : Nat) : ∀ k, k ≤ e 60 → dM v e n k < 8 ^ k
  | 0, _ => Nat.one_pos
  | k + 1, h => by
    have ih := dM_lt hv he n k (by omega)
    have h8 := dDo_lt (n := n) hv he (d := k) (by omega)
    have : dDo v e n k * 8 ^ k ≤ 7 * 8 ^ k := Nat.mul_le_mul_right _ (by omega)
    rw [Nat.pow_succ]
    show dM v e n k + dDo v e n k * 8 ^ k < _
    omega
def sD (v e : Nat → Nat) (n m : Nat) : Prop := ∀ j, j < e 60 → dDo v e n j = dDo v e m j
theorem dN_inj {v e : Nat → Nat} (hv : Vd v) (he : Ve v e) (n m : Nat) : ∀ k, k ≤ e 60 → (dN v e n k = dN v e m k ↔ ∀ j, j < k → dDo v e n j = dDo v e m j)
  | 0, _ => ⟨fun _ j hj => absurd hj (Nat.not_lt_zero _), fun _ => rfl⟩
  | k + 1, h => by
    have ih := dN_inj hv he n m k (by omega)
    have h1 := dDo_lt (n := n) hv he (d := k) (by omega)
    have h2 := dDo_lt (n := m) hv he (d := k) (by omega)
    show dN v e n k * 8 + dDo v e n k = dN v e m k * 8 + dDo v e m k ↔ _
    constructor
    · intro g j hj
      by_cases q : j = k
      · rw [q]; omega
      · exact ih.mp (by omega) j (by omega)
    · intro g
      have := ih.mpr (fun j hj => g j (by omega))
      have := g k (by omega)
      omega
theorem dM_inj {v e : Nat → Nat} (hv : Vd v) (he : Ve v e) (n m : Nat) : ∀ k, k ≤ e 60 → (dM v e n k = dM v e m k ↔ ∀ j, j < k → dDo v e n j = dDo v e m j)
  | 0, _ => ⟨fun _ j hj => absurd hj (Nat.not_lt_zero _), fun _ => rfl⟩
  | k + 1, h => by
    have ih := dM_inj hv he n m k (by omega)
    have h1 := dM_lt hv he n k (by omega)
    have h2 := dM_lt hv he m k (by omega)
    have hp : 0 < 8 ^ k := Nat.pow_pos (by decide)
    show dM v e n k + dDo v e n k * 8 ^ k = dM v e m k + dDo v e m k * 8 ^ k ↔ _
    constructor
    · intro g j hj
      have a1 : dDo v e n k = dDo v e m k := by
        have e1 : (dM v e n k + dDo v e n k * 8 ^ k) / 8 ^ k = dDo v e n k := by rw [Nat.add_mul_div_right _ _ hp, Nat.div_eq_of_lt h1]; omega
        have e2 : (dM v e m k + dDo v e m k * 8 ^ k) / 8 ^ k = dDo v e m k := by rw [Nat.add_mul_div_right _ _ hp, Nat.div_eq_of_lt h2]; omega
        rw [← e1, ← e2, g]
      by_cases q : j = k
      · rw [q]; exact a1
      · rw [a1] at g; exact ih.mp (by omega) j (by omega)
    · intro g
      have a := ih.mpr (fun j hj => g j (by omega))
      rw [a, g k (by omega)]
theorem p8_12 {k : Nat} (h : k ≤ 12) : 8 ^ k ≤ 8 ^ 12 := Nat.pow_le_pow_right (by decide) h
theorem lgc_e {a b : Nat} (ha : a < 2 ^ 63) (hb : b < 2 ^ 63) : (lg_cmp (lN a) (lN b) = nI 0) = (a = b) := propext ((lg_cmp_eq _ _).trans (pk_lEQ ha hb))
theorem lgc_z {a b : Nat} (ha : a < 2 ^ 63) (hb : b < 2 ^ 63) : (lg_cmp (lN a) (lN b) = (0 : Int32)) = (a = b) := lgc_e ha hb
theorem c_nd18 {v e : Nat → Nat} {cells stepsAt rows : Nat → Int32} (hv : Vd v) (he : Ve v e) (h : ∀ j, j < 60 → cells j = nI (e j)) (hs : ∀ h, h < 100 → stepsAt h = nI (sts v h)) {n : Nat} (hn : n < 64) : ∀ d f k (x : Int64), k + d = e 60 → d < f → ∃ r, f_X1_noteDoers_18 (nI n) stepsAt rows (nI (e 60)) cells f x (nI k) = some r ∧ (RR v rows n (v 3) → x = lN (dN v e n k) → r = lN (dN v e n (e 60)))
  | 0, f, k, x, hk, hf => by
    have h60 := he.1
    cases f with
    | zero => omega
    | succ f =>
      refine ⟨x, ?_, fun _ hx => by rw [hx, show k = e 60 by omega]⟩
      unfold f_X1_noteDoers_18 f_X4_size
      rw [bd_s, if_pos (nI_le (by omega) (by omega))]
  | d + 1, f, k, x, hk, hf => by
    have h60 := he.1
    cases f with
    | zero => omega
    | succ f =>
      obtain ⟨y, hy⟩ := c_doerAny (rows := rows) hv he h hs hn (d := k) (by omega)
      obtain ⟨r, g1, g2⟩ := c_nd18 (rows := rows) hv he h hs hn d f (k + 1) ((x <<< ((3 : Int32).toInt64 &&& 63)) ||| y.toInt64) (by omega) (by omega)
      refine ⟨r, ?_, fun hR hx => g2 hR ?_⟩
      · unfold f_X1_noteDoers_18 f_X4_size
        rw [bd_s, if_neg (nI_ge (by omega) (by omega)), hy, bd_s, nI_1]
        exact g1
      · have h8 := dDo_lt (n := n) hv he (d := k) (by omega)
        rw [c_doerIn hv he h hs hn hR (by omega)] at hy
        cases hy
        rw [hx, show (3 : Int32).toInt64 &&& 63 = lN 3 from by decide, lN_shl (by decide), nI_l (by omega), lN_or]
        congr 1
        show _ = dN v e n k * 8 + dDo v e n k
        have := Nat.two_pow_add_eq_or_of_lt (i := 3) (b := dDo v e n k) (by omega) (dN v e n k)
        rw [show (2 : Nat) ^ 3 = 8 from rfl, Nat.mul_comm] at this
        rw [this, show (2 : Nat) ^ 3 = 8 from rfl]
theorem ul_s {f : Nat → Int64} {k : Nat} {x : Int64} : vp_updL f k x k = x := if_pos rfl
theorem ul_n {f : Nat → Int64} {k j : Nat} {x : Int64} (h : j ≠ k) : vp_updL f k x j = f j := if_neg h
def DC (v e : Nat → Nat) (k : Nat) (D : Nat → Int64) : Prop := ∀ n, n < k → D n = if 0 < wt v n then lN (dN v e n (e 60)) else -1
def DM (v e : Nat → Nat) (k : Nat) (D : Nat → Int64) : Prop := ∀ n, n < k → D n = lN (dM v e n (e 60))
theorem c_nd2 {v e : Nat → Nat} {cells stepsAt w rows : Nat → Int32} (hv : Vd v) (he : Ve v e) (h : ∀ j, j < 60 → cells j = nI (e j)) (hs : ∀ h, h < 100 → stepsAt h = nI (sts v h)) (hw : CW v w) (hR : ∀ n, n < nn v → 0 < wgt v n → RR v rows n (v 3)) {N : Nat} (hN : 2000 ≤ N) : ∀ d f k (D : Nat → Int64), k + d = nn v → d < f → DC v e k D → ∃ R, f_X1_noteDoers_2 N stepsAt w rows (nI (dc v)) (nI (e 60)) cells f (nI k) D = some R ∧ DC v e (nn v) R
  | 0, f, k, D, hk, hf, hD => by
    have h64 := nn_le hv
    cases f with
    | zero => omega
    | succ f =>
      refine ⟨D, ?_, fun n hn => hD n (by omega)⟩
      unfold f_X1_noteDoers_2
      rw [c_size hv, bd_s, if_pos (nI_le (by omega) (by omega))]
  | d + 1, f, k, D, hk, hf, hD => by
    have h64 := nn_le hv
    have h60 := he.1
    cases f with
    | zero => omega
    | succ f =>
      obtain ⟨r, e1, e2⟩ := c_nd18 (rows := rows) hv he h hs (n := k) (by omega) (e 60) N 0 (0 : Int64) (by omega) (by omega)
      have e1' : f_X1_noteDoers_18 (nI k) stepsAt rows (nI (e 60)) cells N (0 : Int64) (0 : Int32) = some r := e1
      obtain ⟨R, g1, g2⟩ := c_nd2 hv he h hs hw hR hN d f (k + 1) (vp_updL D k (if 0 < wt v k then lN (dN v e k (e 60)) else -1)) (by omega) (by omega) (fun n hn => by
        by_cases q : n = k
        · rw [q, ul_s]
        · rw [ul_n q]; exact hD n (by omega))
      refine ⟨R, ?_, g2⟩
      unfold f_X1_noteDoers_2
      rw [c_size hv, bd_s, if_neg (nI_ge (by omega) (by omega)), e1', bd_s, c_holds hv hw (by omega), bd_s, nI_1]
      by_cases q : 0 < wt v k
      · rw [if_neg (by rw [decide_eq_true q]; decide), bd_s, gd_ix (by omega) (by decide), nI_clamp (by omega), e2 (hR k (by omega) (wt_wgt q)) rfl]
        rw [if_pos q] at g1
        exact g1
      · rw [if_pos (by rw [decide_eq_false q]; decide), bd_s, gd_ix (by omega) (by decide), nI_clamp (by omega)]
        rw [if_neg q] at g1
        exact g1
theorem m_fa24 {v e : Nat → Nat} {now doer : Nat → Int32} (hv : Vd v) (he : Ve v e) (hd : RE e now) {n : Nat} (hn : n < 64) (hA : ∀ j, j < e 60 → doer j = nI (dDo v e n j)) : ∀ d f k (D : Nat → Int64), k + d = e 60 → d < f → D n = lN (dM v e n k) → ∃ R, f_X8_findAllDoers_24 (nI n) now doer f (nI k) D = some R ∧ R n = lN (dM v e n (e 60)) ∧ ∀ m, m ≠ n → R m = D m
  | 0, f, k, D, hk, hf, hD => by
    have h60 := he.1
    cases f with
    | zero => omega
    | succ f =>
      refine ⟨D, ?_, by rw [hD, show k = e 60 by omega], fun _ _ => rfl⟩
      unfold f_X8_findAllDoers_24
      rw [show (4 : Int32).toNatClampNeg = 4 from rfl, hd.1, if_pos (nI_le (by omega) (by omega))]
  | d + 1, f, k, D, hk, hf, hD => by
    have h60 := he.1
    cases f with
    | zero => omega
    | succ f =>
      have h8 := dDo_lt (n := n) hv he (d := k) (by omega)
      obtain ⟨R, g1, g2, g3⟩ := m_fa24 hv he hd hn hA d f (k + 1) (vp_updL D n (lN (dM v e n (k + 1)))) (by omega) (by omega) ul_s
      refine ⟨R, ?_, g2, fun m hm => by rw [g3 m hm, ul_n hm]⟩
      unfold f_X8_findAllDoers_24
      rw [show (4 : Int32).toNatClampNeg = 4 from rfl, hd.1, if_neg (nI_ge (by omega) (by omega)), gd_ix (by omega) (by decide), gd_ix (by omega) (by decide), nI_clamp (by omega), nI_clamp (by omega), hD, hA k (by omega), nI_1, show (3 : Int32) = nI 3 from rfl, pk_mul, nI_l (by omega), nI_l (by omega), show (63 : Int64) = lN 63 from rfl, lN_63 (by omega), lN_shl (by omega), lN_or]
      have e2 : dM v e n k ||| dDo v e n k * 2 ^ (3 * k) = dM v e n (k + 1) := by
        have hl := dM_lt hv he n k (by omega)
        have hp : (8 : Nat) ^ k = 2 ^ (3 * k) := by rw [show (8 : Nat) = 2 ^ 3 from rfl, ← Nat.pow_mul]
        rw [hp] at hl
        have := Nat.two_pow_add_eq_or_of_lt hl (dDo v e n k)
        show _ = dM v e n k + dDo v e n k * 8 ^ k
        rw [hp, Nat.mul_comm (dDo v e n k), Nat.or_comm, ← this, Nat.add_comm]
      rw [e2]
      exact g1
theorem m_fa2 {v e : Nat → Nat} {now : Nat → Int32} (h : RN v now) (hd : RE e now) (hv : Vd v) (he : Ve v e) {N : Nat} (hN : 2000 ≤ N) {order doubts : Nat → Int32} (hl : ML v order doubts (nI (dc v))) : ∀ d f k (worn : Nat → Int32) (pairs : Int64) (tw : Int32) (doer doneTo : Nat → Int32) (D : Nat → Int64), k + d = nn v → d < f → DM v e k D →
    ∃ w p t A B R, f_X8_findAllDoers_2 N now order doubts (nI (dc v)) f (nI k) worn pairs tw doer doneTo D = some (w, p, t, A, B, R) ∧ DM v e (nn v) R
  | 0, f, k, worn, pairs, tw, doer, doneTo, D, hk, hf, hD => by
    have h64 := nn_le hv
    cases f with
    | zero => omega
    | succ f =>
      refine ⟨worn, pairs, tw, doer, doneTo, D, ?_, fun n hn => hD n (by omega)⟩
      unfold f_X8_findAllDoers_2
      rw [n_there hv, bd_s, if_pos (nI_le (by omega) (by omega))]
  | d + 1, f, k, worn, pairs, tw, doer, doneTo, D, hk, hf, hD => by
    have h64 := nn_le hv
    have h60 := he.1
    cases f with
    | zero => omega
    | succ f =>
      obtain ⟨w1, p1, t1, A1, B1, e1, e2⟩ := m_doers h hd hv he hN hl (n := k) (by omega) worn pairs tw doer doneTo
      obtain ⟨R1, r1, r2, r3⟩ := m_fa24 (v := v) (doer := A1) hv he hd (n := k) (by omega) (fun j hj => (e2 j hj).1) (e 60) N 0 (vp_updL D k (0 : Int64)) (by omega) (by omega) ul_s
      have r1' : f_X8_findAllDoers_24 (nI k) now A1 N (0 : Int32) (vp_updL D k (0 : Int64)) = some R1 := r1
      obtain ⟨w, p, t, A, B, R, g1, g2⟩ := m_fa2 h hd hv he hN hl d f (k + 1) w1 p1 t1 A1 B1 R1 (by omega) (by omega) (fun n hn => by
        by_cases q : n = k
        · rw [q, r2]
        · rw [r3 n q, ul_n q]; exact hD n (by omega))
      refine ⟨w, p, t, A, B, R, ?_, g2⟩
      unfold f_X8_findAllDoers_2
      rw [n_there hv, bd_s, if_neg (nI_ge (by omega) (by omega)), e1, bd_s, gd_ix (by omega) (by decide), nI_clamp (by omega), nI_1]
      dsimp only
      rw [r1', bd_s]
      exact g1
/-- the class's telling sets -/
def pr (v e : Nat → Nat) (n m : Nat) : Prop := 0 < wt v n ∧ 0 < wt v m ∧ ¬ sD v e n m
def TLp (v e : Nat → Nat) (i j : Nat) (T : Nat → Int32) : Prop := ∀ t, t < nn v → (T t = nI 0 ∨ T t = nI 1) ∧ (T t = nI 1 ↔ ∃ n m, m < n ∧ (n < i ∨ (n = i ∧ m < j)) ∧ pr v e n m ∧ n ^^^ m = t)
theorem c_tl10 {n' : Nat} (hn : n' ≤ 64) : ∀ d f k (T : Nat → Int32), k + d = n' → d < f → (∀ t, t < k → T t = nI 0) → ∃ R, f_X1_noteTellingSets_10 (nI n') f (nI k) T = some R ∧ ∀ t, t < n' → R t = nI 0
  | 0, f, k, T, hk, hf, hT => by
    cases f with
    | zero => omega
    | succ f =>
      refine ⟨T, ?_, fun t ht => hT t (by omega)⟩
      unfold f_X1_noteTellingSets_10
      rw [if_pos (nI_le (by omega) (by omega))]
  | d + 1, f, k, T, hk, hf, hT => by
    cases f with
    | zero => omega
    | succ f =>
      obtain ⟨R, g1, g2⟩ := c_tl10 hn d f (k + 1) (upd T k (nI 0)) (by omega) (by omega) (fun t ht => by
        by_cases q : t = k
        · rw [q, pk_us]
        · rw [pk_un q]; exact hT t (by omega))
      refine ⟨R, ?_, g2⟩
      unfold f_X1_noteTellingSets_10
      rw [if_neg (nI_ge (by omega) (by omega)), gd_ix (by omega) (by decide), nI_clamp (by omega), nI_1]
      exact g1
theorem lN_m1 {a : Nat} (h : a < 2 ^ 63) : ¬ lg_cmp (lN a) (-1 : Int64) = (0 : Int32) := by
  intro z
  have z := (lg_cmp_eq _ _).mp z
  have : (lN a).toInt = (-1 : Int64).toInt := by rw [z]
  rw [show (lN a).toInt = (a : Int) from Int64.toInt_ofNat_of_lt h] at this
  have h2 : (-1 : Int64).toInt = -1 := by decide
  omega
theorem c_tl37 {v e : Nat → Nat} {D : Nat → Int64} (hv : Vd v) (he : Ve v e) (hD : DC v e (nn v) D) {n : Nat} (hn : n < nn v) : ∀ d f k (T : Nat → Int32), k + d = n → d < f → TLp v e n k T → ∃ R, f_X1_noteTellingSets_37 (nI n) D f (nI k) T = some R ∧ TLp v e n n R
  | 0, f, k, T, hk, hf, hT => by
    have h64 := nn_le hv
    cases f with
    | zero => omega
    | succ f =>
      refine ⟨T, ?_, by rw [show k = n by omega] at hT; exact hT⟩
      unfold f_X1_noteTellingSets_37
      rw [if_pos (nI_le (by omega) (by omega))]
  | d + 1, f, k, T, hk, hf, hT => by
    have h64 := nn_le hv
    have h60 := he.1
    have p12 := p8_12 h60
    cases f with
    | zero => omega
    | succ f =>
      have b1 := dN_lt hv he n (e 60) (Nat.le_refl _)
      have b2 := dN_lt hv he k (e 60) (Nat.le_refl _)
      have hx : n ^^^ k < nn v := Nat.xor_lt_two_pow hn (by show k < nn v; omega)
      have stay : ¬ pr v e n k → TLp v e n (k + 1) T := fun q t ht => by
        refine ⟨(hT t ht).1, (hT t ht).2.trans ⟨?_, ?_⟩⟩
        · rintro ⟨a, b, h1, h2, h3, h4⟩; exact ⟨a, b, h1, by omega, h3, h4⟩
        · rintro ⟨a, b, h1, h2, h3, h4⟩
          refine ⟨a, b, h1, ?_, h3, h4⟩
          by_cases z : a = n ∧ b = k
          · rw [z.1, z.2] at h3; exact absurd h3 q
          · omega
      have go : ∀ T', TLp v e n (k + 1) T' → (∀ X, (bd (some T') (fun u_8 => f_X1_noteTellingSets_37 (nI n) D f (nI (k + 1)) u_8)) = X → f_X1_noteTellingSets_37 (nI n) D (f + 1) (nI k) T = X) → ∃ R, f_X1_noteTellingSets_37 (nI n) D (f + 1) (nI k) T = some R ∧ TLp v e n n R := fun T' hT' hX => by
        obtain ⟨R, g1, g2⟩ := c_tl37 hv he hD hn d f (k + 1) T' (by omega) (by omega) hT'
        exact ⟨R, hX _ (by rw [bd_s]; exact g1), g2⟩
      by_cases q1 : 0 < wt v n
      · by_cases q2 : 0 < wt v k
        · by_cases q3 : sD v e n k
          · refine go T (stay (fun z => z.2.2 q3)) (fun X hX => ?_)
            unfold f_X1_noteTellingSets_37
            rw [if_neg (nI_ge (by omega) (by omega)), gd_ix (by omega) (by decide), nI_clamp (by omega), nI_clamp (by omega), hD n hn, hD k (by omega), if_pos q1, if_pos q2, if_neg (lN_m1 (by omega)), gd_ix (by omega) (by decide), if_neg (lN_m1 (by omega)), if_pos (Eq.mpr (lgc_z (by omega) (by omega)) ((dN_inj hv he n k (e 60) (Nat.le_refl _)).mpr q3)), nI_1]
            exact hX
          · refine go (upd T (n ^^^ k) (nI 1)) (fun t ht => ?_) (fun X hX => ?_)
            · by_cases z : t = n ^^^ k
              · rw [z, pk_us]
                exact ⟨Or.inr rfl, fun _ => ⟨n, k, by omega, by omega, ⟨q1, q2, q3⟩, rfl⟩, fun _ => rfl⟩
              · rw [pk_un z]
                refine ⟨(hT t ht).1, (hT t ht).2.trans ⟨?_, ?_⟩⟩
                · rintro ⟨a, b, h1, h2, h3, h4⟩; exact ⟨a, b, h1, by omega, h3, h4⟩
                · rintro ⟨a, b, h1, h2, h3, h4⟩
                  refine ⟨a, b, h1, ?_, h3, h4⟩
                  by_cases y : a = n ∧ b = k
                  · rw [y.1, y.2] at h4; exact absurd h4.symm z
                  · omega
            · unfold f_X1_noteTellingSets_37
              rw [if_neg (nI_ge (by omega) (by omega)), gd_ix (by omega) (by decide), nI_clamp (by omega), nI_clamp (by omega), hD n hn, hD k (by omega), if_pos q1, if_pos q2, if_neg (lN_m1 (by omega)), gd_ix (by omega) (by decide), if_neg (lN_m1 (by omega)), if_neg (fun z => q3 ((dN_inj hv he n k (e 60) (Nat.le_refl _)).mp (Eq.mp (lgc_z (by omega) (by omega)) z))), nI_1, nI_xor, gd_ix (by omega) (by decide), nI_clamp (by omega)]
              exact hX
        · refine go T (stay (fun z => q2 z.2.1)) (fun X hX => ?_)
          unfold f_X1_noteTellingSets_37
          rw [if_neg (nI_ge (by omega) (by omega)), gd_ix (by omega) (by decide), nI_clamp (by omega), nI_clamp (by omega), hD n hn, hD k (by omega), if_pos q1, if_neg q2, if_neg (lN_m1 (by omega)), gd_ix (by omega) (by decide), if_pos (by decide), nI_1]
          exact hX
      · refine go T (stay (fun z => q1 z.1)) (fun X hX => ?_)
        unfold f_X1_noteTellingSets_37
        rw [if_neg (nI_ge (by omega) (by omega)), gd_ix (by omega) (by decide), nI_clamp (by omega), nI_clamp (by omega), hD n hn, if_neg q1, if_pos (by decide), nI_1]
        exact hX
theorem c_tl30 {v e : Nat → Nat} {D : Nat → Int64} (hv : Vd v) (he : Ve v e) (hD : DC v e (nn v) D) {N : Nat} (hN : 2000 ≤ N) : ∀ d f k (T : Nat → Int32), k + d = nn v → d < f → TLp v e k 0 T → ∃ R, f_X1_noteTellingSets_30 N (nI (nn v)) D f (nI k) T = some R ∧ TLp v e (nn v) 0 R
  | 0, f, k, T, hk, hf, hT => by
    have h64 := nn_le hv
    cases f with
    | zero => omega
    | succ f =>
      refine ⟨T, ?_, by rw [show k = nn v by omega] at hT; exact hT⟩
      unfold f_X1_noteTellingSets_30
      rw [if_pos (nI_le (by omega) (by omega))]
  | d + 1, f, k, T, hk, hf, hT => by
    have h64 := nn_le hv
    cases f with
    | zero => omega
    | succ f =>
      obtain ⟨R1, r1, r2⟩ := c_tl37 hv he hD (n := k) (by omega) k N 0 T (by omega) (by omega) hT
      have r1' : f_X1_noteTellingSets_37 (nI k) D N (0 : Int32) T = some R1 := r1
      obtain ⟨R, g1, g2⟩ := c_tl30 hv he hD hN d f (k + 1) R1 (by omega) (by omega) (fun t ht => ⟨(r2 t ht).1, (r2 t ht).2.trans ⟨fun ⟨a, b, h1, h2, h3, h4⟩ => ⟨a, b, h1, by omega, h3, h4⟩, fun ⟨a, b, h1, h2, h3, h4⟩ => ⟨a, b, h1, by omega, h3, h4⟩⟩⟩)
      refine ⟨R, ?_, g2⟩
      unfold f_X1_noteTellingSets_30
      rw [if_neg (nI_ge (by omega) (by omega)), r1', bd_s, nI_1]
      exact g1
def Eno (v e : Nat → Nat) (s : Nat) : Prop := ∀ n m, m < n → n < nn v → 0 < wt v n → 0 < wt v m → n &&& s = m &&& s → sD v e n m
theorem c_tl {v e : Nat → Nat} {D : Nat → Int64} (hv : Vd v) (he : Ve v e) (hD : DC v e (nn v) D) {N : Nat} (hN : 2000 ≤ N) (T : Nat → Int32) : ∃ R, f_X1_noteTellingSets N D T (nI (dc v)) = some R ∧ TLp v e (nn v) 0 R := by
  have h64 := nn_le hv
  have hp := nn_pos v
  obtain ⟨R1, r1, r2⟩ := c_tl10 h64 (nn v) N 0 T (by omega) (by omega) (fun t ht => absurd ht (Nat.not_lt_zero _))
  obtain ⟨R, g1, g2⟩ := c_tl30 hv he hD hN (nn v - 1) N 1 R1 (by omega) (by omega) (fun t ht => by
    rw [r2 t ht]
    refine ⟨Or.inl rfl, fun z => absurd z (by decide), ?_⟩
    rintro ⟨a, b, h1, h2, h3, h4⟩; omega)
  refine ⟨R, ?_, g2⟩
  unfold f_X1_noteTellingSets
  rw [c_size hv, bd_s, show f_X1_noteTellingSets_10 (nI (nn v)) N (0 : Int32) T = some R1 from r1, bd_s, show f_X1_noteTellingSets_30 N (nI (nn v)) D N (1 : Int32) R1 = some R from g1, bd_s]
theorem c_se10 {v : Nat → Nat} {T : Nat → Int32} (hv : Vd v) (hT : ∀ t, t < nn v → T t = nI 0 ∨ T t = nI 1) {s : Nat} (hs : s < 64) : ∀ d f k, k + d = nn v → d < f → ∃ b, f_X1_settles_10 (nI s) (nI (nn v)) T (fun _ => some (1 : Int32)) f (nI k) = some (b2 b) ∧ (b = true ↔ ∀ t, k ≤ t → t < nn v → T t = nI 1 → t &&& s ≠ 0)
  | 0, f, k, hk, hf => by
    have h64 := nn_le hv
    cases f with
    | zero => omega
    | succ f =>
      refine ⟨true, ?_, fun _ t h1 h2 => by omega, fun _ => rfl⟩
      unfold f_X1_settles_10
      rw [if_pos (nI_le (by omega) (by omega))]; rfl
  | d + 1, f, k, hk, hf => by
    have h64 := nn_le hv
    cases f with
    | zero => omega
    | succ f =>
      obtain ⟨b, g1, g2⟩ := c_se10 hv hT hs d f (k + 1) (by omega) (by omega)
      have key : ∀ P : Nat → Prop, P k → ((∀ t, k + 1 ≤ t → t < nn v → P t) ↔ ∀ t, k ≤ t → t < nn v → P t) := fun P hP => ⟨fun z t h1 h2 => by
        by_cases q : t = k
        · rw [q]; exact hP
        · exact z t (by omega) h2, fun z t h1 h2 => z t (by omega) h2⟩
      rcases hT k (by omega) with q | q
      · refine ⟨b, ?_, g2.trans (key (fun t => T t = nI 1 → t &&& s ≠ 0) (fun z => by rw [q] at z; exact absurd z (by decide)))⟩
        unfold f_X1_settles_10
        rw [if_neg (nI_ge (by omega) (by omega)), gd_ix (by omega) (by decide), nI_clamp (by omega), q, if_pos (by decide), nI_1]
        exact g1
      · by_cases z : k &&& s = 0
        · refine ⟨false, ?_, fun y => (by cases y), fun y => absurd z (y k (by omega) (by omega) q)⟩
          unfold f_X1_settles_10
          rw [if_neg (nI_ge (by omega) (by omega)), gd_ix (by omega) (by decide), nI_clamp (by omega), q, if_neg (by decide), nI_and, z, if_pos (by decide)]; rfl
        · refine ⟨b, ?_, g2.trans (key (fun t => T t = nI 1 → t &&& s ≠ 0) (fun _ => z))⟩
          have hlt : k &&& s < 2 ^ 6 := Nat.and_lt_two_pow _ (by omega)
          unfold f_X1_settles_10
          rw [if_neg (nI_ge (by omega) (by omega)), gd_ix (by omega) (by decide), nI_clamp (by omega), q, if_neg (by decide), nI_and, if_neg (show ¬ nI (k &&& s) = (0 : Int32) from fun y => z ((nI_eq (a := k &&& s) (b := 0) (by omega) (by omega)).mp y)), nI_1]
          exact g1
theorem xor_and {a b s : Nat} : (a ^^^ b) &&& s = 0 ↔ a &&& s = b &&& s := by
  constructor
  · intro h
    refine Nat.eq_of_testBit_eq (fun i => ?_)
    have := congrArg (fun x => x.testBit i) h
    simp only [Nat.testBit_and, Nat.testBit_xor, Nat.zero_testBit] at this ⊢
    revert this
    cases a.testBit i <;> cases b.testBit i <;> cases s.testBit i <;> decide
  · intro h
    refine Nat.eq_of_testBit_eq (fun i => ?_)
    have := congrArg (fun x => x.testBit i) h
    simp only [Nat.testBit_and, Nat.testBit_xor, Nat.zero_testBit] at this ⊢
    revert this
    cases a.testBit i <;> cases b.testBit i <;> cases s.testBit i <;> decide
theorem xor_ne {a b : Nat} (h : b < a) : 1 ≤ a ^^^ b := by
  by_cases q : a ^^^ b = 0
  · have : (a ^^^ b) &&& (2 ^ (a + 1) - 1) = 0 := by rw [q, Nat.zero_and]
    have := xor_and.mp this
    have l1 : a < 2 ^ (a + 1) := Nat.lt_trans (Nat.lt_succ_self a) Nat.lt_two_pow_self
    rw [Nat.and_two_pow_sub_one_eq_mod, Nat.and_two_pow_sub_one_eq_mod, Nat.mod_eq_of_lt l1, Nat.mod_eq_of_lt (by omega)] at this
    omega
  · omega
theorem c_settles {v e : Nat → Nat} {T : Nat → Int32} (hv : Vd v) (hT : TLp v e (nn v) 0 T) {N : Nat} (hN : 2000 ≤ N) {s : Nat} (hs : s < 64) : ∃ b, f_X1_settles N T (nI (dc v)) (nI s) = some (b2 b) ∧ (b = true ↔ Eno v e s) := by
  have h64 := nn_le hv
  have hp := nn_pos v
  obtain ⟨b, g1, g2⟩ := c_se10 hv (fun t ht => (hT t ht).1) hs (nn v - 1) N 1 (by omega) (by omega)
  refine ⟨b, ?_, g2.trans ⟨fun z n m h1 h2 h3 h4 h5 => ?_, fun z t h1 h2 h3 h4 => ?_⟩⟩
  · unfold f_X1_settles
    rw [c_size hv, bd_s]
    exact g1
  · by_cases q : sD v e n m
    · exact q
    · have hx : n ^^^ m < nn v := Nat.xor_lt_two_pow h2 (by show m < nn v; omega)
      exact absurd (xor_and.mpr h5) (z (n ^^^ m) (xor_ne h1) hx ((hT _ hx).2.mpr ⟨n, m, h1, by omega, ⟨h3, h4, q⟩, rfl⟩))
  · obtain ⟨n, m, a1, a2, a3, a4⟩ := (hT t h2).2.mp h3
    rw [← a4] at h4
    exact a3.2.2 (z n m a1 (by omega) a3.1 a3.2.1 (xor_and.mp h4))
theorem m_en15 {v e : Nat → Nat} {W D : Nat → Int64} (hv : Vd v) (he : Ve v e) (hW : MW v W) (hD : DM v e (nn v) D) {s n : Nat} (hs : s < 64) (hn : n < nn v) : ∀ d f k b, k + d = n → d < f → ∃ b', f_X8_isEnough_15 (nI s) (nI n) W D f (b2 b) (nI k) = some (b2 b') ∧ (b' = true ↔ b = true ∧ ∀ m, k ≤ m → m < n → 0 < wt v n → 0 < wt v m → n &&& s = m &&& s → sD v e n m)
  | 0, f, k, b, hk, hf => by
    have h64 := nn_le hv
    cases f with
    | zero => omega
    | succ f =>
      refine ⟨b, ?_, fun z => ⟨z, fun m h1 h2 => by omega⟩, fun z => z.1⟩
      unfold f_X8_isEnough_15
      rw [if_pos (nI_le (by omega) (by omega))]
  | d + 1, f, k, b, hk, hf => by
    have h64 := nn_le hv
    have h60 := he.1
    have p12 := p8_12 h60
    cases f with
    | zero => omega
    | succ f =>
      have w1 := wt_le hv n
      have w2 := wt_le hv k
      have b1 := dM_lt hv he n (e 60) (Nat.le_refl _)
      have b2' := dM_lt hv he k (e 60) (Nat.le_refl _)
      have hl1 : n &&& s < 2 ^ 6 := Nat.and_lt_two_pow _ (by omega)
      have hl2 : k &&& s < 2 ^ 6 := Nat.and_lt_two_pow _ (by omega)
      by_cases q1 : wt v n = 0
      · refine ⟨b, ?_, fun z => ⟨z, fun m h1 h2 h3 => by omega⟩, fun z => z.1⟩
        unfold f_X8_isEnough_15
        rw [if_neg (nI_ge (by omega) (by omega)), gd_ix (by omega) (by decide), nI_clamp (by omega), hW n hn, if_pos (show lg_cmp (lN (wt v n)) (0 : Int64) ≤ (0 : Int32) from (lgc_le (by omega)).mpr q1)]
      · have z1 : ¬ lg_cmp (lN (wt v n)) (0 : Int64) ≤ (0 : Int32) := fun z => q1 ((lgc_le (show wt v n < 2 ^ 63 by omega)).mp z)
        have step : ∀ c : Bool, (c = true ↔ b = true ∧ (0 < wt v k → n &&& s = k &&& s → sD v e n k)) → (∀ X, (bd (some (b2 c)) (fun u_6 => f_X8_isEnough_15 (nI s) (nI n) W D f u_6 (nI (k + 1)))) = X → f_X8_isEnough_15 (nI s) (nI n) W D (f + 1) (b2 b) (nI k) = X) → ∃ b', f_X8_isEnough_15 (nI s) (nI n) W D (f + 1) (b2 b) (nI k) = some (b2 b') ∧ (b' = true ↔ b = true ∧ ∀ m, k ≤ m → m < n → 0 < wt v n → 0 < wt v m → n &&& s = m &&& s → sD v e n m) := fun c hc hX => by
          obtain ⟨b', g1, g2⟩ := m_en15 hv he hW hD hs hn d f (k + 1) c (by omega) (by omega)
          refine ⟨b', hX _ (by rw [bd_s]; exact g1), g2.trans ⟨fun z => ⟨(hc.mp z.1).1, fun m h1 h2 h3 h4 h5 => ?_⟩, fun z => ⟨hc.mpr ⟨z.1, fun h4 h5 => z.2 k (by omega) (by omega) (by omega) h4 h5⟩, fun m h1 h2 => z.2 m (by omega) h2⟩⟩⟩
          by_cases y : m = k
          · subst y; exact (hc.mp z.1).2 h4 h5
          · exact z.2 m (by omega) h2 h3 h4 h5
        cases b with
        | false =>
          refine step false ⟨fun z => (by cases z), fun z => by cases z.1⟩ (fun X hX => ?_)
          unfold f_X8_isEnough_15
          rw [if_neg (nI_ge (by omega) (by omega)), gd_ix (by omega) (by decide), nI_clamp (by omega), hW n hn, if_neg z1, if_pos (by decide), nI_1]
          exact hX
        | true =>
          by_cases q2 : wt v k = 0
          · refine step true ⟨fun _ => ⟨rfl, fun z => by omega⟩, fun _ => rfl⟩ (fun X hX => ?_)
            unfold f_X8_isEnough_15
            rw [if_neg (nI_ge (by omega) (by omega)), gd_ix (by omega) (by decide), nI_clamp (by omega), hW n hn, if_neg z1, if_neg (by decide), gd_ix (by omega) (by decide), nI_clamp (by omega), hW k (by omega), if_pos (show lg_cmp (lN (wt v k)) (0 : Int64) = (0 : Int32) from (lgc0 (show wt v k < 2 ^ 63 by omega)).mpr q2), nI_1]
            exact hX
          · have z2 : ¬ lg_cmp (lN (wt v k)) (0 : Int64) = (0 : Int32) := fun z => q2 ((lgc0 (show wt v k < 2 ^ 63 by omega)).mp z)
            by_cases q3 : n &&& s = k &&& s
            · by_cases q4 : sD v e n k
              · refine step true ⟨fun _ => ⟨rfl, fun _ _ => q4⟩, fun _ => rfl⟩ (fun X hX => ?_)
                unfold f_X8_isEnough_15
                rw [if_neg (nI_ge (by omega) (by omega)), gd_ix (by omega) (by decide), nI_clamp (by omega), hW n hn, if_neg z1, if_neg (by decide), gd_ix (by omega) (by decide), nI_clamp (by omega), hW k (by omega), if_neg z2, nI_and, nI_and, q3, if_pos rfl, hD n hn, hD k (by omega), if_pos (Eq.mpr (lgc_z (by omega) (by omega)) ((dM_inj hv he n k (e 60) (Nat.le_refl _)).mpr q4)), nI_1]
                exact hX
              · refine step false ⟨fun z => (by cases z), fun z => absurd (z.2 (by omega) q3) q4⟩ (fun X hX => ?_)
                unfold f_X8_isEnough_15
                rw [if_neg (nI_ge (by omega) (by omega)), gd_ix (by omega) (by decide), nI_clamp (by omega), hW n hn, if_neg z1, if_neg (by decide), gd_ix (by omega) (by decide), nI_clamp (by omega), hW k (by omega), if_neg z2, nI_and, nI_and, q3, if_pos rfl, hD n hn, hD k (by omega), if_neg (fun z => q4 ((dM_inj hv he n k (e 60) (Nat.le_refl _)).mp (Eq.mp (lgc_z (by omega) (by omega)) z))), nI_1]
                exact hX
            · refine step true ⟨fun _ => ⟨rfl, fun _ z => absurd z q3⟩, fun _ => rfl⟩ (fun X hX => ?_)
              unfold f_X8_isEnough_15
              rw [if_neg (nI_ge (by omega) (by omega)), gd_ix (by omega) (by decide), nI_clamp (by omega), hW n hn, if_neg z1, if_neg (by decide), gd_ix (by omega) (by decide), nI_clamp (by omega), hW k (by omega), if_neg z2, nI_and, nI_and, if_neg (fun z => q3 ((nI_eq (a := n &&& s) (b := k &&& s) (by omega) (by omega)).mp z)), nI_1]
              exact hX
theorem m_en4 {v e : Nat → Nat} {W D : Nat → Int64} (hv : Vd v) (he : Ve v e) (hW : MW v W) (hD : DM v e (nn v) D) {N : Nat} (hN : 2000 ≤ N) {s : Nat} (hs : s < 64) : ∀ d f k b, k + d = nn v → d < f → ∃ b', f_X8_isEnough_4 N (nI s) (nI (dc v)) W D f (b2 b) (nI k) = some (b2 b') ∧ (b' = true ↔ b = true ∧ ∀ n, k ≤ n → n < nn v → ∀ m, m < n → 0 < wt v n → 0 < wt v m → n &&& s = m &&& s → sD v e n m)
  | 0, f, k, b, hk, hf => by
    have h64 := nn_le hv
    cases f with
    | zero => omega
    | succ f =>
      refine ⟨b, ?_, fun z => ⟨z, fun m h1 h2 => by omega⟩, fun z => z.1⟩
      unfold f_X8_isEnough_4
      rw [n_there hv, bd_s, if_pos (nI_le (by omega) (by omega))]
  | d + 1, f, k, b, hk, hf => by
    have h64 := nn_le hv
    cases f with
    | zero => omega
    | succ f =>
      obtain ⟨c, r1, r2⟩ := m_en15 hv he hW hD hs (n := k) (by omega) k N 0 b (by omega) (by omega)
      have r1' : f_X8_isEnough_15 (nI s) (nI k) W D N (b2 b) (0 : Int32) = some (b2 c) := r1
      obtain ⟨b', g1, g2⟩ := m_en4 hv he hW hD hN hs d f (k + 1) c (by omega) (by omega)
      refine ⟨b', ?_, g2.trans ⟨fun z => ⟨(r2.mp z.1).1, fun n h1 h2 m h3 => ?_⟩, fun z => ⟨r2.mpr ⟨z.1, fun m _ h2 => z.2 k (by omega) (by omega) m h2⟩, fun n h1 h2 => z.2 n (by omega) h2⟩⟩⟩
      · unfold f_X8_isEnough_4
        rw [n_there hv, bd_s, if_neg (nI_ge (by omega) (by omega)), r1', bd_s, nI_1]
        exact g1
      · by_cases y : n = k
        · subst y; exact (r2.mp z.1).2 m (by omega) h3
        · exact z.2 n (by omega) h2 m h3
theorem m_enough {v e : Nat → Nat} {W D : Nat → Int64} (hv : Vd v) (he : Ve v e) (hW : MW v W) (hD : DM v e (nn v) D) {N : Nat} (hN : 2000 ≤ N) {s : Nat} (hs : s < 64) : ∃ b, f_X8_isEnough N (nI (dc v)) W D (nI s) = some (b2 b) ∧ (b = true ↔ Eno v e s) := by
  have h64 := nn_le hv
  obtain ⟨b, g1, g2⟩ := m_en4 hv he hW hD hN hs (nn v) N 0 true (by omega) (by omega)
  have g1' : f_X8_isEnough_4 N (nI s) (nI (dc v)) W D N (1 : Int32) (0 : Int32) = some (b2 b) := g1
  refine ⟨b, ?_, g2.trans ⟨fun z n m h1 h2 => z.2 n (by omega) h2 m h1, fun z => ⟨rfl, fun n _ h2 m h1 => z n m h1 h2⟩⟩⟩
  unfold f_X8_isEnough
  rw [g1', bd_s, isb_b2, gd_tt]
def btr (r s : Nat) : Prop := bcn r < bcn s ∨ (bcn r = bcn s ∧ r ≤ s)
def Bst (v e : Nat → Nat) (r : Nat) : Prop := r < nn v ∧ Eno v e r ∧ ∀ s, s < nn v → Eno v e s → btr r s
theorem Bst_one {v e : Nat → Nat} {r r' : Nat} (h : Bst v e r) (h' : Bst v e r') : r = r' := by
  have a := h.2.2 r' h'.1 h'.2.1
  have b := h'.2.2 r h.1 h.2.1
  unfold btr at a b
  omega
theorem top_eno (v e : Nat → Nat) : Eno v e (nn v - 1) := fun n m h1 h2 _ _ h5 => by
  have e1 : n &&& (nn v - 1) = n := by rw [show nn v = 2 ^ dc v from rfl, Nat.and_two_pow_sub_one_eq_mod]; exact Nat.mod_eq_of_lt h2
  have e2 : m &&& (nn v - 1) = m := by rw [show nn v = 2 ^ dc v from rfl, Nat.and_two_pow_sub_one_eq_mod]; exact Nat.mod_eq_of_lt (Nat.lt_trans h1 h2)
  rw [e1, e2] at h5
  omega
theorem c_fw20 {v e : Nat → Nat} {T : Nat → Int32} (hv : Vd v) (hT : TLp v e (nn v) 0 T) {N : Nat} (hN : 2000 ≤ N) : ∀ d f k x, k + d = nn v → d < f → x < nn v → Eno v e x → (∀ s, s < k → Eno v e s → btr x s) → (x < k ∨ x = nn v - 1) → ∃ r, f_X1_fewestThatSettle_20 N T (nI (dc v)) f (nI x) (nI k) = some (nI r) ∧ Bst v e r
  | 0, f, k, x, hk, hf, hx, h1, h2, h3 => by
    have h64 := nn_le hv
    cases f with
    | zero => omega
    | succ f =>
      refine ⟨x, ?_, hx, h1, fun s hs => h2 s (by omega)⟩
      unfold f_X1_fewestThatSettle_20
      rw [c_size hv, bd_s, if_pos (nI_le (by omega) (by omega))]
  | d + 1, f, k, x, hk, hf, hx, h1, h2, h3 => by
    have h64 := nn_le hv
    have l1 := bcn_le k
    have l2 := bcn_le x
    cases f with
    | zero => omega
    | succ f =>
      obtain ⟨b, s1, s2⟩ := c_settles hv hT hN (s := k) (by omega)
      by_cases q : bcn x ≤ bcn k
      · obtain ⟨r, g1, g2⟩ := c_fw20 hv hT hN d f (k + 1) x (by omega) (by omega) hx h1 (fun s hs hE => by
          by_cases y : s = k
          · rw [y]
            unfold btr
            rcases h3 with z | z
            · omega
            · rw [z] at q ⊢
              have := bcn_top hv (k := k) (by omega) q
              rw [← this]; exact Or.inr ⟨rfl, Nat.le_refl _⟩
          · exact h2 s (by omega) hE) (by omega)
        refine ⟨r, ?_, g2⟩
        unfold f_X1_fewestThatSettle_20
        rw [c_size hv, bd_s, if_neg (nI_ge (by omega) (by omega)), c_bc (by omega), bd_s, c_bc (by omega), bd_s, if_pos (nI_le (by omega) (by omega)), bd_s, nI_1]
        exact g1
      · cases b with
        | false =>
          obtain ⟨r, g1, g2⟩ := c_fw20 hv hT hN d f (k + 1) x (by omega) (by omega) hx h1 (fun s hs hE => by
            by_cases y : s = k
            · rw [y] at hE; exact absurd (s2.mpr hE) (by decide)
            · exact h2 s (by omega) hE) (by omega)
          refine ⟨r, ?_, g2⟩
          unfold f_X1_fewestThatSettle_20
          rw [c_size hv, bd_s, if_neg (nI_ge (by omega) (by omega)), c_bc (by omega), bd_s, c_bc (by omega), bd_s, if_neg (nI_ge (by omega) (by omega)), s1, bd_s, if_pos (by decide), bd_s, nI_1]
          exact g1
        | true =>
          obtain ⟨r, g1, g2⟩ := c_fw20 hv hT hN d f (k + 1) k (by omega) (by omega) (by omega) (s2.mp rfl) (fun s hs hE => by
            by_cases y : s = k
            · rw [y]; exact Or.inr ⟨rfl, Nat.le_refl _⟩
            · have := h2 s (by omega) hE
              unfold btr at this ⊢
              omega) (by omega)
          refine ⟨r, ?_, g2⟩
          unfold f_X1_fewestThatSettle_20
          rw [c_size hv, bd_s, if_neg (nI_ge (by omega) (by omega)), c_bc (by omega), bd_s, c_bc (by omega), bd_s, if_neg (nI_ge (by omega) (by omega)), s1, bd_s, if_neg (by decide), bd_s, nI_1]
          exact g1
theorem m_wi23 {v e : Nat → Nat} {W D : Nat → Int64} (hv : Vd v) (he : Ve v e) (hW : MW v W) (hD : DM v e (nn v) D) {N : Nat} (hN : 2000 ≤ N) : ∀ k f x, k < nn v → k + 1 < f → x < nn v → Eno v e x → (∀ s, k < s → s < nn v → Eno v e s → btr x s) → ∃ r, f_X8_witnesses_23 N (nI (dc v)) W D f (nI x) (nI k) = some (nI r) ∧ Bst v e r := fun k => by
  have h64 := nn_le hv
  have one : ∀ k f x, k < nn v → x < nn v → Eno v e x → (∀ s, k < s → s < nn v → Eno v e s → btr x s) → ∃ x', x' < nn v ∧ Eno v e x' ∧ (∀ s, k ≤ s → s < nn v → Eno v e s → btr x' s) ∧ f_X8_witnesses_23 N (nI (dc v)) W D (f + 1) (nI x) (nI k) = f_X8_witnesses_23 N (nI (dc v)) W D f (nI x') (nI k + -nI 1) := fun k f x hk hx h1 h2 => by
    have l1 := bcn_le k
    have l2 := bcn_le x
    obtain ⟨b, s1, s2⟩ := m_enough hv he hW hD hN (s := k) (by omega)
    have np : ¬ nI k < (0 : Int32) := nI_pos (by omega)
    cases b with
    | false =>
      refine ⟨x, hx, h1, fun s a1 a2 hE => ?_, ?_⟩
      · by_cases y : s = k
        · rw [y] at hE; exact absurd (s2.mpr hE) (by decide)
        · exact h2 s (by omega) a2 hE
      · conv => lhs; unfold f_X8_witnesses_23
        rw [if_neg np, s1, bd_s, if_pos (by decide), bd_s]; rfl
    | true =>
      by_cases q : bcn x < bcn k
      · refine ⟨x, hx, h1, fun s a1 a2 hE => ?_, ?_⟩
        · by_cases y : s = k
          · rw [y]; exact Or.inl q
          · exact h2 s (by omega) a2 hE
        · conv => lhs; unfold f_X8_witnesses_23
          rw [if_neg np, s1, bd_s, if_neg (by decide), m_bc hN (by omega), bd_s, m_bc hN (by omega), bd_s, if_pos ((nI_ltI (by omega) (by omega)).mpr q), bd_s]; rfl
      · refine ⟨k, hk, s2.mp rfl, fun s a1 a2 hE => ?_, ?_⟩
        · by_cases y : s = k
          · rw [y]; exact Or.inr ⟨rfl, Nat.le_refl _⟩
          · have := h2 s (by omega) a2 hE
            unfold btr at this ⊢
            omega
        · conv => lhs; unfold f_X8_witnesses_23
          rw [if_neg np, s1, bd_s, if_neg (by decide), m_bc hN (by omega), bd_s, m_bc hN (by omega), bd_s, if_neg (fun z => q ((nI_ltI (by omega) (by omega)).mp z)), bd_s]; rfl
  induction k with
  | zero =>
    intro f x hk hf hx h1 h2
    obtain ⟨f, rfl⟩ : ∃ g, f = g + 2 := ⟨f - 2, by omega⟩
    obtain ⟨x', a1, a2, a3, a4⟩ := one 0 (f + 1) x hk hx h1 h2
    refine ⟨x', ?_, a1, a2, fun s hs => a3 s (by omega) hs⟩
    rw [a4]
    unfold f_X8_witnesses_23
    rw [if_pos (by decide)]
  | succ k ih =>
    intro f x hk hf hx h1 h2
    obtain ⟨f, rfl⟩ : ∃ g, f = g + 1 := ⟨f - 1, by omega⟩
    obtain ⟨x', a1, a2, a3, a4⟩ := one (k + 1) f x hk hx h1 h2
    obtain ⟨r, g1, g2⟩ := ih f x' (by omega) (by omega) a1 a2 (fun s b1 b2 => a3 s (by omega) b2)
    refine ⟨r, ?_, g2⟩
    rw [a4, nI_add1]
    exact g1
theorem m_wi62 {v : Nat → Nat} (hv : Vd v) {doubts : Nat → Int32} (hd : ∀ i, i < dc v → doubts i = nI (dh v i)) {n : Nat} (hn : n < 64) : ∀ d f k, k + d = dc v → d < f → f_X8_witnesses_62 (nI n) doubts (nI (dc v)) f (nI (bod v n k)) (nI k) = some (nI (bod v n (dc v)))
  | 0, f, k, hk, hf => by
    have h6 := vd_dc hv
    cases f with
    | zero => omega
    | succ f =>
      unfold f_X8_witnesses_62
      rw [if_pos (nI_le (by omega) (by omega)), show k = dc v by omega]
  | d + 1, f, k, hk, hf => by
    have h6 := vd_dc hv
    have h3 := vd_3 hv
    cases f with
    | zero => omega
    | succ f =>
      have hdk := (dh_is (v := v) (k := k) (by omega)).1
      have ih := m_wi62 hv hd hn d f (k + 1) (by omega) (by omega)
      unfold f_X8_witnesses_62
      rw [if_neg (nI_ge (by omega) (by omega)), gd_ix (by omega) (by decide), nI_clamp (by omega), hd k (by omega), show (31 : Int32) = nI 31 from rfl, show (1 : Int32) = nI 1 from rfl, nI_31 (by omega), nI_bit (by omega) (by omega), nI_31 (by omega), nI_add, ← ih]
      show _ = f_X8_witnesses_62 (nI n) doubts (nI (dc v)) f (nI (bod v n k ||| _)) (nI (k + 1))
      cases n.testBit k
      · rw [show b2 false = nI 0 from rfl, nI_shl (by omega) (by omega), Nat.zero_shiftLeft, nI_or, if_neg (by decide)]
      · rw [show b2 true = nI 1 from rfl, nI_1shl (by omega), nI_or, if_pos rfl]
set_option maxHeartbeats 16000000 in
theorem op_witnesses {N : Nat} (hN : 2000 ≤ N) : Op_witnesses Rl N := by
  intro C_isKept C_l_bsize C_l_bcells C_l_ssize C_l_scells C_l_dsize C_l_dcells C_l_people C_l_rule C_l_believed C_k_bsize C_k_bcells C_k_ssize C_k_scells C_k_dsize C_k_dcells C_k_people C_k_rule C_k_believed C_d_bsize C_d_bcells C_d_ssize C_d_scells C_d_dsize C_d_dcells C_d_people C_d_rule C_d_believed C_order C_stepsAt C_doubts C_weights C_rows C_metEver C_bowedTo C_isStale C_bowCount C_doubtCount C_seenBows C_likeliest C_mostSayingsSo C_doers C_isTelling C_tbytes C_tlen C_token C_place C_behindIt C_value C_sa_nums C_sa_bits C_sa_len C_sb_nums C_sb_bits C_sb_len C_sc_nums C_sc_bits C_sc_len C_sd_nums C_sd_bits C_sd_len C_findings M_now M_kept M_isKept M_found M_order M_doubts M_doubtMany M_weights M_worn M_pairs M_isTwice M_doer M_doneTo M_doers M_tape M_taped M_begins M_ends M_sort M_value M_isWrong M_items M_itemMany M_bowThen M_doubtThen M_deedThen M_sayingThen M_widths M_sizes M_numbers M_moved  hR 
  obtain ⟨v, e, hv, he, hm, hd, hl, hs, ht, hk0, hk1, hk2, hf, hp, sa, sb, sc, sd⟩ := hR
  obtain ⟨rfl, hlb, rfl, hls, rfl, hld, rfl, rfl, rfl⟩ := hl
  have h3 := vd_3 hv
  have h6 := vd_dc hv
  have h64 := nn_le hv
  have hpos := nn_pos v
  obtain ⟨o_, s_, d_, w_, r_, m_, b_, k_, n_, q_, l_, x_, ef, tb⟩ := c_look hlb hls hv hN C_order C_stepsAt C_doubts C_weights C_rows C_metEver C_bowedTo C_isStale C_bowCount C_doubtCount C_seenBows C_likeliest C_mostSayingsSo hs ht
  have tbb := tb
  obtain ⟨tb1, tb2, rfl, tb4, rfl, tb6, tb7, tb8, rfl, rfl⟩ := tb
  obtain ⟨mo, md, mw, mwo, mp, mt, em, ml, mW⟩ := m_weigh hm hv hN M_order M_doubts M_doubtMany M_weights M_worn M_pairs M_isTwice
  obtain ⟨D1, x1, x2⟩ := c_nd2 hv he hld tb2 tb6 tb7 hN (nn v) N 0 C_doers (by omega) (by omega) (fun n hn => absurd hn (Nat.not_lt_zero _))
  obtain ⟨T1, y1, y2⟩ := c_tl hv he x2 hN C_isTelling
  obtain ⟨r, z1, z2⟩ := c_fw20 hv y2 hN (nn v) N 0 (nn v - 1) (by omega) (by omega) (by omega) (top_eno v e) (fun s hs => absurd hs (Nat.not_lt_zero _)) (Or.inr rfl)
  obtain ⟨w2, p2, t2, A2, B2, R2, u1, u2⟩ := m_fa2 hm hd hv he hN ml (nn v) N 0 mwo mp mt M_doer M_doneTo M_doers (by omega) (by omega) (fun n hn => absurd hn (Nat.not_lt_zero _))
  obtain ⟨r', i1, i2⟩ := m_wi23 hv he mW u2 hN (nn v - 1) N (nn v - 1) (by omega) (by omega) (by omega) (top_eno v e) (fun s a b => by omega)
  obtain rfl := Bst_one z2 i2
  have hn1 : nI (nn v) - nI 1 = nI (nn v - 1) := by
    obtain ⟨k, hk⟩ : ∃ k, nn v = k + 1 := ⟨nn v - 1, by omega⟩
    rw [hk, nI_sub1]; rfl
  have x1' : f_X1_noteDoers_2 N s_ w_ r_ (nI (dc v)) (nI (e 60)) C_l_dcells N (nI 0) C_doers = some D1 := x1
  have c1 := c_bod hv tb4 (n := r) hN (by have := z2.1; omega)
  have m1 : f_X8_witnesses_62 (nI r) md (nI (dc v)) N (nI 0) (nI 0) = some (nI (bod v r (dc v))) := m_wi62 hv ml.2.2 (by have := z2.1; omega) (dc v) N 0 (by omega) (by omega)
  simp only [f_X7_witnesses, f_X8_witnesses, f_X1_fewestThatSettle, f_X1_noteDoers, f_X8_findAllDoers, lit32, ef, em, bd_s, x1', y1, c_size hv, n_there hv, hn1, z1, u1, i1, c1, m1]
  refine ⟨_, _, rfl, rfl, rfl, ?_⟩; exact ⟨v, e, hv, he, hm, hd, ⟨rfl, hlb, rfl, hls, rfl, hld, rfl, rfl, rfl⟩, Or.inl rfl, fun _ => tbb, hk0, hk1, hk2, hf, hp, sa, sb, sc, sd⟩
