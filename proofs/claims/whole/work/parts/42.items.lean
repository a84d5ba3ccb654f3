/-! ===== an item ===== -/
def kl (o : Nat) : Nat → Int32
  | 0 => -1
  | k + 1 => if kidx k = o then nI k else kl o k
theorem kidx_17 (k : Nat) : kidx k < 17 := by unfold kidx; split <;> decide
theorem m_kind4 {N : Nat} {tp : Nat → Int32} {b e s : Int32} {o : Nat} (x9 : ∀ a, a < 17 → f_X8_isWord N tp b e s a = some (b2 (decide (a = o)))) : ∀ d f k, k + d = 6 → d < f → f_X8_kindTold_4 N tp b e s f (kl o k) (nI k) = some (kl o 6)
  | 0, f, k, hk, hf => by
    cases f with
    | zero => omega
    | succ f =>
      unfold f_X8_kindTold_4
      rw [show k = 6 by omega, if_pos (show (6 : Int32) ≤ nI 6 by decide)]
  | d + 1, f, k, hk, hf => by
    cases f with
    | zero => omega
    | succ f =>
      have ih := m_kind4 x9 d f (k + 1) (by omega) (by omega)
      unfold f_X8_kindTold_4
      rw [if_neg (show ¬ (6 : Int32) ≤ nI k from nI_ge (b := 6) (by omega) (by omega)), gd_ix (by omega) (by decide), nI_clamp (by omega), x9 _ (kidx_17 k), bd_s, nI_1]
      unfold kl at ih
      by_cases q : kidx k = o
      · rw [if_neg (b2d_t q), bd_s]; rw [if_pos q] at ih; exact ih
      · rw [if_pos (b2d_f q), bd_s]; rw [if_neg q] at ih; exact ih
theorem m_kind {N : Nat} (hN : 2000 ≤ N) {tp : Nat → Int32} {b e s : Int32} {o : Nat} (x9 : ∀ a, a < 17 → f_X8_isWord N tp b e s a = some (b2 (decide (a = o)))) : f_X8_kindTold N tp b e s = some (kl o 6) := by
  unfold f_X8_kindTold
  rw [show f_X8_kindTold_4 N tp b e s N (-1) (0 : Int32) = some (kl o 6) from m_kind4 x9 6 N 0 (by omega) (by omega), bd_s]
theorem kl_none {o : Nat} (h : ∀ k, k < 6 → kidx k ≠ o) : kl o 6 = -1 := by
  unfold kl; rw [if_neg (h 5 (by omega))]
  unfold kl; rw [if_neg (h 4 (by omega))]
  unfold kl; rw [if_neg (h 3 (by omega))]
  unfold kl; rw [if_neg (h 2 (by omega))]
  unfold kl; rw [if_neg (h 1 (by omega))]
  unfold kl; rw [if_neg (h 0 (by omega))]
  rfl
theorem kl_at : ∀ j : Fin 6, kl (kidx j.val) 6 = nI j.val := by decide
theorem kidx_inj : ∀ i j : Fin 6, kidx i.val = kidx j.val → i = j := by decide
theorem kidx_not : ∀ j : Fin 6, kidx j.val ≠ 0 ∧ kidx j.val ≠ 2 ∧ kidx j.val ≠ 5 ∧ kidx j.val ≠ 8 := by decide
theorem nameOf0 : ∀ j : Fin 6, f_X3_nameOf (nI j.val) = some (kidx j.val) := by decide
theorem c_item60 {N : Nat} {tb : Nat → Int32} {tok p q n x : Int32} {o : Nat} (x8 : ∀ a, a < 17 → f_X3_isWord N tok p q tb n a = some (b2 (decide (a = o)))) {bs ss ds pe ru be : Int32} {bc sc dcl : Nat → Int32} {K : Unit → Option (Int32 × Int32 × Int32 × Int32 × Int32 × Int32 × (Nat → Int32) × Int32 × (Nat → Int32) × Int32 × (Nat → Int32) × Int32 × Int32)} {j : Nat} (hj : j < 6) (ho : kidx j = o) : ∀ d f k, k + d = j → d < f → f_X3_item_60 N tok p q x tb n bs bc ss sc ds dcl pe ru be K f (nI k) = bd (f_X3_deedItem N tok p q x tb n ds dcl pe (nI j)) (fun u_14 => (gd (isb u_14.1) (some (u_14.1, u_14.2.1, u_14.2.2.1, u_14.2.2.2.1, u_14.2.2.2.2.1, bs, bc, ss, sc, u_14.2.2.2.2.2.1, u_14.2.2.2.2.2.2, ru, be))))
  | 0, f, k, hk, hf => by
    cases f with
    | zero => omega
    | succ f =>
      have hkj : k = j := by omega
      subst hkj
      unfold f_X3_item_60
      rw [if_neg (show ¬ (6 : Int32) ≤ nI k from nI_ge (b := 6) (by omega) (by omega)), nameOf0 ⟨k, hj⟩, bd_s]
      dsimp only
      rw [decide_eq_true (kidx_17 k), gd_tt, x8 _ (kidx_17 k), bd_s, if_neg (b2d_t ho)]
  | d + 1, f, k, hk, hf => by
    cases f with
    | zero => omega
    | succ f =>
      have ih := c_item60 (x := x) (bs := bs) (ss := ss) (ds := ds) (pe := pe) (ru := ru) (be := be) (bc := bc) (sc := sc) (dcl := dcl) (K := K) x8 hj ho d f (k + 1) (by omega) (by omega)
      rw [← ih]
      have hne : ¬ kidx k = o := fun z => by
        have := kidx_inj ⟨k, by omega⟩ ⟨j, hj⟩ (z.trans ho.symm)
        have := congrArg Fin.val this
        dsimp only at this
        omega
      conv => lhs; unfold f_X3_item_60
      rw [if_neg (show ¬ (6 : Int32) ≤ nI k from nI_ge (b := 6) (by omega) (by omega)), nameOf0 ⟨k, by omega⟩, bd_s]
      dsimp only
      rw [decide_eq_true (kidx_17 k), gd_tt, x8 _ (kidx_17 k), bd_s, if_pos (b2d_f hne), nI_1]
theorem c_item60n {N : Nat} {tb : Nat → Int32} {tok p q n x : Int32} {o : Nat} (x8 : ∀ a, a < 17 → f_X3_isWord N tok p q tb n a = some (b2 (decide (a = o)))) {bs ss ds pe ru be : Int32} {bc sc dcl : Nat → Int32} {K : Unit → Option (Int32 × Int32 × Int32 × Int32 × Int32 × Int32 × (Nat → Int32) × Int32 × (Nat → Int32) × Int32 × (Nat → Int32) × Int32 × Int32)} (hno : ∀ k, k < 6 → kidx k ≠ o) : ∀ d f k, k + d = 6 → d < f → f_X3_item_60 N tok p q x tb n bs bc ss sc ds dcl pe ru be K f (nI k) = K ()
  | 0, f, k, hk, hf => by
    cases f with
    | zero => omega
    | succ f =>
      unfold f_X3_item_60
      rw [show k = 6 by omega, if_pos (show (6 : Int32) ≤ nI 6 by decide)]
  | d + 1, f, k, hk, hf => by
    cases f with
    | zero => omega
    | succ f =>
      have ih := c_item60n (x := x) (bs := bs) (ss := ss) (ds := ds) (pe := pe) (ru := ru) (be := be) (bc := bc) (sc := sc) (dcl := dcl) (K := K) x8 hno d f (k + 1) (by omega) (by omega)
      rw [← ih]
      conv => lhs; unfold f_X3_item_60
      rw [if_neg (show ¬ (6 : Int32) ≤ nI k from nI_ge (b := 6) (by omega) (by omega)), nameOf0 ⟨k, by omega⟩, bd_s]
      dsimp only
      rw [decide_eq_true (kidx_17 k), gd_tt, x8 _ (kidx_17 k), bd_s, if_pos (b2d_f (hno k (by omega))), nI_1]
/-- what an item of the reference comes to -/
theorem m_isSo {now it : Nat → Int32} {m : Nat} (hm : m < 120) {k0 k1 k2 k3 k4 : Int32} (h0 : it (6 * m) = k0) (h1 : it (6 * m + 1) = k1) (h2 : it (6 * m + 2) = k2) (h3 : it (6 * m + 3) = k3) (h4 : it (6 * m + 4) = k4) : f_X8_isSo now it (nI (6 * m)) = (if k0 = 10 then (bd (f_X8_bowed now k1 k2 k3 k4) (fun u_12 => some u_12.2)) else (if k0 = 11 then (bd (f_X8_said now k1 k2 k3 k4) (fun u_11 => some u_11.2)) else (if k0 = 12 then (gd (ix (1 + k1) 186) (some (upd now (1 + k1).toNatClampNeg k2))) else (bd (f_X8_done now k0 k1 k2 k3 k4) (fun u_9 => some u_9.2))))) := by
  unfold f_X8_isSo
  rw [show nI (6 * m) + 1 = nI (6 * m + 1) from nI_add _ _, show nI (6 * m) + 2 = nI (6 * m + 2) from nI_add _ _, show nI (6 * m) + 3 = nI (6 * m + 3) from nI_add _ _, show nI (6 * m) + 4 = nI (6 * m + 4) from nI_add _ _, gd_ix (by omega) (by decide), gd_ix (by omega) (by decide), gd_ix (by omega) (by decide), gd_ix (by omega) (by decide), gd_ix (by omega) (by decide), nI_clamp (by omega), nI_clamp (by omega), nI_clamp (by omega), nI_clamp (by omega), nI_clamp (by omega), h0, h1, h2, h3, h4]
theorem it6_at (it : Nat → Int32) (m : Nat) (a b c d e f : Int32) : it6 it m a b c d e f (6 * m) = a ∧ it6 it m a b c d e f (6 * m + 1) = b ∧ it6 it m a b c d e f (6 * m + 2) = c ∧ it6 it m a b c d e f (6 * m + 3) = d ∧ it6 it m a b c d e f (6 * m + 4) = e := by
  unfold it6
  refine ⟨?_, ?_, ?_, ?_, ?_⟩
  · rw [pk_un (by omega), pk_un (by omega), pk_un (by omega), pk_un (by omega), pk_un (by omega), pk_us]
  · rw [pk_un (by omega), pk_un (by omega), pk_un (by omega), pk_un (by omega), pk_us]
  · rw [pk_un (by omega), pk_un (by omega), pk_un (by omega), pk_us]
  · rw [pk_un (by omega), pk_un (by omega), pk_us]
  · rw [pk_un (by omega), pk_us]
theorem it6_old (it : Nat → Int32) (m : Nat) (a b c d e f : Int32) {j : Nat} (hj : j < 6 * m) : it6 it m a b c d e f j = it j := by
  unfold it6
  rw [pk_un (by omega), pk_un (by omega), pk_un (by omega), pk_un (by omega), pk_un (by omega), pk_un (by omega)]
def DS (v v' e' : Nat → Nat) (bs : Int32) (bc : Nat → Int32) (ss : Int32) (sc : Nat → Int32) (ds : Int32) (dcl : Nat → Int32) (ru be : Int32) : Prop := Vd v' ∧ Ve v e' ∧ v' 0 = v 0 ∧ bs = nI (v' 3) ∧ (∀ j, j < 80 → bc j = nI (v' (6 + j))) ∧ ss = nI (v' 5) ∧ (∀ j, j < 40 → sc j = nI (v' (146 + j))) ∧ ds = nI (e' 60) ∧ (∀ j, j < 60 → dcl j = nI (e' j)) ∧ ru = nI (v' 1) ∧ be = nI (v' 2)
def IS6 (v' e' v'' e'' : Nat → Nat) (items : Nat → Int32) (m : Nat) : Prop := ∀ now1 it1, RN v' now1 → RE e' now1 → (∀ j, j < 6 * (m + 1) → it1 j = items j) → ∃ now2, f_X8_isSo now1 it1 (nI (6 * m)) = some now2 ∧ RN v'' now2 ∧ RE e'' now2
theorem is_bow {v' e' : Nat → Nat} {items : Nat → Int32} {m : Nat} (hm : m < 120) (h3 : v' 3 < 20) {hh a b tt : Nat} (g1 : hh < 1000) (g2 : a < 1000) (g3 : b < 1000) (g4 : tt < 1000) : IS6 v' e' (adB v' hh a b tt) e' (it6 items m 10 (nI hh) (nI a) (nI b) (nI tt) 0) m := by
  intro now1 it1 r1 r2 hi
  obtain ⟨now2, b1, b2, b3⟩ := m_bowed r1 r2 h3 g1 g2 g3 g4
  obtain ⟨i0, i1, i2, i3, i4⟩ := it6_at items m 10 (nI hh) (nI a) (nI b) (nI tt) 0
  refine ⟨now2, ?_, b2, b3⟩
  rw [m_isSo hm ((hi _ (by omega)).trans i0) ((hi _ (by omega)).trans i1) ((hi _ (by omega)).trans i2) ((hi _ (by omega)).trans i3) ((hi _ (by omega)).trans i4), if_pos rfl, b1, bd_s]
theorem is_say {v' e' : Nat → Nat} {items : Nat → Int32} {m : Nat} (hm : m < 120) (h3 : v' 5 < 10) {hh a b tt : Nat} (g1 : hh < 1000) (g2 : a < 1000) (g3 : b < 1000) (g4 : tt < 1000) : IS6 v' e' (adS v' hh a b tt) e' (it6 items m 11 (nI hh) (nI a) (nI b) (nI tt) 0) m := by
  intro now1 it1 r1 r2 hi
  obtain ⟨now2, b1, b2, b3⟩ := m_said r1 r2 h3 g1 g2 g3 g4
  obtain ⟨i0, i1, i2, i3, i4⟩ := it6_at items m 11 (nI hh) (nI a) (nI b) (nI tt) 0
  refine ⟨now2, ?_, b2, b3⟩
  rw [m_isSo hm ((hi _ (by omega)).trans i0) ((hi _ (by omega)).trans i1) ((hi _ (by omega)).trans i2) ((hi _ (by omega)).trans i3) ((hi _ (by omega)).trans i4), if_neg (by decide), if_pos rfl, b1, bd_s]
theorem is_deed {v' e' : Nat → Nat} {items : Nat → Int32} {m : Nat} (hm : m < 120) (h3 : e' 60 < 12) {k hh a b tt : Nat} (g0 : k < 6) (g1 : hh < 1000) (g2 : a < 1000) (g3 : b < 1000) (g4 : tt < 1000) : IS6 v' e' v' (adD e' k hh a b tt) (it6 items m (nI k) (nI hh) (nI a) (nI b) (nI tt) 0) m := by
  intro now1 it1 r1 r2 hi
  obtain ⟨now2, b1, b2, b3⟩ := m_done r1 r2 h3 (k := k) (by omega) g1 g2 g3 g4
  obtain ⟨i0, i1, i2, i3, i4⟩ := it6_at items m (nI k) (nI hh) (nI a) (nI b) (nI tt) 0
  have ne : ∀ z : Nat, 6 ≤ z → z < 2 ^ 31 → ¬ nI k = nI z := fun z h1 h2 w => by have := (nI_eq (by omega) h2).mp w; omega
  refine ⟨now2, ?_, b2, b3⟩
  rw [m_isSo hm ((hi _ (by omega)).trans i0) ((hi _ (by omega)).trans i1) ((hi _ (by omega)).trans i2) ((hi _ (by omega)).trans i3) ((hi _ (by omega)).trans i4), if_neg (show ¬ nI k = (10 : Int32) from ne 10 (by decide) (by decide)), if_neg (show ¬ nI k = (11 : Int32) from ne 11 (by decide) (by decide)), if_neg (show ¬ nI k = (12 : Int32) from ne 12 (by decide) (by decide)), b1, bd_s]
theorem is_sw {v' e' : Nat → Nat} {items : Nat → Int32} {m : Nat} (hm : m < 120) {k z : Nat} (g0 : k < 2) (g1 : z < 1000) : IS6 v' e' (un v' (1 + k) z) e' (it6 items m 12 (nI k) (nI z) 0 0 0) m := by
  intro now1 it1 r1 r2 hi
  obtain ⟨i0, i1, i2, i3, i4⟩ := it6_at items m 12 (nI k) (nI z) 0 0 0
  refine ⟨upd now1 (1 + k) (nI z), ?_, rn_set r1 g1, re_night r2 (by omega) (by omega)⟩
  rw [m_isSo hm ((hi _ (by omega)).trans i0) ((hi _ (by omega)).trans i1) ((hi _ (by omega)).trans i2) ((hi _ (by omega)).trans i3) ((hi _ (by omega)).trans i4), if_neg (by decide), if_neg (by decide), if_pos rfl, show (1 : Int32) + nI k = nI (1 + k) from nI_add 1 k, gd_ix (by omega) (by decide), nI_clamp (by omega)]
theorem vd_sw {v : Nat → Nat} (hv : Vd v) {k x : Nat} (hk : k < 2) (hx : x ≤ 1) : Vd (un v (1 + k) x) := by
  have e : ∀ j, j ≠ 1 + k → un v (1 + k) x j = v j := fun j hj => un_n hj
  have hd : dc (un v (1 + k) x) = dc v := by
    unfold dc; rw [e 3 (by omega)]; exact dbc_congr (v 3) (fun b hb => e _ (by omega))
  have hkk : un v (1 + k) x (1 + k) = x := un_s
  refine ⟨by rw [e 0 (by omega)]; exact vd_lo hv, by rw [e 0 (by omega)]; exact vd_hi hv, ?_, ?_, by rw [e 3 (by omega)]; exact vd_3 hv, by rw [e 5 (by omega)]; exact vd_5 hv, by rw [hd]; exact vd_dc hv, fun b hb => ?_, fun s hs => ?_⟩
  · by_cases q : k = 0
    · subst q; exact Nat.le_trans (Nat.le_of_eq hkk) hx
    · rw [e 1 (by omega)]; exact vd_1 hv
  · by_cases q : k = 1
    · subst q; exact Nat.le_trans (Nat.le_of_eq hkk) hx
    · rw [e 2 (by omega)]; exact vd_2 hv
  · rw [e 3 (by omega)] at hb
    rw [e _ (by omega), e _ (by omega), e _ (by omega), e _ (by omega), e _ (by omega)]
    exact vd_b hv b hb
  · rw [e 5 (by omega)] at hs
    rw [e _ (by omega), e _ (by omega), e _ (by omega), e _ (by omega), e _ (by omega)]
    exact vd_s hv s hs
