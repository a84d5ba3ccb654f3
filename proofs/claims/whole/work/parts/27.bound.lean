/-! ===== owesTo, bound ===== -/
theorem lkl_pos {v : Nat → Nat} {b : Nat} (h : lkl v = some b) : 0 < wt v b := (bst_lt v (nn v) b h).2
set_option maxHeartbeats 16000000 in
theorem op_owesTo {N : Nat} (hN : 2000 ≤ N) : Op_owesTo Rl N := by
  intro C_isKept C_l_bsize C_l_bcells C_l_ssize C_l_scells C_l_dsize C_l_dcells C_l_people C_l_rule C_l_believed C_k_bsize C_k_bcells C_k_ssize C_k_scells C_k_dsize C_k_dcells C_k_people C_k_rule C_k_believed C_d_bsize C_d_bcells C_d_ssize C_d_scells C_d_dsize C_d_dcells C_d_people C_d_rule C_d_believed C_order C_stepsAt C_doubts C_weights C_rows C_metEver C_bowedTo C_isStale C_bowCount C_doubtCount C_seenBows C_likeliest C_mostSayingsSo C_doers C_isTelling C_tbytes C_tlen C_token C_place C_behindIt C_value C_sa_nums C_sa_bits C_sa_len C_sb_nums C_sb_bits C_sb_len C_sc_nums C_sc_bits C_sc_len C_sd_nums C_sd_bits C_sd_len C_findings M_now M_kept M_isKept M_found M_order M_doubts M_doubtMany M_weights M_worn M_pairs M_isTwice M_doer M_doneTo M_doers M_tape M_taped M_begins M_ends M_sort M_value M_isWrong M_items M_itemMany M_bowThen M_doubtThen M_deedThen M_sayingThen M_widths M_sizes M_numbers M_moved a1 a2 hR 
  obtain ⟨v, e, hv, he, hm, hd, hl, hs, ht, hk0, hk1, hk2, hf, hp, sa, sb, sc, sd⟩ := hR
  obtain ⟨rfl, hlb, rfl, hls, rfl, hld, rfl, rfl, rfl⟩ := hl
  have h8 := vd_hi hv
  have h64 := nn_le hv
  have h60 := he.1
  by_cases h2 : (inr a1 (v 0) && inr a2 (v 0) && !decide (a1 = a2)) = true
  · have h2' := h2
    rw [Bool.and_eq_true, Bool.and_eq_true] at h2'
    obtain ⟨⟨p1, p2⟩, p3⟩ := h2'
    obtain ⟨a, ha, rfl⟩ := inr_t (by omega) p1
    obtain ⟨b, hb, rfl⟩ := inr_t (by omega) p2
    have hab : a ≠ b := by intro q; subst q; simp at p3
    obtain ⟨o_, s_, d_, w_, r_, m_, b_, k_, n_, q_, l_, x_, ef, tb⟩ := c_look hlb hls hv hN C_order C_stepsAt C_doubts C_weights C_rows C_metEver C_bowedTo C_isStale C_bowCount C_doubtCount C_seenBows C_likeliest C_mostSayingsSo hs ht
    have tbb := tb
    obtain ⟨tb1, tb2, rfl, tb4, rfl, tb6, tb7, tb8, rfl, rfl⟩ := tb
    obtain ⟨mo, md, mw, mwo, mp, mt, em, ml, mW⟩ := m_best hm hv hN M_order M_doubts M_doubtMany M_weights M_worn M_pairs M_isTwice
    cases hk : lkl v with
    | none =>
      have hz : ¬ nI 0 ≤ -nI 1 := by decide
      have es : f_X2_someHolds (-nI 1) = some (b2 false) := by have := c_some hv; rw [hk] at this; exact this
      simp (disch := omega) only [f_X7_owesTo, f_X8_owesTo, bd_s, gd_tt, jn_s, lit32, gd_ix, nI_clamp, nI_add, pk_mul, nI_leI, nI_ltI, nI_eq, b2_0n, ite_f, ↓reduceIte, Bool.false_eq_true, Bool.true_eq_false, Nat.not_lt_zero, isb_b2, c_has, c_isHour, c_isKind, c_isPerson, m_isHour, m_isKind, m_isSheet, m_w, c_rN, c_rN2, cB, cF, cK, cN, cS, cM, cZ, mB, mF, mK, mN, mS, mM, mZ, p1, p2, hab, Bool.and_self, decide_false, Bool.not_false, Bool.and_true, c_areUnlike, m_areTwo hm hv, ef, em, es, hk, show lkI none = -nI 1 from rfl, hz]
      rw [hk] at tbb
      refine ⟨_, _, rfl, rfl, rfl, ?_⟩; exact ⟨v, e, hv, he, hm, hd, ⟨rfl, hlb, rfl, hls, rfl, hld, rfl, rfl, rfl⟩, Or.inl rfl, fun _ => tbb, hk0, hk1, hk2, (rf_step hf 3 (by decide)), hp, sa, sb, sc, sd⟩
    | some n =>
      have hn := lkl_lt hk
      have es : f_X2_someHolds (nI n) = some (b2 true) := by have := c_some hv; rw [hk] at this; exact this
      obtain ⟨w2, p2', t2, A, B, g, gA⟩ := m_doers hm hd hv he hN ml hn mwo mp mt M_doer M_doneTo
      have e2 : f_X8_owesTo_43 (nI a) (nI b) M_now A B N (nI 0) (nI 0) = some (smI (owN v e n a b) (e 60)) := m_ot43 hd hv he (by omega) (by omega) gA (e 60) N 0 (by omega) (by omega)
      have e1 : f_X1_owedInNight N s_ r_ (nI (e 60)) C_l_dcells (nI n) (nI a) (nI b) = some (smI (owN v e n a b) (e 60)) := by
        unfold f_X1_owedInNight
        rw [show f_X1_owedInNight_6 (nI n) (nI a) (nI b) s_ r_ (nI (e 60)) C_l_dcells N (0 : Int32) (0 : Int32) = some (smI (owN v e n a b) (e 60)) from c_on6 hv he hld tb2 (by omega) (tb7 n hn (wt_wgt (lkl_pos hk))) (by omega) (by omega) (e 60) N 0 (by omega) (by omega), bd_s]
      simp (disch := omega) only [f_X7_owesTo, f_X8_owesTo, bd_s, gd_tt, jn_s, lit32, gd_ix, nI_clamp, nI_add, pk_mul, nI_leI, nI_ltI, nI_eq, b2_0n, ite_f, ↓reduceIte, Bool.false_eq_true, Bool.true_eq_false, Nat.not_lt_zero, isb_b2, c_has, c_isHour, c_isKind, c_isPerson, m_isHour, m_isKind, m_isSheet, m_w, c_rN, c_rN2, cB, cF, cK, cN, cS, cM, cZ, mB, mF, mK, mN, mS, mM, mZ, p1, p2, hab, Bool.and_self, decide_false, Bool.not_false, Bool.and_true, c_areUnlike, m_areTwo hm hv, ef, em, es, hk, show lkI (some n) = nI n from rfl, f_X2_likeliestNight, e1, g, e2, Nat.zero_le]
      rw [hk] at tbb
      refine ⟨_, _, rfl, rfl, rfl, ?_⟩; exact ⟨v, e, hv, he, hm, hd, ⟨rfl, hlb, rfl, hls, rfl, hld, rfl, rfl, rfl⟩, Or.inl rfl, fun _ => tbb, hk0, hk1, hk2, hf, hp, sa, sb, sc, sd⟩
  · have h2 : (inr a1 (v 0) && inr a2 (v 0) && !decide (a1 = a2)) = false := by simpa using h2
    simp (disch := omega) only [f_X7_owesTo, f_X8_owesTo, bd_s, gd_tt, jn_s, lit32, gd_ix, nI_clamp, nI_add, pk_mul, nI_leI, nI_ltI, nI_eq, b2_0n, ite_f, ↓reduceIte, Bool.false_eq_true, Bool.true_eq_false, Nat.not_lt_zero, isb_b2, c_has, c_isHour, c_isKind, c_isPerson, m_isHour, m_isKind, m_isSheet, m_w, c_rN, c_rN2, cB, cF, cK, cN, cS, cM, cZ, mB, mF, mK, mN, mS, mM, mZ, h2, c_areUnlike, m_areTwo hm hv]
    refine ⟨_, _, rfl, rfl, rfl, ?_⟩; exact ⟨v, e, hv, he, hm, hd, ⟨rfl, hlb, rfl, hls, rfl, hld, rfl, rfl, rfl⟩, hs, ht, hk0, hk1, hk2, (rf_step hf 0 (by decide)), hp, sa, sb, sc, sd⟩
def bnX (v e : Nat → Nat) (n a b k : Nat) : Bool := (btw v e n k a b || btw v e n k b a) && decide (e (5 * k + 0) = 4)
def bnd (v e : Nat → Nat) (n a b : Nat) : Nat → Bool
  | 0 => false
  | k + 1 => bnd v e n a b k || bnX v e n a b k
theorem bnd_s (v e : Nat → Nat) (n a b k : Nat) : bnd v e n a b (k + 1) = (bnd v e n a b k || bnX v e n a b k) := rfl
theorem bnd_t {v e : Nat → Nat} {n a b k : Nat} (h : bnd v e n a b k = true) : ∀ m, k ≤ m → bnd v e n a b m = true
  | 0, hm => by rw [Nat.le_zero.mp hm] at h; exact h
  | m + 1, hm => by
    by_cases q : k = m + 1
    · rw [← q]; exact h
    · rw [bnd_s, bnd_t h m (by omega)]; rfl
theorem c_ab3 {v e : Nat → Nat} {cells stepsAt rows : Nat → Int32} (hv : Vd v) (he : Ve v e) (h : ∀ j, j < 60 → cells j = nI (e j)) (hs : ∀ h, h < 100 → stepsAt h = nI (sts v h)) {n a b N : Nat} (hN : 2000 ≤ N) (hn : n < 64) (hR : RR v rows n (v 3)) (ha : a < 8) (hb : b < 8) : ∀ d f k, k + d = e 60 → d < f → bnd v e n a b k = false → f_X1_areBoundIn_3 N (nI n) (nI a) (nI b) stepsAt rows (nI (e 60)) cells (fun _ => some (0 : Int32)) f (nI k) = some (b2 (bnd v e n a b (e 60)))
  | 0, f, k, hk, hf, hB => by
    have h60 := he.1
    cases f with
    | zero => omega
    | succ f =>
      unfold f_X1_areBoundIn_3 f_X4_size
      rw [bd_s, if_pos (nI_le (by omega) (by omega)), show e 60 = k by omega, hB]; rfl
  | d + 1, f, k, hk, hf, hB => by
    have h60 := he.1
    have hx := he.2 k (by omega)
    cases f with
    | zero => omega
    | succ f =>
      unfold f_X1_areBoundIn_3 f_X4_size
      rw [bd_s, if_neg (nI_ge (by omega) (by omega)), c_binds h h60 hN (by omega) hx.1, bd_s, c_btw hv he h hs hn hR (by omega) ha hb, bd_s, c_btw hv he h hs hn hR (by omega) hb ha, bd_s]
      by_cases q4 : e (5 * k + 0) = 4
      · rw [decide_eq_true q4, if_neg (show ¬ b2 true = 0 by decide)]
        cases q1 : btw v e n k a b
        · rw [if_pos (by decide)]
          cases q2 : btw v e n k b a
          · rw [if_pos (by decide), nI_1]
            exact c_ab3 hv he h hs hN hn hR ha hb d f (k + 1) (by omega) (by omega) (by rw [bnd_s, hB]; unfold bnX; rw [q1, q2]; rfl)
          · rw [if_neg (by decide), bnd_t (k := k + 1) (by rw [bnd_s]; unfold bnX; rw [q1, q2, decide_eq_true q4]; simp) (e 60) (by omega)]; rfl
        · rw [if_neg (by decide), bnd_t (k := k + 1) (by rw [bnd_s]; unfold bnX; rw [q1, decide_eq_true q4]; simp) (e 60) (by omega)]; rfl
      · rw [decide_eq_false q4, if_pos (by decide), nI_1]
        exact c_ab3 hv he h hs hN hn hR ha hb d f (k + 1) (by omega) (by omega) (by rw [bnd_s, hB]; unfold bnX; rw [decide_eq_false q4]; simp)
def boS (v e : Nat → Nat) (a b : Nat) : Nat → Nat := smn (fun n => if bnd v e n a b (e 60) = true then wt v n else 0)
theorem boS_s (v e : Nat → Nat) (a b k : Nat) : boS v e a b (k + 1) = boS v e a b k + (if bnd v e k a b (e 60) = true then wt v k else 0) := rfl
theorem c_bo5 {v e : Nat → Nat} {cells stepsAt w rows : Nat → Int32} (hv : Vd v) (he : Ve v e) (h : ∀ j, j < 60 → cells j = nI (e j)) (hs : ∀ h, h < 100 → stepsAt h = nI (sts v h)) (hw : CW v w) (hR : ∀ n, n < nn v → 0 < wgt v n → RR v rows n (v 3)) {a b N : Nat} (hN : 2000 ≤ N) (ha : a < 8) (hb : b < 8) : ∀ d f k, k + d = nn v → d < f → f_X1_oddsOfBond_5 N (nI a) (nI b) stepsAt w rows (nI (dc v)) (nI (e 60)) cells f (lN (boS v e a b k)) (nI k) = some (lN (boS v e a b (nn v)))
  | 0, f, k, hk, hf => by
    have h64 := nn_le hv
    cases f with
    | zero => omega
    | succ f =>
      unfold f_X1_oddsOfBond_5
      rw [c_size hv, bd_s, if_pos (nI_le (by omega) (by omega)), show k = nn v by omega]
  | d + 1, f, k, hk, hf => by
    have h64 := nn_le hv
    have h60 := he.1
    have hwk := wt_le hv k
    cases f with
    | zero => omega
    | succ f =>
      have ih := c_bo5 hv he h hs hw hR hN ha hb d f (k + 1) (by omega) (by omega)
      unfold f_X1_oddsOfBond_5
      rw [c_size hv, bd_s, if_neg (nI_ge (by omega) (by omega)), c_holds hv hw (by omega), bd_s, ← ih, boS_s, c_weight hv hw (by omega), bd_s, nI_l (by omega), lN_add, nI_1]
      by_cases q : 0 < wt v k
      · have e1 : f_X1_areBoundIn N stepsAt rows (nI (e 60)) cells (nI k) (nI a) (nI b) = some (b2 (bnd v e k a b (e 60))) := c_ab3 hv he h hs hN (by omega) (hR k (by omega) (wt_wgt q)) ha hb (e 60) N 0 (by omega) (by omega) rfl
        rw [decide_eq_true q, if_neg (show ¬ b2 true = 0 by decide), e1, bd_s]
        cases bnd v e k a b (e 60)
        · rw [if_pos (by decide), bd_s, if_neg (by decide), Nat.add_zero (boS v e a b k)]
        · rw [if_neg (by decide), bd_s, if_pos rfl]
      · rw [decide_eq_false q, if_pos (show b2 false = 0 by decide), bd_s, show wt v k = 0 by omega]
        rw [show (if bnd v e k a b (e 60) = true then 0 else 0) = 0 by split <;> rfl, Nat.add_zero (boS v e a b k)]
theorem m_bo48 {v e : Nat → Nat} {now : Nat → Int32} (hd : RE e now) (hv : Vd v) (he : Ve v e) {a b n : Nat} (ha : a < 8) (hb : b < 8) {A B : Nat → Int32} (hA : ∀ j, j < e 60 → A j = nI (dDo v e n j) ∧ B j = nI (dTo v e n j)) : ∀ d f k, k + d = e 60 → d < f → f_X8_bound_48 (nI a) (nI b) now A B f (b2 (bnd v e n a b k)) (nI k) = some (b2 (bnd v e n a b (e 60)))
  | 0, f, k, hk, hf => by
    have h60 := he.1
    cases f with
    | zero => omega
    | succ f =>
      unfold f_X8_bound_48
      rw [show (4 : Int32).toNatClampNeg = 4 from rfl, hd.1, if_pos (nI_le (by omega) (by omega)), show k = e 60 by omega]
  | d + 1, f, k, hk, hf => by
    have h60 := he.1
    have hx := he.2 k (by omega)
    have la := dDo_lt (n := n) (d := k) hv he (by omega)
    have lb := dTo_lt (n := n) (d := k) hv he (by omega)
    cases f with
    | zero => omega
    | succ f =>
      have ih := m_bo48 hd hv he ha hb hA d f (k + 1) (by omega) (by omega)
      unfold f_X8_bound_48
      rw [show (4 : Int32).toNatClampNeg = 4 from rfl, hd.1, if_neg (nI_ge (by omega) (by omega)), gd_ix (by omega) (by decide), nI_clamp (by omega), show (0 : Int32) = nI 0 from rfl, m_deedIs hd (by omega) (by decide), ← ih, bnd_s]
      simp (disch := omega) only [(hA k (by omega)).1, (hA k (by omega)).2, lit32, nI_eq, b2_0n, bd_s]
      have ew : (if dDo v e n k = a then (if dTo v e n k = b then some (nI 1) else (if dDo v e n k = b then (if dTo v e n k = a then some (nI 1) else some (nI 0)) else some (nI 0))) else (if dDo v e n k = b then (if dTo v e n k = a then some (nI 1) else some (nI 0)) else some (nI 0))) = some (b2 (btw v e n k a b || btw v e n k b a)) := by
        unfold btw
        by_cases q1 : dDo v e n k = a <;> by_cases q2 : dTo v e n k = b <;> by_cases q3 : dDo v e n k = b <;> by_cases q4 : dTo v e n k = a <;> simp only [q1, q2, q3, q4, if_pos, if_neg, decide_true, decide_false, Bool.and_self, Bool.and_true, Bool.true_and, Bool.and_false, Bool.false_and, Bool.or_false, Bool.or_true, Bool.false_or, Bool.true_or, ↓reduceIte] <;> first | rfl | (split <;> rfl) | (simp_all <;> rfl)
      rw [ew, bd_s]
      unfold bnX
      have eo : ∀ x : Nat, nI k + nI 1 = nI (k + 1) := fun _ => nI_add k 1
      rw [nI_add]
      cases bnd v e n a b k
      · rw [if_pos rfl]
        cases (btw v e n k a b || btw v e n k b a)
        · rw [if_pos (by decide), bd_s]; rfl
        · rw [if_neg (by decide)]
          by_cases q4 : e (5 * k + 0) = 4
          · rw [if_pos q4, bd_s, decide_eq_true q4]; rfl
          · rw [if_neg q4, bd_s, decide_eq_false q4]; rfl
      · rw [if_neg (by decide), bd_s]; rfl
theorem m_bo27 {v e : Nat → Nat} {now : Nat → Int32} (h : RN v now) (hd : RE e now) (hv : Vd v) (he : Ve v e) {N : Nat} (hN : 2000 ≤ N) {order doubts : Nat → Int32} {W : Nat → Int64} (hl : ML v order doubts (nI (dc v))) (hw : MW v W) {a b : Nat} (ha : a < 8) (hb : b < 8) : ∀ d f k (worn : Nat → Int32) (pairs : Int64) (tw : Int32) (doer doneTo : Nat → Int32), k + d = nn v → d < f →
    ∃ w p t A B, f_X8_bound_27 N (nI a) (nI b) now order doubts (nI (dc v)) W f (lN (boS v e a b k)) (nI k) worn pairs tw doer doneTo = some (lN (boS v e a b (nn v)), w, p, t, A, B)
  | 0, f, k, worn, pairs, tw, doer, doneTo, hk, hf => by
    have h64 := nn_le hv
    cases f with
    | zero => omega
    | succ f =>
      refine ⟨worn, pairs, tw, doer, doneTo, ?_⟩
      unfold f_X8_bound_27
      rw [n_there hv, bd_s, if_pos (nI_le (by omega) (by omega)), show k = nn v by omega]
  | d + 1, f, k, worn, pairs, tw, doer, doneTo, hk, hf => by
    have h64 := nn_le hv
    have h60 := he.1
    have hwk := wt_le hv k
    cases f with
    | zero => omega
    | succ f =>
      obtain ⟨w1, p1, t1, A1, B1, e1, e2⟩ := m_doers h hd hv he hN hl (n := k) (by omega) worn pairs tw doer doneTo
      obtain ⟨w, p, t, A, B, g⟩ := m_bo27 h hd hv he hN hl hw ha hb d f (k + 1) w1 p1 t1 A1 B1 (by omega) (by omega)
      refine ⟨w, p, t, A, B, ?_⟩
      have e3 : f_X8_bound_48 (nI a) (nI b) now A1 B1 N (nI 0) (nI 0) = some (b2 (bnd v e k a b (e 60))) := m_bo48 hd hv he ha hb e2 (e 60) N 0 (by omega) (by omega)
      unfold f_X8_bound_27
      rw [n_there hv, bd_s, if_neg (nI_ge (by omega) (by omega)), e1, bd_s]
      dsimp only
      rw [show (0 : Int32) = nI 0 from rfl, e3, bd_s, gd_ix (by omega) (by decide), nI_clamp (by omega), hw k (by omega), ← g, boS_s, nI_1]
      cases bnd v e k a b (e 60)
      · rw [if_pos (by decide), bd_s, if_neg (by decide), show (0 : Int64) = lN 0 from rfl, lN_add]
      · rw [if_neg (by decide), bd_s, if_pos rfl, lN_add]
set_option maxHeartbeats 16000000 in
theorem op_bound {N : Nat} (hN : 2000 ≤ N) : Op_bound Rl N := by
  intro C_isKept C_l_bsize C_l_bcells C_l_ssize C_l_scells C_l_dsize C_l_dcells C_l_people C_l_rule C_l_believed C_k_bsize C_k_bcells C_k_ssize C_k_scells C_k_dsize C_k_dcells C_k_people C_k_rule C_k_believed C_d_bsize C_d_bcells C_d_ssize C_d_scells C_d_dsize C_d_dcells C_d_people C_d_rule C_d_believed C_order C_stepsAt C_doubts C_weights C_rows C_metEver C_bowedTo C_isStale C_bowCount C_doubtCount C_seenBows C_likeliest C_mostSayingsSo C_doers C_isTelling C_tbytes C_tlen C_token C_place C_behindIt C_value C_sa_nums C_sa_bits C_sa_len C_sb_nums C_sb_bits C_sb_len C_sc_nums C_sc_bits C_sc_len C_sd_nums C_sd_bits C_sd_len C_findings M_now M_kept M_isKept M_found M_order M_doubts M_doubtMany M_weights M_worn M_pairs M_isTwice M_doer M_doneTo M_doers M_tape M_taped M_begins M_ends M_sort M_value M_isWrong M_items M_itemMany M_bowThen M_doubtThen M_deedThen M_sayingThen M_widths M_sizes M_numbers M_moved a1 a2 hR 
  obtain ⟨v, e, hv, he, hm, hd, hl, hs, ht, hk0, hk1, hk2, hf, hp, sa, sb, sc, sd⟩ := hR
  obtain ⟨rfl, hlb, rfl, hls, rfl, hld, rfl, rfl, rfl⟩ := hl
  have h8 := vd_hi hv
  have h64 := nn_le hv
  have h60 := he.1
  by_cases h2 : (inr a1 (v 0) && inr a2 (v 0) && !decide (a1 = a2)) = true
  · have h2' := h2
    rw [Bool.and_eq_true, Bool.and_eq_true] at h2'
    obtain ⟨⟨p1, p2⟩, p3⟩ := h2'
    obtain ⟨a, ha, rfl⟩ := inr_t (by omega) p1
    obtain ⟨b, hb, rfl⟩ := inr_t (by omega) p2
    have hab : a ≠ b := by intro q; subst q; simp at p3
    obtain ⟨o_, s_, d_, w_, r_, m_, b_, k_, n_, q_, l_, x_, ef, tb⟩ := c_look hlb hls hv hN C_order C_stepsAt C_doubts C_weights C_rows C_metEver C_bowedTo C_isStale C_bowCount C_doubtCount C_seenBows C_likeliest C_mostSayingsSo hs ht
    have tbb := tb
    obtain ⟨tb1, tb2, rfl, tb4, rfl, tb6, tb7, tb8, rfl, rfl⟩ := tb
    obtain ⟨mo, md, mw, mwo, mp, mt, em, ml, mW⟩ := m_weigh hm hv hN M_order M_doubts M_doubtMany M_weights M_worn M_pairs M_isTwice
    obtain ⟨w2, p2', t2, A, B, g⟩ := m_bo27 hm hd hv he hN ml mW (a := a) (b := b) (by omega) (by omega) (nn v) N 0 mwo mp mt M_doer M_doneTo (by omega) (by omega)
    have g' : f_X8_bound_27 N (nI a) (nI b) M_now mo md (nI (dc v)) mw N (lN 0) (nI 0) mwo mp mt M_doer M_doneTo = some (lN (boS v e a b (nn v)), w2, p2', t2, A, B) := g
    have e1 : f_X1_oddsOfBond N s_ w_ r_ (nI (dc v)) (nI (e 60)) C_l_dcells (nI a) (nI b) = some (lN (boS v e a b (nn v))) := by
      unfold f_X1_oddsOfBond
      rw [show f_X1_oddsOfBond_5 N (nI a) (nI b) s_ w_ r_ (nI (dc v)) (nI (e 60)) C_l_dcells N (0 : Int64) (0 : Int32) = some (lN (boS v e a b (nn v))) from c_bo5 hv he hld tb2 tb6 tb7 hN (by omega) (by omega) (nn v) N 0 (by omega) (by omega), bd_s]
    simp (disch := omega) only [f_X7_bound, f_X8_bound, bd_s, gd_tt, jn_s, lit32, gd_ix, nI_clamp, nI_add, pk_mul, nI_leI, nI_ltI, nI_eq, b2_0n, ite_f, ↓reduceIte, Bool.false_eq_true, Bool.true_eq_false, Nat.not_lt_zero, isb_b2, c_has, c_isHour, c_isKind, c_isPerson, m_isHour, m_isKind, m_isSheet, m_w, c_rN, c_rN2, cB, cF, cK, cN, cS, cM, cZ, mB, mF, mK, mN, mS, mM, mZ, litL, p1, p2, hab, Bool.and_self, decide_false, Bool.not_false, Bool.and_true, c_areUnlike, m_areTwo hm hv, ef, em, e1, g']
    refine ⟨_, _, rfl, rfl, rfl, ?_⟩; exact ⟨v, e, hv, he, hm, hd, ⟨rfl, hlb, rfl, hls, rfl, hld, rfl, rfl, rfl⟩, Or.inl rfl, fun _ => tbb, hk0, hk1, hk2, hf, hp, sa, sb, sc, sd⟩
  · have h2 : (inr a1 (v 0) && inr a2 (v 0) && !decide (a1 = a2)) = false := by simpa using h2
    simp (disch := omega) only [f_X7_bound, f_X8_bound, bd_s, gd_tt, jn_s, lit32, gd_ix, nI_clamp, nI_add, pk_mul, nI_leI, nI_ltI, nI_eq, b2_0n, ite_f, ↓reduceIte, Bool.false_eq_true, Bool.true_eq_false, Nat.not_lt_zero, isb_b2, c_has, c_isHour, c_isKind, c_isPerson, m_isHour, m_isKind, m_isSheet, m_w, c_rN, c_rN2, cB, cF, cK, cN, cS, cM, cZ, mB, mF, mK, mN, mS, mM, mZ, h2, c_areUnlike, m_areTwo hm hv]
    refine ⟨_, _, rfl, rfl, rfl, ?_⟩; exact ⟨v, e, hv, he, hm, hd, ⟨rfl, hlb, rfl, hls, rfl, hld, rfl, rfl, rfl⟩, hs, ht, hk0, hk1, hk2, (rf_step hf 0 (by decide)), hp, sa, sb, sc, sd⟩
