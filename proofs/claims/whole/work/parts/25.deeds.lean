/-! ===== deeds in nights ===== -/
def dDo (v e : Nat → Nat) (n d : Nat) : Nat := wr v n (e (5 * d + 1)) (e (5 * d + 2))
def dTo (v e : Nat → Nat) (n d : Nat) : Nat := wr v n (e (5 * d + 1)) (e (5 * d + 3))
theorem nI_pz {n : Nat} (h : n < 2 ^ 31) : nI 0 ≤ nI n := nI_pos' h
theorem dDo_lt {v e : Nat → Nat} (hv : Vd v) (he : Ve v e) {n d : Nat} (hd : d < e 60) : dDo v e n d < 8 := by
  have := he.2 d hd
  have := vd_hi hv
  exact wr_lt hv _ _ (by omega)
theorem dTo_lt {v e : Nat → Nat} (hv : Vd v) (he : Ve v e) {n d : Nat} (hd : d < e 60) : dTo v e n d < 8 := by
  have := he.2 d hd
  have := vd_hi hv
  exact wr_lt hv _ _ (by omega)
theorem dDo_ne {v e : Nat → Nat} (hv : Vd v) (he : Ve v e) {n d : Nat} (hd : d < e 60) : dDo v e n d ≠ dTo v e n d := by
  have h1 := he.2 d hd
  have h2 := vd_hi hv
  intro q
  exact h1.2.2.2.2.1 ((Pm_n hv n _ (sts_le v _)).2.1 _ _ (by omega) (by omega) q)
theorem c_part {e : Nat → Nat} {cells : Nat → Int32} (h : ∀ j, j < 60 → cells j = nI (e j)) (h60 : e 60 ≤ 12) {b i : Nat} (hb : b < e 60) (hi : i < 5) : f_X1_part (nI (e 60)) cells (nI b) (nI i) = some (nI (e (5 * b + i))) := by
  unfold f_X1_part
  rw [show (5 : Int32) = nI 5 from rfl, c_deed h hb h60 hi, bd_s]
theorem c_doers {v e : Nat → Nat} {cells stepsAt w rows : Nat → Int32} (hv : Vd v) (he : Ve v e) (h : ∀ j, j < 60 → cells j = nI (e j)) (hs : ∀ h, h < 100 → stepsAt h = nI (sts v h)) (hw : CW v w) (hR : ∀ n, n < nn v → 0 < wgt v n → RR v rows n (v 3)) {d N : Nat} (hN : 2000 ≤ N) (hd : d < e 60) : f_X1_doersOf N stepsAt w rows (nI (dc v)) (nI (e 60)) cells (nI d) = some (nI (weS v (e (5 * d + 2)) (e (5 * d + 1)) (nn v))) := by
  have h1 := he.2 d hd
  have h2 := vd_hi hv
  unfold f_X1_doersOf
  rw [show (2 : Int32) = nI 2 from rfl, show (1 : Int32) = nI 1 from rfl, c_part h he.1 hd (by decide), bd_s, c_part h he.1 hd (by decide), bd_s, c_we hv hs hw hR hN (by omega) h1.2.1, bd_s]
theorem c_others {v e : Nat → Nat} {cells stepsAt w rows : Nat → Int32} (hv : Vd v) (he : Ve v e) (h : ∀ j, j < 60 → cells j = nI (e j)) (hs : ∀ h, h < 100 → stepsAt h = nI (sts v h)) (hw : CW v w) (hR : ∀ n, n < nn v → 0 < wgt v n → RR v rows n (v 3)) {d N : Nat} (hN : 2000 ≤ N) (hd : d < e 60) : f_X1_othersOf N stepsAt w rows (nI (dc v)) (nI (e 60)) cells (nI d) = some (nI (weS v (e (5 * d + 3)) (e (5 * d + 1)) (nn v))) := by
  have h1 := he.2 d hd
  have h2 := vd_hi hv
  unfold f_X1_othersOf
  rw [show (3 : Int32) = nI 3 from rfl, show (1 : Int32) = nI 1 from rfl, c_part h he.1 hd (by decide), bd_s, c_part h he.1 hd (by decide), bd_s, c_we hv hs hw hR hN (by omega) h1.2.1, bd_s]
set_option maxHeartbeats 16000000 in
theorem op_who {N : Nat} (hN : 2000 ≤ N) : Op_who Rl N := by
  intro C_isKept C_l_bsize C_l_bcells C_l_ssize C_l_scells C_l_dsize C_l_dcells C_l_people C_l_rule C_l_believed C_k_bsize C_k_bcells C_k_ssize C_k_scells C_k_dsize C_k_dcells C_k_people C_k_rule C_k_believed C_d_bsize C_d_bcells C_d_ssize C_d_scells C_d_dsize C_d_dcells C_d_people C_d_rule C_d_believed C_order C_stepsAt C_doubts C_weights C_rows C_metEver C_bowedTo C_isStale C_bowCount C_doubtCount C_seenBows C_likeliest C_mostSayingsSo C_doers C_isTelling C_tbytes C_tlen C_token C_place C_behindIt C_value C_sa_nums C_sa_bits C_sa_len C_sb_nums C_sb_bits C_sb_len C_sc_nums C_sc_bits C_sc_len C_sd_nums C_sd_bits C_sd_len C_findings M_now M_kept M_isKept M_found M_order M_doubts M_doubtMany M_weights M_worn M_pairs M_isTwice M_doer M_doneTo M_doers M_tape M_taped M_begins M_ends M_sort M_value M_isWrong M_items M_itemMany M_bowThen M_doubtThen M_deedThen M_sayingThen M_widths M_sizes M_numbers M_moved a1 a2 hR 
  obtain ⟨v, e, hv, he, hm, hd, hl, hs, ht, hk0, hk1, hk2, hf, hp, sa, sb, sc, sd⟩ := hR
  have h60 := he.1
  obtain ⟨rfl, hlb, rfl, hls, rfl, hld, rfl, rfl, rfl⟩ := hl
  have h8 := vd_hi hv
  have k2 := m_isDeed hd h60 a1
  by_cases h1 : inr a1 (e 60) = true
  · obtain ⟨d, hd6, rfl⟩ := inr_t (by omega) h1
    obtain ⟨x0, x1, x2, x3, x4, x5⟩ := he.2 d hd6
    by_cases h2 : inr a2 2 = true
    · obtain ⟨i, hi, rfl⟩ := inr_t (by decide) h2
      have hi1 : i ≤ 1 := by omega
      obtain ⟨o_, s_, d_, w_, r_, m_, b_, k_, n_, q_, l_, x_, ef, tb⟩ := c_look hlb hls hv hN C_order C_stepsAt C_doubts C_weights C_rows C_metEver C_bowedTo C_isStale C_bowCount C_doubtCount C_seenBows C_likeliest C_mostSayingsSo hs ht
      have tbb := tb
      obtain ⟨tb1, tb2, rfl, tb4, rfl, tb6, tb7, tb8, rfl, rfl⟩ := tb
      obtain ⟨mk, hmk, hme⟩ : ∃ mk, mk < 8 ∧ (if i = 0 then e (5 * d + 2) else e (5 * d + 3)) = mk := ⟨_, by split <;> omega, rfl⟩
      have hlt := weS_lt hv (m := mk) (by omega) (e (5 * d + 1)) (nn v)
      have e1 : (bd (if i = 0 then (bd (f_X1_doersOf N s_ w_ r_ (nI (dc v)) (nI (e 60)) C_l_dcells (nI d)) (fun u => some u)) else (bd (f_X1_othersOf N s_ w_ r_ (nI (dc v)) (nI (e 60)) C_l_dcells (nI d)) (fun u => some u))) (fun u => f_X7_onlyOneOf N u)) = some (onI (weS v mk (e (5 * d + 1)) (nn v))) := by
        rw [c_doers hv he hld tb2 tb6 tb7 hN hd6, c_others hv he hld tb2 tb6 tb7 hN hd6, ← hme]
        rw [← hme] at hlt
        by_cases q : i = 0
        · rw [if_pos q, bd_s, bd_s]; rw [if_pos q] at hlt ⊢; rw [c_only (by omega) hN]
        · rw [if_neg q, bd_s, bd_s]; rw [if_neg q] at hlt ⊢; rw [c_only (by omega) hN]
      obtain ⟨mo, md, mw, mwo, mp, mt, em, ml, mW⟩ := m_worn hm hv hN M_order M_doubts M_doubtMany M_weights M_worn M_pairs M_isTwice (m := mk) (hh := e (5 * d + 1)) (by omega) (by omega)
      have e3 : (bd (if i = 0 then some (nI 2) else some (nI 3)) (fun u => f_X8_deedIs M_now (nI d) u)) = some (nI mk) := by
        rw [← hme]
        by_cases q : i = 0
        · rw [if_pos q, if_pos q, bd_s, m_deedIs hd (by omega) (by decide)]
        · rw [if_neg q, if_neg q, bd_s, m_deedIs hd (by omega) (by decide)]
      have bdbd : ∀ {α β γ : Type} (x : Option α) (f : α → Option β) (g : β → Option γ), bd x (fun u => bd (f u) g) = bd (bd x f) g := fun x f g => by cases x <;> rfl
      have e4 : f_X8_deedIs M_now (nI d) (nI 1) = some (nI (e (5 * d + 1))) := m_deedIs hd (by omega) (by decide)
      rcases onI_or (weS v mk (e (5 * d + 1)) (nn v)) with ⟨k, hk, hq⟩ | hq
      · have hnm := nI_nm1 (show k < 2 ^ 31 by omega)
        rw [hq] at e1
        have f1 : f_X7_who N (nI (v 3)) C_l_bcells (nI (v 5)) C_l_scells (nI (e 60)) C_l_dcells (nI (v 1)) (nI (v 2)) C_order C_stepsAt C_doubts C_weights C_rows C_metEver C_bowedTo C_isStale C_bowCount C_doubtCount C_seenBows C_likeliest C_mostSayingsSo C_findings (nI d) (nI i) = some (nI k, o_, s_, d_, w_, r_, m_, b_, nI 0, k_, nI (dc v), nI (seb v (v 3)), lkI (lkl v), nI (msf v (nn v)), C_findings) := by
          simp (disch := omega) only [f_X7_who, bd_s, gd_tt, jn_s, lit32, gd_ix, nI_clamp, nI_add, pk_mul, nI_leI, nI_ltI, nI_eq, b2_0n, ite_f, ↓reduceIte, Bool.false_eq_true, Bool.true_eq_false, Nat.not_lt_zero, isb_b2, c_has, c_isHour, c_isKind, c_isPerson, m_isHour, m_isKind, m_isSheet, m_w, c_rN, c_rN2, cB, cF, cK, cN, cS, cM, cZ, mB, mF, mK, mN, mS, mM, mZ, h1, hi1, ef]
          rw [bdbd, e1, bd_s]
          simp (disch := omega) only [f_X7_orNone, bd_s, gd_tt, jn_s, lit32, gd_ix, nI_clamp, nI_add, pk_mul, nI_leI, nI_ltI, nI_eq, b2_0n, ite_f, ↓reduceIte, Bool.false_eq_true, Bool.true_eq_false, Nat.not_lt_zero, isb_b2, c_has, c_isHour, c_isKind, c_isPerson, m_isHour, m_isKind, m_isSheet, m_w, c_rN, c_rN2, cB, cF, cK, cN, cS, cM, cZ, mB, mF, mK, mN, mS, mM, mZ, hnm]
        have f2 : f_X8_who N M_now M_found M_order M_doubts M_doubtMany M_weights M_worn M_pairs M_isTwice (nI d) (nI i) = some (nI k, M_found, mo, md, nI (dc v), mw, mwo, mp, mt) := by
          simp (disch := omega) only [f_X8_who, bd_s, gd_tt, jn_s, lit32, gd_ix, nI_clamp, nI_add, pk_mul, nI_leI, nI_ltI, nI_eq, b2_0n, ite_f, ↓reduceIte, Bool.false_eq_true, Bool.true_eq_false, Nat.not_lt_zero, isb_b2, c_has, c_isHour, c_isKind, c_isPerson, m_isHour, m_isKind, m_isSheet, m_w, c_rN, c_rN2, cB, cF, cK, cN, cS, cM, cZ, mB, mF, mK, mN, mS, mM, mZ, k2, h1, h2, Nat.reduceAdd]
          rw [bdbd, e3, bd_s, e4, bd_s, em, bd_s]
          dsimp only
          rw [m_only (by omega) hN, bd_s, hq, if_pos (nI_pz (by omega))]
        exact ⟨_, _, f1, f2, rfl, v, e, hv, he, hm, hd, ⟨rfl, hlb, rfl, hls, rfl, hld, rfl, rfl, rfl⟩, Or.inl rfl, fun _ => tbb, hk0, hk1, hk2, hf, hp, sa, sb, sc, sd⟩
      · rw [hq] at e1
        have f1 : f_X7_who N (nI (v 3)) C_l_bcells (nI (v 5)) C_l_scells (nI (e 60)) C_l_dcells (nI (v 1)) (nI (v 2)) C_order C_stepsAt C_doubts C_weights C_rows C_metEver C_bowedTo C_isStale C_bowCount C_doubtCount C_seenBows C_likeliest C_mostSayingsSo C_findings (nI d) (nI i) = some (-nI 1000000004, o_, s_, d_, w_, r_, m_, b_, nI 0, k_, nI (dc v), nI (seb v (v 3)), lkI (lkl v), nI (msf v (nn v)), fcu C_findings 3) := by
          simp (disch := omega) only [f_X7_who, bd_s, gd_tt, jn_s, lit32, gd_ix, nI_clamp, nI_add, pk_mul, nI_leI, nI_ltI, nI_eq, b2_0n, ite_f, ↓reduceIte, Bool.false_eq_true, Bool.true_eq_false, Nat.not_lt_zero, isb_b2, c_has, c_isHour, c_isKind, c_isPerson, m_isHour, m_isKind, m_isSheet, m_w, c_rN, c_rN2, cB, cF, cK, cN, cS, cM, cZ, mB, mF, mK, mN, mS, mM, mZ, h1, hi1, ef]
          rw [bdbd, e1, bd_s]
          simp (disch := omega) only [f_X7_orNone, bd_s, gd_tt, jn_s, lit32, gd_ix, nI_clamp, nI_add, pk_mul, nI_leI, nI_ltI, nI_eq, b2_0n, ite_f, ↓reduceIte, Bool.false_eq_true, Bool.true_eq_false, Nat.not_lt_zero, isb_b2, c_has, c_isHour, c_isKind, c_isPerson, m_isHour, m_isKind, m_isSheet, m_w, c_rN, c_rN2, cB, cF, cK, cN, cS, cM, cZ, mB, mF, mK, mN, mS, mM, mZ]
        have f2 : f_X8_who N M_now M_found M_order M_doubts M_doubtMany M_weights M_worn M_pairs M_isTwice (nI d) (nI i) = some (-nI 1000000004, fmu M_found 3, mo, md, nI (dc v), mw, mwo, mp, mt) := by
          simp (disch := omega) only [f_X8_who, bd_s, gd_tt, jn_s, lit32, gd_ix, nI_clamp, nI_add, pk_mul, nI_leI, nI_ltI, nI_eq, b2_0n, ite_f, ↓reduceIte, Bool.false_eq_true, Bool.true_eq_false, Nat.not_lt_zero, isb_b2, c_has, c_isHour, c_isKind, c_isPerson, m_isHour, m_isKind, m_isSheet, m_w, c_rN, c_rN2, cB, cF, cK, cN, cS, cM, cZ, mB, mF, mK, mN, mS, mM, mZ, k2, h1, h2, Nat.reduceAdd]
          rw [bdbd, e3, bd_s, e4, bd_s, em, bd_s]
          dsimp only
          rw [m_only (by omega) hN, bd_s, hq, if_neg (by decide)]
        exact ⟨_, _, f1, f2, rfl, v, e, hv, he, hm, hd, ⟨rfl, hlb, rfl, hls, rfl, hld, rfl, rfl, rfl⟩, Or.inl rfl, fun _ => tbb, hk0, hk1, hk2, rf_step hf 3 (by decide), hp, sa, sb, sc, sd⟩
    · have f1 : f_X7_who N (nI (v 3)) C_l_bcells (nI (v 5)) C_l_scells (nI (e 60)) C_l_dcells (nI (v 1)) (nI (v 2)) C_order C_stepsAt C_doubts C_weights C_rows C_metEver C_bowedTo C_isStale C_bowCount C_doubtCount C_seenBows C_likeliest C_mostSayingsSo C_findings (nI d) a2 = some (-nI 1000000001, C_order, C_stepsAt, C_doubts, C_weights, C_rows, C_metEver, C_bowedTo, C_isStale, C_bowCount, C_doubtCount, C_seenBows, C_likeliest, C_mostSayingsSo, fcu C_findings 0) := by
        unfold f_X7_who
        rw [c_has (by omega), h1, bd_s, if_neg (by decide)]
        rcases inr_nf h2 with h | h
        · rw [if_pos (by rw [i32_lt, show (0 : Int32).toInt = 0 from rfl]; omega)]; rfl
        · rw [if_neg (by rw [i32_lt, show (0 : Int32).toInt = 0 from rfl]; omega), if_neg (by rw [i32_le, show (1 : Int32).toInt = 1 from rfl]; omega)]; rfl
      have h2 := inr_fp h2
      have f2 : f_X8_who N M_now M_found M_order M_doubts M_doubtMany M_weights M_worn M_pairs M_isTwice (nI d) a2 = some (-nI 1000000001, fmu M_found 0, M_order, M_doubts, M_doubtMany, M_weights, M_worn, M_pairs, M_isTwice) := by
        simp (disch := omega) only [f_X8_who, bd_s, gd_tt, jn_s, lit32, gd_ix, nI_clamp, nI_add, pk_mul, nI_leI, nI_ltI, nI_eq, b2_0n, ite_f, ↓reduceIte, Bool.false_eq_true, Bool.true_eq_false, Nat.not_lt_zero, isb_b2, c_has, c_isHour, c_isKind, c_isPerson, m_isHour, m_isKind, m_isSheet, m_w, c_rN, c_rN2, cB, cF, cK, cN, cS, cM, cZ, mB, mF, mK, mN, mS, mM, mZ, k2, h1, h2, Nat.reduceAdd]
      exact ⟨_, _, f1, f2, rfl, v, e, hv, he, hm, hd, ⟨rfl, hlb, rfl, hls, rfl, hld, rfl, rfl, rfl⟩, hs, ht, hk0, hk1, hk2, rf_step hf 0 (by decide), hp, sa, sb, sc, sd⟩
  · have h1 := inr_fp h1
    simp (disch := omega) only [f_X7_who, f_X8_who, bd_s, gd_tt, jn_s, lit32, gd_ix, nI_clamp, nI_add, pk_mul, nI_leI, nI_ltI, nI_eq, b2_0n, ite_f, ↓reduceIte, Bool.false_eq_true, Bool.true_eq_false, Nat.not_lt_zero, isb_b2, c_has, c_isHour, c_isKind, c_isPerson, m_isHour, m_isKind, m_isSheet, m_w, c_rN, c_rN2, cB, cF, cK, cN, cS, cM, cZ, mB, mF, mK, mN, mS, mM, mZ, k2, h1]
    refine ⟨_, _, rfl, rfl, rfl, ?_⟩; exact ⟨v, e, hv, he, hm, hd, ⟨rfl, hlb, rfl, hls, rfl, hld, rfl, rfl, rfl⟩, hs, ht, hk0, hk1, hk2, (rf_step hf 0 (by decide)), hp, sa, sb, sc, sd⟩
/-- unsure -/
def unS (v e : Nat → Nat) : Nat → Nat := orr (fun d => if onI (weS v (e (5 * d + 2)) (e (5 * d + 1)) (nn v)) = -nI 1 then 2 ^ d else 0)
theorem unS_s (v e : Nat → Nat) (k : Nat) : unS v e (k + 1) = unS v e k ||| (if onI (weS v (e (5 * k + 2)) (e (5 * k + 1)) (nn v)) = -nI 1 then 2 ^ k else 0) := rfl
theorem c_un9 {v e : Nat → Nat} {cells stepsAt w rows : Nat → Int32} (hv : Vd v) (he : Ve v e) (h : ∀ j, j < 60 → cells j = nI (e j)) (hs : ∀ h, h < 100 → stepsAt h = nI (sts v h)) (hw : CW v w) (hR : ∀ n, n < nn v → 0 < wgt v n → RR v rows n (v 3)) {N : Nat} (hN : 2000 ≤ N) : ∀ d f k, k + d = e 60 → d < f → f_X7_unsure_9 N (nI (e 60)) cells stepsAt w rows (nI (dc v)) f (nI (unS v e k)) (nI k) = some (nI (unS v e (e 60)))
  | 0, f, k, hk, hf => by
    have h60 := he.1
    cases f with
    | zero => omega
    | succ f =>
      unfold f_X7_unsure_9 f_X4_size
      rw [bd_s, if_pos (nI_le (by omega) (by omega)), show k = e 60 by omega]
  | d + 1, f, k, hk, hf => by
    have h60 := he.1
    have h8 := vd_hi hv
    have hx := he.2 k (by omega)
    cases f with
    | zero => omega
    | succ f =>
      have ih := c_un9 hv he h hs hw hR hN d f (k + 1) (by omega) (by omega)
      have hlt := weS_lt hv (m := e (5 * k + 2)) (by omega) (e (5 * k + 1)) (nn v)
      unfold f_X7_unsure_9 f_X4_size
      rw [bd_s, if_neg (nI_ge (by omega) (by omega)), c_doers hv he h hs hw hR hN (by omega), bd_s, c_only (by omega) hN, bd_s, ← ih, unS_s, show (-1 : Int32) = -nI 1 from rfl]
      by_cases q : onI (weS v (e (5 * k + 2)) (e (5 * k + 1)) (nn v)) = -nI 1
      · rw [if_pos q, if_pos q, bd_s, show (1 : Int32) = nI 1 from rfl, show (31 : Int32) = nI 31 from rfl, nI_31 (by omega), nI_1shl (by omega), nI_or, nI_add]
      · rw [if_neg q, if_neg q, bd_s, nI_1, Nat.or_zero]
theorem m_un9 {v e : Nat → Nat} {now : Nat → Int32} (h : RN v now) (hd : RE e now) (hv : Vd v) (he : Ve v e) {N : Nat} (hN : 2000 ≤ N) : ∀ d f k (order doubts : Nat → Int32) (dm : Int32) (W : Nat → Int64) (worn : Nat → Int32) (pairs : Int64) (tw : Int32), k + d = e 60 → d < f →
    ∃ o2 d2 m2 W2 w2 p2 t2, f_X8_unsure_9 N now f (nI (unS v e k)) (nI k) order doubts dm W worn pairs tw = some (nI (unS v e (e 60)), o2, d2, m2, W2, w2, p2, t2)
  | 0, f, k, order, doubts, dm, W, worn, pairs, tw, hk, hf => by
    have h60 := he.1
    cases f with
    | zero => omega
    | succ f =>
      refine ⟨order, doubts, dm, W, worn, pairs, tw, ?_⟩
      unfold f_X8_unsure_9
      rw [show (4 : Int32).toNatClampNeg = 4 from rfl, hd.1, if_pos (nI_le (by omega) (by omega)), show k = e 60 by omega]
  | d + 1, f, k, order, doubts, dm, W, worn, pairs, tw, hk, hf => by
    have h60 := he.1
    have h8 := vd_hi hv
    have hx := he.2 k (by omega)
    cases f with
    | zero => omega
    | succ f =>
      obtain ⟨mo, md, mw, mwo, mp, mt, em, -, -⟩ := m_worn h hv hN order doubts dm W worn pairs tw (m := e (5 * k + 2)) (hh := e (5 * k + 1)) (by omega) (by omega)
      obtain ⟨o2, d2, m2, W2, w2, p2, t2, g⟩ := m_un9 h hd hv he hN d f (k + 1) mo md (nI (dc v)) mw mwo mp mt (by omega) (by omega)
      refine ⟨o2, d2, m2, W2, w2, p2, t2, ?_⟩
      have hlt := weS_lt hv (m := e (5 * k + 2)) (by omega) (e (5 * k + 1)) (nn v)
      unfold f_X8_unsure_9
      rw [show (4 : Int32).toNatClampNeg = 4 from rfl, hd.1, if_neg (nI_ge (by omega) (by omega)), show (2 : Int32) = nI 2 from rfl, m_deedIs hd (by omega) (by decide), bd_s, show (1 : Int32) = nI 1 from rfl, m_deedIs hd (by omega) (by decide), bd_s, em, bd_s]
      dsimp only
      rw [m_only (by omega) hN, bd_s, ← g, unS_s, show (0 : Int32) = nI 0 from rfl]
      rcases onI_or (weS v (e (5 * k + 2)) (e (5 * k + 1)) (nn v)) with ⟨j, hj, q⟩ | q
      · rw [q, if_pos (nI_pz (by omega)), bd_s, if_neg (by rw [nI_nm1 (by omega)]; exact id), nI_or, nI_add]
      · rw [q, if_neg (by decide), if_pos rfl, show (31 : Int32) = nI 31 from rfl, nI_31 (by omega), nI_1shl (by omega), bd_s, nI_or, nI_add]
set_option maxHeartbeats 16000000 in
theorem op_unsure {N : Nat} (hN : 2000 ≤ N) : Op_unsure Rl N := by
  intro C_isKept C_l_bsize C_l_bcells C_l_ssize C_l_scells C_l_dsize C_l_dcells C_l_people C_l_rule C_l_believed C_k_bsize C_k_bcells C_k_ssize C_k_scells C_k_dsize C_k_dcells C_k_people C_k_rule C_k_believed C_d_bsize C_d_bcells C_d_ssize C_d_scells C_d_dsize C_d_dcells C_d_people C_d_rule C_d_believed C_order C_stepsAt C_doubts C_weights C_rows C_metEver C_bowedTo C_isStale C_bowCount C_doubtCount C_seenBows C_likeliest C_mostSayingsSo C_doers C_isTelling C_tbytes C_tlen C_token C_place C_behindIt C_value C_sa_nums C_sa_bits C_sa_len C_sb_nums C_sb_bits C_sb_len C_sc_nums C_sc_bits C_sc_len C_sd_nums C_sd_bits C_sd_len C_findings M_now M_kept M_isKept M_found M_order M_doubts M_doubtMany M_weights M_worn M_pairs M_isTwice M_doer M_doneTo M_doers M_tape M_taped M_begins M_ends M_sort M_value M_isWrong M_items M_itemMany M_bowThen M_doubtThen M_deedThen M_sayingThen M_widths M_sizes M_numbers M_moved  hR 
  obtain ⟨v, e, hv, he, hm, hd, hl, hs, ht, hk0, hk1, hk2, hf, hp, sa, sb, sc, sd⟩ := hR
  have h60 := he.1
  obtain ⟨rfl, hlb, rfl, hls, rfl, hld, rfl, rfl, rfl⟩ := hl
  obtain ⟨o_, s_, d_, w_, r_, m_, b_, k_, n_, q_, l_, x_, ef, tb⟩ := c_look hlb hls hv hN C_order C_stepsAt C_doubts C_weights C_rows C_metEver C_bowedTo C_isStale C_bowCount C_doubtCount C_seenBows C_likeliest C_mostSayingsSo hs ht
  have tbb := tb
  obtain ⟨tb1, tb2, rfl, tb4, rfl, tb6, tb7, tb8, rfl, rfl⟩ := tb
  obtain ⟨mo, md, mw, mwo, mp, mt, em, ml, mW⟩ := m_weigh hm hv hN M_order M_doubts M_doubtMany M_weights M_worn M_pairs M_isTwice
  obtain ⟨o2, d2, m2, W2, w2, p2, t2, g⟩ := m_un9 hm hd hv he hN (e 60) N 0 mo md (nI (dc v)) mw mwo mp mt (by omega) (by omega)
  have g' : f_X8_unsure_9 N M_now N (nI 0) (nI 0) mo md (nI (dc v)) mw mwo mp mt = some (nI (unS v e (e 60)), o2, d2, m2, W2, w2, p2, t2) := g
  have e1 : f_X7_unsure_9 N (nI (e 60)) C_l_dcells s_ w_ r_ (nI (dc v)) N (nI 0) (nI 0) = some (nI (unS v e (e 60))) := c_un9 hv he hld tb2 tb6 tb7 hN (e 60) N 0 (by omega) (by omega)
  simp only [f_X7_unsure, f_X8_unsure, lit32, ef, em, bd_s, e1, g']
  refine ⟨_, _, rfl, rfl, rfl, ?_⟩; exact ⟨v, e, hv, he, hm, hd, ⟨rfl, hlb, rfl, hls, rfl, hld, rfl, rfl, rfl⟩, Or.inl rfl, fun _ => tbb, hk0, hk1, hk2, hf, hp, sa, sb, sc, sd⟩
/-! the reference's doers of a night -/
theorem m_fd2 {v e : Nat → Nat} {now : Nat → Int32} (h : RN v now) (hd : RE e now) (hv : Vd v) (he : Ve v e) {N : Nat} (hN : 2000 ≤ N) {order doubts : Nat → Int32} (hl : ML v order doubts (nI (dc v))) {n : Nat} (hn : n < nn v) : ∀ d f k (worn : Nat → Int32) (pairs : Int64) (tw : Int32) (doer doneTo : Nat → Int32), k + d = e 60 → d < f → (∀ j, j < k → doer j = nI (dDo v e n j) ∧ doneTo j = nI (dTo v e n j)) →
    ∃ w p t A B, f_X8_findDoers_2 N (nI n) now order doubts (nI (dc v)) f (nI k) worn pairs tw doer doneTo = some (w, p, t, A, B) ∧ ∀ j, j < e 60 → A j = nI (dDo v e n j) ∧ B j = nI (dTo v e n j)
  | 0, f, k, worn, pairs, tw, doer, doneTo, hk, hf, hA => by
    have h60 := he.1
    cases f with
    | zero => omega
    | succ f =>
      refine ⟨worn, pairs, tw, doer, doneTo, ?_, fun j hj => hA j (by omega)⟩
      unfold f_X8_findDoers_2
      rw [show (4 : Int32).toNatClampNeg = 4 from rfl, hd.1, if_pos (nI_le (by omega) (by omega))]
  | d + 1, f, k, worn, pairs, tw, doer, doneTo, hk, hf, hA => by
    have h60 := he.1
    have h8 := vd_hi hv
    obtain ⟨x0, x1, x2, x3, x4, x5⟩ := he.2 k (by omega)
    cases f with
    | zero => omega
    | succ f =>
      obtain ⟨w1, p1, t1, e1, e2⟩ := m_goes h hv hN hl hn (hour := e (5 * k + 1)) (by omega) worn pairs tw
      have ea : w1 (e (5 * k + 2)) = nI (dDo v e n k) := e2.1 _ (by omega)
      have eb : w1 (e (5 * k + 3)) = nI (dTo v e n k) := e2.1 _ (by omega)
      obtain ⟨w, p, t, A, B, g1, g2⟩ := m_fd2 h hd hv he hN hl hn d f (k + 1) w1 p1 t1 (upd doer k (nI (dDo v e n k))) (upd doneTo k (nI (dTo v e n k))) (by omega) (by omega) (fun j hj => by
        by_cases q : j = k
        · rw [q, pk_us, pk_us]; exact ⟨rfl, rfl⟩
        · rw [pk_un q, pk_un q]; exact hA j (by omega))
      refine ⟨w, p, t, A, B, ?_, g2⟩
      unfold f_X8_findDoers_2
      rw [show (4 : Int32).toNatClampNeg = 4 from rfl, hd.1, if_neg (nI_ge (by omega) (by omega)), show (1 : Int32) = nI 1 from rfl, m_deedIs hd (by omega) (by decide), bd_s, e1, bd_s, show (2 : Int32) = nI 2 from rfl, m_deedIs hd (by omega) (by decide), bd_s, gd_ix (by omega) (by decide), gd_ix (by omega) (by decide), show (3 : Int32) = nI 3 from rfl, m_deedIs hd (by omega) (by decide), bd_s, gd_ix (by omega) (by decide)]
      dsimp only
      rw [nI_clamp (by omega), nI_clamp (by omega), nI_clamp (by omega), ea, eb, nI_add]
      exact g1
theorem m_doers {v e : Nat → Nat} {now : Nat → Int32} (h : RN v now) (hd : RE e now) (hv : Vd v) (he : Ve v e) {N : Nat} (hN : 2000 ≤ N) {order doubts : Nat → Int32} (hl : ML v order doubts (nI (dc v))) {n : Nat} (hn : n < nn v) (worn : Nat → Int32) (pairs : Int64) (tw : Int32) (doer doneTo : Nat → Int32) :
    ∃ w p t A B, f_X8_findDoers N now order doubts (nI (dc v)) worn pairs tw doer doneTo (nI n) = some (w, p, t, A, B) ∧ ∀ j, j < e 60 → A j = nI (dDo v e n j) ∧ B j = nI (dTo v e n j) := by
  have h60 := he.1
  obtain ⟨w, p, t, A, B, g1, g2⟩ := m_fd2 h hd hv he hN hl hn (e 60) N 0 worn pairs tw doer doneTo (by omega) (by omega) (fun j hj => absurd hj (Nat.not_lt_zero _))
  refine ⟨w, p, t, A, B, ?_, g2⟩
  unfold f_X8_findDoers
  rw [show f_X8_findDoers_2 N (nI n) now order doubts (nI (dc v)) N (0 : Int32) worn pairs tw doer doneTo = some (w, p, t, A, B) from g1, bd_s]
theorem c_doerIn {v e : Nat → Nat} {cells stepsAt rows : Nat → Int32} (hv : Vd v) (he : Ve v e) (h : ∀ j, j < 60 → cells j = nI (e j)) (hs : ∀ h, h < 100 → stepsAt h = nI (sts v h)) {n d : Nat} (hn : n < 64) (hR : RR v rows n (v 3)) (hd : d < e 60) : f_X1_doerIn stepsAt rows (nI (e 60)) cells (nI n) (nI d) = some (nI (dDo v e n d)) := by
  have h1 := he.2 d hd
  have h2 := vd_hi hv
  unfold f_X1_doerIn
  rw [show (1 : Int32) = nI 1 from rfl, c_part h he.1 hd (by decide), bd_s, c_row hs hv hn h1.2.1, bd_s, show (2 : Int32) = nI 2 from rfl, c_part h he.1 hd (by decide), bd_s, c_wr hv hR (by omega), bd_s]
  rfl
theorem c_doerAny {v e : Nat → Nat} {cells stepsAt rows : Nat → Int32} (hv : Vd v) (he : Ve v e) (h : ∀ j, j < 60 → cells j = nI (e j)) (hs : ∀ h, h < 100 → stepsAt h = nI (sts v h)) {n d : Nat} (hn : n < 64) (hd : d < e 60) : ∃ x, f_X1_doerIn stepsAt rows (nI (e 60)) cells (nI n) (nI d) = some x := by
  have h1 := he.2 d hd
  have h2 := vd_hi hv
  unfold f_X1_doerIn
  rw [show (1 : Int32) = nI 1 from rfl, c_part h he.1 hd (by decide), bd_s, c_row hs hv hn h1.2.1, bd_s, show (2 : Int32) = nI 2 from rfl, c_part h he.1 hd (by decide), bd_s]
  unfold f_X7_wearer
  rw [bd_s]
  exact ⟨_, rfl⟩
def saS (v e : Nat → Nat) (a b : Nat) : Nat → Nat := smn (fun n => if dDo v e n a = dDo v e n b then wt v n else 0)
theorem saS_s (v e : Nat → Nat) (a b k : Nat) : saS v e a b (k + 1) = saS v e a b k + (if dDo v e k a = dDo v e k b then wt v k else 0) := rfl
theorem c_sa5 {v e : Nat → Nat} {cells stepsAt w rows : Nat → Int32} (hv : Vd v) (he : Ve v e) (h : ∀ j, j < 60 → cells j = nI (e j)) (hs : ∀ h, h < 100 → stepsAt h = nI (sts v h)) (hw : CW v w) (hR : ∀ n, n < nn v → 0 < wgt v n → RR v rows n (v 3)) {a b : Nat} (ha : a < e 60) (hb : b < e 60) : ∀ d f k, k + d = nn v → d < f → f_X1_oddsOfOneDoer_5 (nI a) (nI b) stepsAt w rows (nI (dc v)) (nI (e 60)) cells f (lN (saS v e a b k)) (nI k) = some (lN (saS v e a b (nn v)))
  | 0, f, k, hk, hf => by
    have h64 := nn_le hv
    cases f with
    | zero => omega
    | succ f =>
      unfold f_X1_oddsOfOneDoer_5
      rw [c_size hv, bd_s, if_pos (nI_le (by omega) (by omega)), show k = nn v by omega]
  | d + 1, f, k, hk, hf => by
    have h64 := nn_le hv
    have hwk := wt_le hv k
    cases f with
    | zero => omega
    | succ f =>
      have ih := c_sa5 hv he h hs hw hR ha hb d f (k + 1) (by omega) (by omega)
      have la := dDo_lt (n := k) hv he ha
      have lb := dDo_lt (n := k) hv he hb
      by_cases q : 0 < wt v k
      · unfold f_X1_oddsOfOneDoer_5
        rw [c_size hv, bd_s, if_neg (nI_ge (by omega) (by omega)), ← ih, saS_s, c_doerIn hv he h hs (by omega) (hR k (by omega) (wt_wgt q)) ha, bd_s, c_doerIn hv he h hs (by omega) (hR k (by omega) (wt_wgt q)) hb, bd_s, c_weight hv hw (by omega), bd_s, nI_l (by omega), lN_add, nI_1]
        by_cases qp : dDo v e k a = dDo v e k b
        · rw [if_pos (by rw [qp]), bd_s, if_pos qp]
        · rw [if_neg (fun z => qp ((nI_eq (by omega) (by omega)).mp z)), bd_s, if_neg qp, Nat.add_zero (saS v e a b k)]
      · obtain ⟨x, hx⟩ := c_doerAny (rows := rows) hv he h hs (n := k) (by omega) ha
        obtain ⟨y, hy⟩ := c_doerAny (rows := rows) hv he h hs (n := k) (by omega) hb
        unfold f_X1_oddsOfOneDoer_5
        rw [c_size hv, bd_s, if_neg (nI_ge (by omega) (by omega)), ← ih, saS_s, hx, bd_s, hy, bd_s, c_weight hv hw (by omega), bd_s, nI_l (by omega), lN_add, nI_1, show wt v k = 0 by omega]
        rw [show (if dDo v e k a = dDo v e k b then 0 else 0) = 0 by split <;> rfl, Nat.add_zero (saS v e a b k)]
        split <;> rfl
theorem m_sa39 {v e : Nat → Nat} {now : Nat → Int32} (h : RN v now) (hd : RE e now) (hv : Vd v) (he : Ve v e) {N : Nat} (hN : 2000 ≤ N) {order doubts : Nat → Int32} {W : Nat → Int64} (hl : ML v order doubts (nI (dc v))) (hw : MW v W) {a b : Nat} (ha : a < e 60) (hb : b < e 60) : ∀ d f k (worn : Nat → Int32) (pairs : Int64) (tw : Int32) (doer doneTo : Nat → Int32), k + d = nn v → d < f →
    ∃ w p t A B, f_X8_same_39 N (nI a) (nI b) now order doubts (nI (dc v)) W f (lN (saS v e a b k)) (nI k) worn pairs tw doer doneTo = some (lN (saS v e a b (nn v)), w, p, t, A, B)
  | 0, f, k, worn, pairs, tw, doer, doneTo, hk, hf => by
    have h64 := nn_le hv
    cases f with
    | zero => omega
    | succ f =>
      refine ⟨worn, pairs, tw, doer, doneTo, ?_⟩
      unfold f_X8_same_39
      rw [n_there hv, bd_s, if_pos (nI_le (by omega) (by omega)), show k = nn v by omega]
  | d + 1, f, k, worn, pairs, tw, doer, doneTo, hk, hf => by
    have h64 := nn_le hv
    have h60 := he.1
    have hwk := wt_le hv k
    cases f with
    | zero => omega
    | succ f =>
      obtain ⟨w1, p1, t1, A1, B1, e1, e2⟩ := m_doers h hd hv he hN hl (n := k) (by omega) worn pairs tw doer doneTo
      obtain ⟨w, p, t, A, B, g⟩ := m_sa39 h hd hv he hN hl hw ha hb d f (k + 1) w1 p1 t1 A1 B1 (by omega) (by omega)
      refine ⟨w, p, t, A, B, ?_⟩
      have la := dDo_lt (n := k) hv he ha
      have lb := dDo_lt (n := k) hv he hb
      unfold f_X8_same_39
      rw [n_there hv, bd_s, if_neg (nI_ge (by omega) (by omega)), e1, bd_s, gd_ix (by omega) (by decide), gd_ix (by omega) (by decide), nI_clamp (by omega), nI_clamp (by omega), nI_clamp (by omega), gd_ix (by omega) (by decide), hw k (by omega), show (0 : Int64) = lN 0 from rfl]
      simp only [(e2 a ha).1, (e2 b hb).1]
      rw [← g, saS_s]
      by_cases qp : dDo v e k a = dDo v e k b
      · rw [if_pos (by rw [qp]), bd_s, if_pos qp, lN_add, nI_1]
      · rw [if_neg (fun z => qp ((nI_eq (by omega) (by omega)).mp z)), bd_s, if_neg qp, lN_add, nI_1]
set_option maxHeartbeats 16000000 in
theorem op_same {N : Nat} (hN : 2000 ≤ N) : Op_same Rl N := by
  intro C_isKept C_l_bsize C_l_bcells C_l_ssize C_l_scells C_l_dsize C_l_dcells C_l_people C_l_rule C_l_believed C_k_bsize C_k_bcells C_k_ssize C_k_scells C_k_dsize C_k_dcells C_k_people C_k_rule C_k_believed C_d_bsize C_d_bcells C_d_ssize C_d_scells C_d_dsize C_d_dcells C_d_people C_d_rule C_d_believed C_order C_stepsAt C_doubts C_weights C_rows C_metEver C_bowedTo C_isStale C_bowCount C_doubtCount C_seenBows C_likeliest C_mostSayingsSo C_doers C_isTelling C_tbytes C_tlen C_token C_place C_behindIt C_value C_sa_nums C_sa_bits C_sa_len C_sb_nums C_sb_bits C_sb_len C_sc_nums C_sc_bits C_sc_len C_sd_nums C_sd_bits C_sd_len C_findings M_now M_kept M_isKept M_found M_order M_doubts M_doubtMany M_weights M_worn M_pairs M_isTwice M_doer M_doneTo M_doers M_tape M_taped M_begins M_ends M_sort M_value M_isWrong M_items M_itemMany M_bowThen M_doubtThen M_deedThen M_sayingThen M_widths M_sizes M_numbers M_moved a1 a2 hR 
  obtain ⟨v, e, hv, he, hm, hd, hl, hs, ht, hk0, hk1, hk2, hf, hp, sa, sb, sc, sd⟩ := hR
  have h60 := he.1
  have h64 := nn_le hv
  obtain ⟨rfl, hlb, rfl, hls, rfl, hld, rfl, rfl, rfl⟩ := hl
  have k1 := m_isDeed hd h60 a1
  have k2 := m_isDeed hd h60 a2
  by_cases h1 : inr a1 (e 60) = true
  · by_cases h2 : inr a2 (e 60) = true
    · obtain ⟨a, ha, rfl⟩ := inr_t (by omega) h1
      obtain ⟨b, hb, rfl⟩ := inr_t (by omega) h2
      by_cases q : a = b
      · subst q
        simp (disch := omega) only [f_X7_same, f_X8_same, bd_s, gd_tt, jn_s, lit32, gd_ix, nI_clamp, nI_add, pk_mul, nI_leI, nI_ltI, nI_eq, b2_0n, ite_f, ↓reduceIte, Bool.false_eq_true, Bool.true_eq_false, Nat.not_lt_zero, isb_b2, c_has, c_isHour, c_isKind, c_isPerson, m_isHour, m_isKind, m_isSheet, m_w, c_rN, c_rN2, cB, cF, cK, cN, cS, cM, cZ, mB, mF, mK, mN, mS, mM, mZ, k1, k2, h1]
        refine ⟨_, _, rfl, rfl, rfl, ?_⟩; exact ⟨v, e, hv, he, hm, hd, ⟨rfl, hlb, rfl, hls, rfl, hld, rfl, rfl, rfl⟩, hs, ht, hk0, hk1, hk2, (rf_step hf 0 (by decide)), hp, sa, sb, sc, sd⟩
      · skip
        obtain ⟨o_, s_, d_, w_, r_, m_, b_, k_, n_, q_, l_, x_, ef, tb⟩ := c_look hlb hls hv hN C_order C_stepsAt C_doubts C_weights C_rows C_metEver C_bowedTo C_isStale C_bowCount C_doubtCount C_seenBows C_likeliest C_mostSayingsSo hs ht
        have tbb := tb
        obtain ⟨tb1, tb2, rfl, tb4, rfl, tb6, tb7, tb8, rfl, rfl⟩ := tb
        obtain ⟨mo, md, mw, mwo, mp, mt, em, ml, mW⟩ := m_weigh hm hv hN M_order M_doubts M_doubtMany M_weights M_worn M_pairs M_isTwice
        obtain ⟨w2, p2, t2, A, B, g⟩ := m_sa39 hm hd hv he hN ml mW ha hb (nn v) N 0 mwo mp mt M_doer M_doneTo (by omega) (by omega)
        have g' : f_X8_same_39 N (nI a) (nI b) M_now mo md (nI (dc v)) mw N (lN 0) (nI 0) mwo mp mt M_doer M_doneTo = some (lN (saS v e a b (nn v)), w2, p2, t2, A, B) := g
        have e1 : f_X1_oddsOfOneDoer N s_ w_ r_ (nI (dc v)) (nI (e 60)) C_l_dcells (nI a) (nI b) = some (lN (saS v e a b (nn v))) := by
          unfold f_X1_oddsOfOneDoer
          rw [show f_X1_oddsOfOneDoer_5 (nI a) (nI b) s_ w_ r_ (nI (dc v)) (nI (e 60)) C_l_dcells N (0 : Int64) (0 : Int32) = some (lN (saS v e a b (nn v))) from c_sa5 hv he hld tb2 tb6 tb7 ha hb (nn v) N 0 (by omega) (by omega), bd_s]
        simp (disch := omega) only [f_X7_same, f_X8_same, bd_s, gd_tt, jn_s, lit32, gd_ix, nI_clamp, nI_add, pk_mul, nI_leI, nI_ltI, nI_eq, b2_0n, ite_f, ↓reduceIte, Bool.false_eq_true, Bool.true_eq_false, Nat.not_lt_zero, isb_b2, c_has, c_isHour, c_isKind, c_isPerson, m_isHour, m_isKind, m_isSheet, m_w, c_rN, c_rN2, cB, cF, cK, cN, cS, cM, cZ, mB, mF, mK, mN, mS, mM, mZ, litL, k1, k2, h1, h2, q, ef, em, e1, g']
        refine ⟨_, _, rfl, rfl, rfl, ?_⟩; exact ⟨v, e, hv, he, hm, hd, ⟨rfl, hlb, rfl, hls, rfl, hld, rfl, rfl, rfl⟩, Or.inl rfl, fun _ => tbb, hk0, hk1, hk2, hf, hp, sa, sb, sc, sd⟩
    · have h2 := inr_fp h2
      simp (disch := omega) only [f_X7_same, f_X8_same, bd_s, gd_tt, jn_s, lit32, gd_ix, nI_clamp, nI_add, pk_mul, nI_leI, nI_ltI, nI_eq, b2_0n, ite_f, ↓reduceIte, Bool.false_eq_true, Bool.true_eq_false, Nat.not_lt_zero, isb_b2, c_has, c_isHour, c_isKind, c_isPerson, m_isHour, m_isKind, m_isSheet, m_w, c_rN, c_rN2, cB, cF, cK, cN, cS, cM, cZ, mB, mF, mK, mN, mS, mM, mZ, k1, k2, h1, h2]
      refine ⟨_, _, rfl, rfl, rfl, ?_⟩; exact ⟨v, e, hv, he, hm, hd, ⟨rfl, hlb, rfl, hls, rfl, hld, rfl, rfl, rfl⟩, hs, ht, hk0, hk1, hk2, (rf_step hf 0 (by decide)), hp, sa, sb, sc, sd⟩
  · have h1 := inr_fp h1
    simp (disch := omega) only [f_X7_same, f_X8_same, bd_s, gd_tt, jn_s, lit32, gd_ix, nI_clamp, nI_add, pk_mul, nI_leI, nI_ltI, nI_eq, b2_0n, ite_f, ↓reduceIte, Bool.false_eq_true, Bool.true_eq_false, Nat.not_lt_zero, isb_b2, c_has, c_isHour, c_isKind, c_isPerson, m_isHour, m_isKind, m_isSheet, m_w, c_rN, c_rN2, cB, cF, cK, cN, cS, cM, cZ, mB, mF, mK, mN, mS, mM, mZ, k1, k2, h1]
    refine ⟨_, _, rfl, rfl, rfl, ?_⟩; exact ⟨v, e, hv, he, hm, hd, ⟨rfl, hlb, rfl, hls, rfl, hld, rfl, rfl, rfl⟩, hs, ht, hk0, hk1, hk2, (rf_step hf 0 (by decide)), hp, sa, sb, sc, sd⟩
