/-! ===== questions of nights ===== -/
def CW (v : Nat → Nat) (w : Nat → Int32) : Prop := ∀ n, n < nn v → w n = nI (wt v n)
theorem c_weight {v : Nat → Nat} {w : Nat → Int32} (hv : Vd v) (hw : CW v w) {n : Nat} (hn : n < nn v) : f_X2_weight w (nI (dc v)) (nI n) = some (nI (wt v n)) := by
  have h64 := nn_le hv
  unfold f_X2_weight
  rw [if_neg (nI_pos (by omega)), c_size hv, bd_s, if_neg (nI_ge hn (by omega)), gd_ix (by omega) (by decide), nI_clamp (by omega), hw n hn]
theorem c_holds {v : Nat → Nat} {w : Nat → Int32} (hv : Vd v) (hw : CW v w) {n : Nat} (hn : n < nn v) : f_X2_holds w (nI (dc v)) (nI n) = some (b2 (decide (0 < wt v n))) := by
  have h1 := wt_le hv n
  unfold f_X2_holds
  rw [c_weight hv hw hn, bd_s]
  by_cases q : 0 < wt v n
  · rw [if_neg (nI_nle q (by omega)), decide_eq_true q]; rfl
  · rw [decide_eq_false q, show wt v n = 0 by omega]; rfl
def cnH (v : Nat → Nat) : Nat → Nat := smn (fun n => if 0 < wt v n then 1 else 0)
theorem cnH_s (v : Nat → Nat) (k : Nat) : cnH v (k + 1) = cnH v k + (if 0 < wt v k then 1 else 0) := rfl
theorem cnH_le (v : Nat → Nat) (k : Nat) : cnH v k ≤ k := by
  have := sm_le (g := fun n => if 0 < wt v n then 1 else 0) (c := 1) (fun n => by split <;> omega) k
  unfold cnH; omega
theorem c_many4 {v : Nat → Nat} {w : Nat → Int32} (hv : Vd v) (hw : CW v w) : ∀ d f k, k + d = nn v → d < f → f_X2_howManyHold_4 w (nI (dc v)) f (nI (cnH v k)) (nI k) = some (nI (cnH v (nn v)))
  | 0, f, k, hk, hf => by
    have h64 := nn_le hv
    cases f with
    | zero => omega
    | succ f =>
      unfold f_X2_howManyHold_4
      rw [c_size hv, bd_s, if_pos (nI_le (by omega) (by omega)), show k = nn v by omega]
  | d + 1, f, k, hk, hf => by
    have h64 := nn_le hv
    cases f with
    | zero => omega
    | succ f =>
      have ih := c_many4 hv hw d f (k + 1) (by omega) (by omega)
      unfold f_X2_howManyHold_4
      rw [c_size hv, bd_s, if_neg (nI_ge (by omega) (by omega)), c_holds hv hw (by omega), bd_s, ← ih]
      rw [cnH_s]
      by_cases q : 0 < wt v k
      · rw [decide_eq_true q, if_neg (show ¬ b2 true = 0 by decide), bd_s, if_pos q, nI_1, nI_1]
      · rw [decide_eq_false q, if_pos (show b2 false = 0 by decide), bd_s, if_neg q, nI_1, Nat.add_zero (cnH v k)]
theorem m_many9 {v : Nat → Nat} {W : Nat → Int64} (hv : Vd v) (hw : MW v W) : ∀ d f k, k + d = nn v → d < f → f_X8_nights_9 (nI (dc v)) W f (nI (cnH v k)) (nI k) = some (nI (cnH v (nn v)))
  | 0, f, k, hk, hf => by
    have h64 := nn_le hv
    cases f with
    | zero => omega
    | succ f =>
      unfold f_X8_nights_9
      rw [n_there hv, bd_s, if_pos (nI_le (by omega) (by omega)), show k = nn v by omega]
  | d + 1, f, k, hk, hf => by
    have h64 := nn_le hv
    have hwk := wt_le hv k
    cases f with
    | zero => omega
    | succ f =>
      have ih := m_many9 hv hw d f (k + 1) (by omega) (by omega)
      unfold f_X8_nights_9
      rw [n_there hv, bd_s, if_neg (nI_ge (by omega) (by omega)), gd_ix (by omega) (by decide), nI_clamp (by omega), hw k (by omega), show (0 : Int64) = lN 0 from rfl, show (0 : Int32) = nI 0 from rfl, ← ih]
      rw [cnH_s]
      by_cases q : 0 < wt v k
      · rw [if_neg (by rw [lgc_le (by omega)]; omega), bd_s, if_pos q, nI_1, nI_1]
      · rw [if_pos (by rw [lgc_le (by omega)]; omega), bd_s, if_neg q, nI_1, nI_add]
set_option maxHeartbeats 16000000 in
theorem op_nights {N : Nat} (hN : 2000 ≤ N) : Op_nights Rl N := by
  intro C_isKept C_l_bsize C_l_bcells C_l_ssize C_l_scells C_l_dsize C_l_dcells C_l_people C_l_rule C_l_believed C_k_bsize C_k_bcells C_k_ssize C_k_scells C_k_dsize C_k_dcells C_k_people C_k_rule C_k_believed C_d_bsize C_d_bcells C_d_ssize C_d_scells C_d_dsize C_d_dcells C_d_people C_d_rule C_d_believed C_order C_stepsAt C_doubts C_weights C_rows C_metEver C_bowedTo C_isStale C_bowCount C_doubtCount C_seenBows C_likeliest C_mostSayingsSo C_doers C_isTelling C_tbytes C_tlen C_token C_place C_behindIt C_value C_sa_nums C_sa_bits C_sa_len C_sb_nums C_sb_bits C_sb_len C_sc_nums C_sc_bits C_sc_len C_sd_nums C_sd_bits C_sd_len C_findings M_now M_kept M_isKept M_found M_order M_doubts M_doubtMany M_weights M_worn M_pairs M_isTwice M_doer M_doneTo M_doers M_tape M_taped M_begins M_ends M_sort M_value M_isWrong M_items M_itemMany M_bowThen M_doubtThen M_deedThen M_sayingThen M_widths M_sizes M_numbers M_moved  hR 
  obtain ⟨v, e, hv, he, hm, hd, hl, hs, ht, hk0, hk1, hk2, hf, hp, sa, sb, sc, sd⟩ := hR
  obtain ⟨rfl, hlb, rfl, hls, rfl, hld, rfl, rfl, rfl⟩ := hl
  obtain ⟨o_, s_, d_, w_, r_, m_, b_, k_, n_, q_, l_, x_, ef, tb⟩ := c_look hlb hls hv hN C_order C_stepsAt C_doubts C_weights C_rows C_metEver C_bowedTo C_isStale C_bowCount C_doubtCount C_seenBows C_likeliest C_mostSayingsSo hs ht
  have tbb := tb
  obtain ⟨tb1, tb2, rfl, tb4, rfl, tb6, tb7, tb8, rfl, rfl⟩ := tb
  obtain ⟨mo, md, mw, mwo, mp, mt, em, ml, mW⟩ := m_weigh hm hv hN M_order M_doubts M_doubtMany M_weights M_worn M_pairs M_isTwice
  have h64 := nn_le hv
  have e1 : f_X2_howManyHold N w_ (nI (dc v)) = some (nI (cnH v (nn v))) := by
    unfold f_X2_howManyHold
    rw [show f_X2_howManyHold_4 w_ (nI (dc v)) N (0 : Int32) (0 : Int32) = some (nI (cnH v (nn v))) from c_many4 hv tb6 (nn v) N 0 (by omega) (by omega), bd_s]
  have e2 : f_X8_nights_9 (nI (dc v)) mw N (0 : Int32) (0 : Int32) = some (nI (cnH v (nn v))) := m_many9 hv mW (nn v) N 0 (by omega) (by omega)
  simp only [f_X7_nights, f_X8_nights, ef, em, bd_s, e1, e2]
  refine ⟨_, _, rfl, rfl, rfl, ?_⟩; exact ⟨v, e, hv, he, hm, hd, ⟨rfl, hlb, rfl, hls, rfl, hld, rfl, rfl, rfl⟩, Or.inl rfl, fun _ => tbb, hk0, hk1, hk2, hf, hp, sa, sb, sc, sd⟩
theorem c_all4 {v : Nat → Nat} {w : Nat → Int32} (hv : Vd v) (hw : CW v w) : ∀ d f k, k + d = nn v → d < f → f_X2_allWeights_4 w (nI (dc v)) f (lN (smn (wt v) k)) (nI k) = some (lN (alW v))
  | 0, f, k, hk, hf => by
    have h64 := nn_le hv
    cases f with
    | zero => omega
    | succ f =>
      unfold f_X2_allWeights_4
      rw [c_size hv, bd_s, if_pos (nI_le (by omega) (by omega)), show k = nn v by omega]; rfl
  | d + 1, f, k, hk, hf => by
    have h64 := nn_le hv
    have hwk := wt_le hv k
    cases f with
    | zero => omega
    | succ f =>
      have ih := c_all4 hv hw d f (k + 1) (by omega) (by omega)
      unfold f_X2_allWeights_4
      rw [c_size hv, bd_s, if_neg (nI_ge (by omega) (by omega)), c_weight hv hw (by omega), bd_s, nI_l (by omega), lN_add, nI_1]
      exact ih
theorem c_all {v : Nat → Nat} {w : Nat → Int32} (hv : Vd v) (hw : CW v w) {N : Nat} (hN : 2000 ≤ N) : f_X2_allWeights N w (nI (dc v)) = some (lN (alW v)) := by
  have h64 := nn_le hv
  unfold f_X2_allWeights
  rw [show f_X2_allWeights_4 w (nI (dc v)) N (0 : Int64) (0 : Int32) = some (lN (alW v)) from c_all4 hv hw (nn v) N 0 (by omega) (by omega), bd_s]
set_option maxHeartbeats 16000000 in
theorem op_all {N : Nat} (hN : 2000 ≤ N) : Op_all Rl N := by
  intro C_isKept C_l_bsize C_l_bcells C_l_ssize C_l_scells C_l_dsize C_l_dcells C_l_people C_l_rule C_l_believed C_k_bsize C_k_bcells C_k_ssize C_k_scells C_k_dsize C_k_dcells C_k_people C_k_rule C_k_believed C_d_bsize C_d_bcells C_d_ssize C_d_scells C_d_dsize C_d_dcells C_d_people C_d_rule C_d_believed C_order C_stepsAt C_doubts C_weights C_rows C_metEver C_bowedTo C_isStale C_bowCount C_doubtCount C_seenBows C_likeliest C_mostSayingsSo C_doers C_isTelling C_tbytes C_tlen C_token C_place C_behindIt C_value C_sa_nums C_sa_bits C_sa_len C_sb_nums C_sb_bits C_sb_len C_sc_nums C_sc_bits C_sc_len C_sd_nums C_sd_bits C_sd_len C_findings M_now M_kept M_isKept M_found M_order M_doubts M_doubtMany M_weights M_worn M_pairs M_isTwice M_doer M_doneTo M_doers M_tape M_taped M_begins M_ends M_sort M_value M_isWrong M_items M_itemMany M_bowThen M_doubtThen M_deedThen M_sayingThen M_widths M_sizes M_numbers M_moved  hR 
  obtain ⟨v, e, hv, he, hm, hd, hl, hs, ht, hk0, hk1, hk2, hf, hp, sa, sb, sc, sd⟩ := hR
  obtain ⟨rfl, hlb, rfl, hls, rfl, hld, rfl, rfl, rfl⟩ := hl
  obtain ⟨o_, s_, d_, w_, r_, m_, b_, k_, n_, q_, l_, x_, ef, tb⟩ := c_look hlb hls hv hN C_order C_stepsAt C_doubts C_weights C_rows C_metEver C_bowedTo C_isStale C_bowCount C_doubtCount C_seenBows C_likeliest C_mostSayingsSo hs ht
  have tbb := tb
  obtain ⟨tb1, tb2, rfl, tb4, rfl, tb6, tb7, tb8, rfl, rfl⟩ := tb
  obtain ⟨mo, md, mw, mwo, mp, mt, em, ml, mW⟩ := m_weigh hm hv hN M_order M_doubts M_doubtMany M_weights M_worn M_pairs M_isTwice
  simp only [f_X7_all, f_X8_all, ef, em, bd_s, c_all hv tb6 hN]
  refine ⟨_, _, rfl, rfl, rfl, ?_⟩; exact ⟨v, e, hv, he, hm, hd, ⟨rfl, hlb, rfl, hls, rfl, hld, rfl, rfl, rfl⟩, Or.inl rfl, fun _ => tbb, hk0, hk1, hk2, hf, hp, sa, sb, sc, sd⟩
/-! likeliest -/
theorem m_best9 {v : Nat → Nat} {W : Nat → Int64} (hv : Vd v) (hw : MW v W) : ∀ d f k, k + d = nn v → d < f → f_X8_bestNight_9 (nI (dc v)) W f (lkI (bst v k)) (nI k) = some (lkI (lkl v))
  | 0, f, k, hk, hf => by
    have h64 := nn_le hv
    cases f with
    | zero => omega
    | succ f =>
      unfold f_X8_bestNight_9
      rw [n_there hv, bd_s, if_pos (nI_le (by omega) (by omega)), show k = nn v by omega]; rfl
  | d + 1, f, k, hk, hf => by
    have h64 := nn_le hv
    have hwk := wt_le hv k
    cases f with
    | zero => omega
    | succ f =>
      have ih := m_best9 hv hw d f (k + 1) (by omega) (by omega)
      unfold f_X8_bestNight_9
      rw [n_there hv, bd_s, if_neg (nI_ge (by omega) (by omega)), gd_ix (by omega) (by decide), nI_clamp (by omega), hw k (by omega), ← ih]
      cases hb : bst v k with
      | none =>
        have e7 : bst v (k + 1) = if 0 < wt v k then some k else none := by
          show (if _ then _ else bst v k) = _
          rw [hb]
        rw [show lkI none = -nI 1 from rfl, if_neg (show ¬ (0 : Int32) ≤ -nI 1 by decide), bd_s, show (0 : Int64) = lN 0 from rfl, show (0 : Int32) = nI 0 from rfl, e7]
        by_cases q : 0 < wt v k
        · rw [if_neg (by rw [lgc_le (by omega)]; omega), if_pos q, bd_s, nI_1]; rfl
        · rw [if_pos (by rw [lgc_le (by omega)]; omega), if_neg q, bd_s, nI_1]; rfl
      | some b =>
        have hbl := bst_64 hb
        have hwb := wt_le hv b
        have e7 : bst v (k + 1) = if wt v b < wt v k then some k else some b := by
          show (if _ then _ else bst v k) = _
          rw [hb]
        rw [show lkI (some b) = nI b from rfl, if_pos (nI_pos' (by omega)), gd_ix (by omega) (by decide), bd_s, nI_clamp (by omega), hw b (by omega), e7]
        by_cases q : wt v b < wt v k
        · rw [if_neg (fun z => by have := (pk_lLE (by omega) (by omega)).mp ((lg_cmp_le _ _).mp z); omega), if_pos q, bd_s, nI_1]; rfl
        · rw [if_pos ((lg_cmp_le _ _).mpr ((pk_lLE (by omega) (by omega)).mpr (by omega))), if_neg q, bd_s, nI_1]; rfl
theorem m_best {v : Nat → Nat} {now : Nat → Int32} (h : RN v now) (hv : Vd v) {N : Nat} (hN : 2000 ≤ N) (order doubts : Nat → Int32) (dm : Int32) (weights : Nat → Int64) (worn : Nat → Int32) (pairs : Int64) (tw : Int32) :
    ∃ o d W w p t, f_X8_bestNight N now order doubts dm weights worn pairs tw = some (lkI (lkl v), o, d, nI (dc v), W, w, p, t) ∧ ML v o d (nI (dc v)) ∧ MW v W := by
  have h64 := nn_le hv
  obtain ⟨o, d, W, w, p, t, e1, e2, e3⟩ := m_weigh h hv hN order doubts dm weights worn pairs tw
  refine ⟨o, d, W, w, p, t, ?_, e2, e3⟩
  unfold f_X8_bestNight
  rw [e1, bd_s]
  dsimp only
  rw [show f_X8_bestNight_9 (nI (dc v)) W N (-1 : Int32) (0 : Int32) = some (lkI (lkl v)) from m_best9 hv e3 (nn v) N 0 (by omega) (by omega), bd_s]
/-- all bows made in a night, as the reference gathers them -/
def mdO (v : Nat → Nat) (n : Nat) : Nat → Nat := orr (fun b => if mad v n b = true then 2 ^ b else 0)
theorem mdO_s (v : Nat → Nat) (n k : Nat) : mdO v n (k + 1) = mdO v n k ||| (if mad v n k = true then 2 ^ k else 0) := rfl
theorem mdO_lt (v : Nat → Nat) (n : Nat) : ∀ k, mdO v n k < 2 ^ k
  | 0 => Nat.zero_lt_one
  | k + 1 => by
    have h1 := mdO_lt v n k
    have h2 : 2 ^ k < 2 ^ (k + 1) := Nat.pow_lt_pow_right (by decide) (by omega)
    rw [mdO_s]
    refine Nat.or_lt_two_pow (by omega) ?_
    split <;> omega
theorem mdO_bit (v : Nat → Nat) (n b : Nat) : ∀ k, (mdO v n k).testBit b = (decide (b < k) && mad v n b)
  | 0 => by show (0 : Nat).testBit b = _; rw [Nat.zero_testBit, decide_eq_false (by omega)]; rfl
  | k + 1 => by
    rw [mdO_s, Nat.testBit_or, mdO_bit v n b k]
    by_cases q : b = k
    · subst q
      rw [decide_eq_false (Nat.lt_irrefl b), decide_eq_true (Nat.lt_succ_self b)]
      by_cases qm : mad v n b = true
      · rw [if_pos qm, Nat.testBit_two_pow_self, qm]; rfl
      · rw [if_neg qm, Nat.zero_testBit]; simp at qm; rw [qm]; rfl
    · have e1 : (if mad v n k = true then 2 ^ k else 0).testBit b = false := by
        split
        · rw [Nat.testBit_two_pow, decide_eq_false (fun w => q w.symm)]
        · exact Nat.zero_testBit _
      rw [e1, Bool.or_false, show decide (b < k + 1) = decide (b < k) from decide_eq_decide.mpr (by omega)]
theorem bod_lt2 (v : Nat → Nat) (n : Nat) : ∀ k, k ≤ dc v → bod v n k < 2 ^ v 3
  | 0, _ => Nat.two_pow_pos _
  | k + 1, h => by
    have := (dh_is (v := v) (k := k) (by omega)).1
    refine Nat.or_lt_two_pow (bod_lt2 v n k (by omega)) ?_
    split
    · exact Nat.pow_lt_pow_right (by decide) this
    · exact Nat.two_pow_pos _
theorem mdS_O (v : Nat → Nat) (n : Nat) : mdO v n (v 3) = mdS v n := by
  apply Nat.eq_of_testBit_eq
  intro b
  rw [mdO_bit]
  by_cases q : b < v 3
  · rw [mdS_bit n q, decide_eq_true q, Bool.true_and]
  · rw [decide_eq_false q, Bool.false_and]
    have h1 : mdS v n < 2 ^ v 3 := Nat.or_lt_two_pow (seb_lt v (v 3)) (bod_lt2 v n (dc v) (Nat.le_refl _))
    exact (Nat.testBit_lt_two_pow (Nat.lt_of_lt_of_le h1 (Nat.pow_le_pow_right (by decide) (by omega)))).symm
theorem m_lik20 {v : Nat → Nat} {now : Nat → Int32} (h : RN v now) (hv : Vd v) {N : Nat} (hN : 2000 ≤ N) {doubts : Nat → Int32} (hd : ∀ i, i < dc v → doubts i = nI (dh v i)) {n : Nat} (hn : n < nn v) : ∀ d f k, k + d = v 3 → d < f → f_X8_likeliest_20 N (nI n) now doubts (nI (dc v)) f (nI (mdO v n k)) (nI k) = some (nI (mdO v n (v 3)))
  | 0, f, k, hk, hf => by
    have h3 := vd_3 hv
    cases f with
    | zero => omega
    | succ f =>
      have hc : v 3 ≤ k := by omega
      simp (disch := omega) only [f_X8_likeliest_20, bd_s, gd_tt, jn_s, lit32, gd_ix, nI_clamp, nI_add, pk_mul, nI_leI, nI_ltI, nI_eq, b2_0n, ite_f, ↓reduceIte, Bool.false_eq_true, Bool.true_eq_false, Nat.not_lt_zero, isb_b2, c_has, c_isHour, c_isKind, c_isPerson, m_isHour, m_isKind, m_isSheet, m_w, c_rN, c_rN2, cB, cF, cK, cN, cS, cM, cZ, mB, mF, mK, mN, mS, mM, mZ, rn_at h, hc]
      rw [show k = v 3 by omega]
  | d + 1, f, k, hk, hf => by
    have h3 := vd_3 hv
    cases f with
    | zero => omega
    | succ f =>
      have hc : ¬ v 3 ≤ k := by omega
      have ih := m_lik20 h hv hN hd hn d f (k + 1) (by omega) (by omega)
      simp (disch := omega) only [f_X8_likeliest_20, bd_s, gd_tt, jn_s, lit32, gd_ix, nI_clamp, nI_add, pk_mul, nI_leI, nI_ltI, nI_eq, b2_0n, ite_f, ↓reduceIte, Bool.false_eq_true, Bool.true_eq_false, Nat.not_lt_zero, isb_b2, c_has, c_isHour, c_isKind, c_isPerson, m_isHour, m_isKind, m_isSheet, m_w, c_rN, c_rN2, cB, cF, cK, cN, cS, cM, cZ, mB, mF, mK, mN, mS, mM, mZ, rn_at h, hc, m_made hv hN hd (b := k) (by omega) hn, nI_31, nI_1shl, some_ite]
      rw [← ih]
      rw [mdO_s]
      by_cases q : mad v n k = true
      · rw [if_pos q, if_pos q, nI_or]
      · rw [if_neg q, if_neg q, nI_or]
theorem c_some {v : Nat → Nat} (hv : Vd v) : f_X2_someHolds (lkI (lkl v)) = some (b2 (lkl v).isSome) := by
  have h64 := nn_le hv
  unfold f_X2_someHolds
  cases h : lkl v with
  | none => rfl
  | some b =>
    have := bst_64 h
    rw [show lkI (some b) = nI b from rfl, show (-1 : Int32) = -nI 1 from rfl, if_neg (by rw [nI_nm1 (by omega)]; exact id)]; rfl
theorem lkl_lt {v : Nat → Nat} {b : Nat} (h : lkl v = some b) : b < nn v := bst_64 h
set_option maxHeartbeats 16000000 in
theorem op_likeliest {N : Nat} (hN : 2000 ≤ N) : Op_likeliest Rl N := by
  intro C_isKept C_l_bsize C_l_bcells C_l_ssize C_l_scells C_l_dsize C_l_dcells C_l_people C_l_rule C_l_believed C_k_bsize C_k_bcells C_k_ssize C_k_scells C_k_dsize C_k_dcells C_k_people C_k_rule C_k_believed C_d_bsize C_d_bcells C_d_ssize C_d_scells C_d_dsize C_d_dcells C_d_people C_d_rule C_d_believed C_order C_stepsAt C_doubts C_weights C_rows C_metEver C_bowedTo C_isStale C_bowCount C_doubtCount C_seenBows C_likeliest C_mostSayingsSo C_doers C_isTelling C_tbytes C_tlen C_token C_place C_behindIt C_value C_sa_nums C_sa_bits C_sa_len C_sb_nums C_sb_bits C_sb_len C_sc_nums C_sc_bits C_sc_len C_sd_nums C_sd_bits C_sd_len C_findings M_now M_kept M_isKept M_found M_order M_doubts M_doubtMany M_weights M_worn M_pairs M_isTwice M_doer M_doneTo M_doers M_tape M_taped M_begins M_ends M_sort M_value M_isWrong M_items M_itemMany M_bowThen M_doubtThen M_deedThen M_sayingThen M_widths M_sizes M_numbers M_moved  hR 
  obtain ⟨v, e, hv, he, hm, hd, hl, hs, ht, hk0, hk1, hk2, hf, hp, sa, sb, sc, sd⟩ := hR
  obtain ⟨rfl, hlb, rfl, hls, rfl, hld, rfl, rfl, rfl⟩ := hl
  obtain ⟨o_, s_, d_, w_, r_, m_, b_, k_, n_, q_, l_, x_, ef, tb⟩ := c_look hlb hls hv hN C_order C_stepsAt C_doubts C_weights C_rows C_metEver C_bowedTo C_isStale C_bowCount C_doubtCount C_seenBows C_likeliest C_mostSayingsSo hs ht
  have tbb := tb
  obtain ⟨tb1, tb2, rfl, tb4, rfl, tb6, tb7, tb8, rfl, rfl⟩ := tb
  obtain ⟨mo, md, mw, mwo, mp, mt, em, ml, mW⟩ := m_best hm hv hN M_order M_doubts M_doubtMany M_weights M_worn M_pairs M_isTwice
  have h64 := nn_le hv
  have h3 := vd_3 hv
  cases hk : lkl v with
  | none =>
    have hz : ¬ nI 0 ≤ -nI 1 := by decide
    have es : f_X2_someHolds (-nI 1) = some (b2 false) := by have := c_some hv; rw [hk] at this; exact this
    simp only [f_X7_likeliest, f_X8_likeliest, ef, em, bd_s, gd_tt, jn_s, lit32, gd_ix, nI_clamp, nI_add, pk_mul, nI_leI, nI_ltI, nI_eq, b2_0n, ite_f, ↓reduceIte, Bool.false_eq_true, Bool.true_eq_false, Nat.not_lt_zero, isb_b2, c_has, c_isHour, c_isKind, c_isPerson, m_isHour, m_isKind, m_isSheet, m_w, c_rN, c_rN2, cB, cF, cK, cN, cS, cM, cZ, mB, mF, mK, mN, mS, mM, mZ, es, hk, show lkI none = -nI 1 from rfl, hz]
    rw [hk] at tbb
    refine ⟨_, _, rfl, rfl, rfl, ?_⟩; exact ⟨v, e, hv, he, hm, hd, ⟨rfl, hlb, rfl, hls, rfl, hld, rfl, rfl, rfl⟩, Or.inl rfl, fun _ => tbb, hk0, hk1, hk2, (rf_step hf 3 (by decide)), hp, sa, sb, sc, sd⟩
  | some n =>
    have hn := lkl_lt hk
    have hz : nI 0 ≤ nI n := nI_pos' (by omega)
    have e1 : f_X2_bowsMadeIn N d_ (nI (dc v)) (nI (seb v (v 3))) (nI n) = some (nI (mdS v n)) := c_madeIn hv tb4 hN (by omega)
    have e2 : f_X8_likeliest_20 N (nI n) M_now md (nI (dc v)) N (nI 0) (nI 0) = some (nI (mdO v n (v 3))) := m_lik20 hm hv hN ml.2.2 hn (v 3) N 0 (by omega) (by omega)
    rw [mdS_O] at e2
    have es : f_X2_someHolds (nI n) = some (b2 true) := by have := c_some hv; rw [hk] at this; exact this
    simp only [f_X7_likeliest, f_X8_likeliest, ef, em, bd_s, gd_tt, jn_s, lit32, gd_ix, nI_clamp, nI_add, pk_mul, nI_leI, nI_ltI, nI_eq, b2_0n, ite_f, ↓reduceIte, Bool.false_eq_true, Bool.true_eq_false, Nat.not_lt_zero, isb_b2, c_has, c_isHour, c_isKind, c_isPerson, m_isHour, m_isKind, m_isSheet, m_w, c_rN, c_rN2, cB, cF, cK, cN, cS, cM, cZ, mB, mF, mK, mN, mS, mM, mZ, es, hk, show lkI (some n) = nI n from rfl, hz, f_X2_likeliestNight, e1, e2]
    rw [hk] at tbb
    refine ⟨_, _, rfl, rfl, rfl, ?_⟩; exact ⟨v, e, hv, he, hm, hd, ⟨rfl, hlb, rfl, hls, rfl, hld, rfl, rfl, rfl⟩, Or.inl rfl, fun _ => tbb, hk0, hk1, hk2, hf, hp, sa, sb, sc, sd⟩
