/-! ===== the first ops ===== -/
theorem st_abs {P : Prop} (h : nI 1 = nI 0) : P := absurd h (by decide)
theorem ve_60 {v e : Nat → Nat} (h : Ve v e) : e 60 ≤ 12 := h.1
set_option maxHeartbeats 16000000 in
theorem op_bowOf {N : Nat} (hN : 2000 ≤ N) : Op_bowOf Rl N := by
  intro C_isKept C_l_bsize C_l_bcells C_l_ssize C_l_scells C_l_dsize C_l_dcells C_l_people C_l_rule C_l_believed C_k_bsize C_k_bcells C_k_ssize C_k_scells C_k_dsize C_k_dcells C_k_people C_k_rule C_k_believed C_d_bsize C_d_bcells C_d_ssize C_d_scells C_d_dsize C_d_dcells C_d_people C_d_rule C_d_believed C_order C_stepsAt C_doubts C_weights C_rows C_metEver C_bowedTo C_isStale C_bowCount C_doubtCount C_seenBows C_likeliest C_mostSayingsSo C_doers C_isTelling C_tbytes C_tlen C_token C_place C_behindIt C_value C_sa_nums C_sa_bits C_sa_len C_sb_nums C_sb_bits C_sb_len C_sc_nums C_sc_bits C_sc_len C_sd_nums C_sd_bits C_sd_len C_findings M_now M_kept M_isKept M_found M_order M_doubts M_doubtMany M_weights M_worn M_pairs M_isTwice M_doer M_doneTo M_doers M_tape M_taped M_begins M_ends M_sort M_value M_isWrong M_items M_itemMany M_bowThen M_doubtThen M_deedThen M_sayingThen M_widths M_sizes M_numbers M_moved a1 a2 hR 
  obtain ⟨v, e, hv, he, hm, hd, hl, hs, ht, hk0, hk1, hk2, hf, hp, sa, sb, sc, sd⟩ := hR
  have h3 := vd_3 hv
  obtain ⟨rfl, hlb, rfl, hls, rfl, hld, rfl, rfl, rfl⟩ := hl
  have k2 := m_isBow hm hv a1
  by_cases h1 : inr a1 (v 3) = true
  · by_cases h2 : inr a2 4 = true
    · obtain ⟨b, hb, rfl⟩ := inr_t (by omega) h1
      obtain ⟨i, hi, rfl⟩ := inr_t (by decide) h2
      simp (disch := omega) only [f_X7_bowOf, f_X8_bowOf, bd_s, gd_tt, jn_s, lit32, gd_ix, nI_clamp, nI_add, pk_mul, nI_leI, nI_ltI, nI_eq, b2_0n, ite_f, ↓reduceIte, Bool.false_eq_true, Bool.true_eq_false, Nat.not_lt_zero, isb_b2, c_has, c_isHour, c_isKind, c_isPerson, m_isHour, m_isKind, m_isSheet, m_w, c_rN, c_rN2, cB, cF, cK, cN, cS, cM, cZ, mB, mF, mK, mN, mS, mM, mZ, k2, h1, h2, hi, m_bowIs hm, c_bow hlb, if_pos, Nat.reduceAdd]
      refine ⟨_, _, rfl, rfl, rfl, ?_⟩; exact ⟨v, e, hv, he, hm, hd, ⟨rfl, hlb, rfl, hls, rfl, hld, rfl, rfl, rfl⟩, hs, ht, hk0, hk1, hk2, hf, hp, sa, sb, sc, sd⟩
    · have h2 : inr a2 4 = false := by simpa using h2
      simp (disch := omega) only [f_X7_bowOf, f_X8_bowOf, bd_s, gd_tt, jn_s, lit32, gd_ix, nI_clamp, nI_add, pk_mul, nI_leI, nI_ltI, nI_eq, b2_0n, ite_f, ↓reduceIte, Bool.false_eq_true, Bool.true_eq_false, Nat.not_lt_zero, isb_b2, c_has, c_isHour, c_isKind, c_isPerson, m_isHour, m_isKind, m_isSheet, m_w, c_rN, c_rN2, cB, cF, cK, cN, cS, cM, cZ, mB, mF, mK, mN, mS, mM, mZ, k2, h1, h2, Nat.reduceAdd]
      refine ⟨_, _, rfl, rfl, rfl, ?_⟩; exact ⟨v, e, hv, he, hm, hd, ⟨rfl, hlb, rfl, hls, rfl, hld, rfl, rfl, rfl⟩, hs, ht, hk0, hk1, hk2, (rf_step hf 0 (by decide)), hp, sa, sb, sc, sd⟩
  · have h1 : inr a1 (v 3) = false := by simpa using h1
    simp (disch := omega) only [f_X7_bowOf, f_X8_bowOf, bd_s, gd_tt, jn_s, lit32, gd_ix, nI_clamp, nI_add, pk_mul, nI_leI, nI_ltI, nI_eq, b2_0n, ite_f, ↓reduceIte, Bool.false_eq_true, Bool.true_eq_false, Nat.not_lt_zero, isb_b2, c_has, c_isHour, c_isKind, c_isPerson, m_isHour, m_isKind, m_isSheet, m_w, c_rN, c_rN2, cB, cF, cK, cN, cS, cM, cZ, mB, mF, mK, mN, mS, mM, mZ, k2, h1]
    refine ⟨_, _, rfl, rfl, rfl, ?_⟩; exact ⟨v, e, hv, he, hm, hd, ⟨rfl, hlb, rfl, hls, rfl, hld, rfl, rfl, rfl⟩, hs, ht, hk0, hk1, hk2, (rf_step hf 0 (by decide)), hp, sa, sb, sc, sd⟩
set_option maxHeartbeats 16000000 in
theorem op_sayingOf {N : Nat} (hN : 2000 ≤ N) : Op_sayingOf Rl N := by
  intro C_isKept C_l_bsize C_l_bcells C_l_ssize C_l_scells C_l_dsize C_l_dcells C_l_people C_l_rule C_l_believed C_k_bsize C_k_bcells C_k_ssize C_k_scells C_k_dsize C_k_dcells C_k_people C_k_rule C_k_believed C_d_bsize C_d_bcells C_d_ssize C_d_scells C_d_dsize C_d_dcells C_d_people C_d_rule C_d_believed C_order C_stepsAt C_doubts C_weights C_rows C_metEver C_bowedTo C_isStale C_bowCount C_doubtCount C_seenBows C_likeliest C_mostSayingsSo C_doers C_isTelling C_tbytes C_tlen C_token C_place C_behindIt C_value C_sa_nums C_sa_bits C_sa_len C_sb_nums C_sb_bits C_sb_len C_sc_nums C_sc_bits C_sc_len C_sd_nums C_sd_bits C_sd_len C_findings M_now M_kept M_isKept M_found M_order M_doubts M_doubtMany M_weights M_worn M_pairs M_isTwice M_doer M_doneTo M_doers M_tape M_taped M_begins M_ends M_sort M_value M_isWrong M_items M_itemMany M_bowThen M_doubtThen M_deedThen M_sayingThen M_widths M_sizes M_numbers M_moved a1 a2 hR 
  obtain ⟨v, e, hv, he, hm, hd, hl, hs, ht, hk0, hk1, hk2, hf, hp, sa, sb, sc, sd⟩ := hR
  have h3 := vd_5 hv
  have k1 : M_now 5 = nI (v 5) := rn_at hm (by omega) (by omega) (by omega)
  obtain ⟨rfl, hlb, rfl, hls, rfl, hld, rfl, rfl, rfl⟩ := hl
  by_cases h1 : inr a1 (v 5) = true
  · by_cases h2 : inr a2 4 = true
    · obtain ⟨b, hb, rfl⟩ := inr_t (by omega) h1
      obtain ⟨i, hi, rfl⟩ := inr_t (by decide) h2
      simp (disch := omega) only [f_X7_sayingOf, f_X8_sayingOf, bd_s, gd_tt, jn_s, lit32, gd_ix, nI_clamp, nI_add, pk_mul, nI_leI, nI_ltI, nI_eq, b2_0n, ite_f, ↓reduceIte, Bool.false_eq_true, Bool.true_eq_false, Nat.not_lt_zero, isb_b2, c_has, c_isHour, c_isKind, c_isPerson, m_isHour, m_isKind, m_isSheet, m_w, c_rN, c_rN2, cB, cF, cK, cN, cS, cM, cZ, mB, mF, mK, mN, mS, mM, mZ, k1, m_wn, h1, h2, hi, m_sayingIs hm, c_say hls, if_pos, Nat.reduceAdd]
      refine ⟨_, _, rfl, rfl, rfl, ?_⟩; exact ⟨v, e, hv, he, hm, hd, ⟨rfl, hlb, rfl, hls, rfl, hld, rfl, rfl, rfl⟩, hs, ht, hk0, hk1, hk2, hf, hp, sa, sb, sc, sd⟩
    · have h2 : inr a2 4 = false := by simpa using h2
      simp (disch := omega) only [f_X7_sayingOf, f_X8_sayingOf, bd_s, gd_tt, jn_s, lit32, gd_ix, nI_clamp, nI_add, pk_mul, nI_leI, nI_ltI, nI_eq, b2_0n, ite_f, ↓reduceIte, Bool.false_eq_true, Bool.true_eq_false, Nat.not_lt_zero, isb_b2, c_has, c_isHour, c_isKind, c_isPerson, m_isHour, m_isKind, m_isSheet, m_w, c_rN, c_rN2, cB, cF, cK, cN, cS, cM, cZ, mB, mF, mK, mN, mS, mM, mZ, k1, m_wn, h1, h2, Nat.reduceAdd]
      refine ⟨_, _, rfl, rfl, rfl, ?_⟩; exact ⟨v, e, hv, he, hm, hd, ⟨rfl, hlb, rfl, hls, rfl, hld, rfl, rfl, rfl⟩, hs, ht, hk0, hk1, hk2, (rf_step hf 0 (by decide)), hp, sa, sb, sc, sd⟩
  · have h1 : inr a1 (v 5) = false := by simpa using h1
    simp (disch := omega) only [f_X7_sayingOf, f_X8_sayingOf, bd_s, gd_tt, jn_s, lit32, gd_ix, nI_clamp, nI_add, pk_mul, nI_leI, nI_ltI, nI_eq, b2_0n, ite_f, ↓reduceIte, Bool.false_eq_true, Bool.true_eq_false, Nat.not_lt_zero, isb_b2, c_has, c_isHour, c_isKind, c_isPerson, m_isHour, m_isKind, m_isSheet, m_w, c_rN, c_rN2, cB, cF, cK, cN, cS, cM, cZ, mB, mF, mK, mN, mS, mM, mZ, k1, m_wn, h1]
    refine ⟨_, _, rfl, rfl, rfl, ?_⟩; exact ⟨v, e, hv, he, hm, hd, ⟨rfl, hlb, rfl, hls, rfl, hld, rfl, rfl, rfl⟩, hs, ht, hk0, hk1, hk2, (rf_step hf 0 (by decide)), hp, sa, sb, sc, sd⟩
set_option maxHeartbeats 16000000 in
theorem op_wipe {N : Nat} (hN : 2000 ≤ N) : Op_wipe Rl N := by
  intro C_isKept C_l_bsize C_l_bcells C_l_ssize C_l_scells C_l_dsize C_l_dcells C_l_people C_l_rule C_l_believed C_k_bsize C_k_bcells C_k_ssize C_k_scells C_k_dsize C_k_dcells C_k_people C_k_rule C_k_believed C_d_bsize C_d_bcells C_d_ssize C_d_scells C_d_dsize C_d_dcells C_d_people C_d_rule C_d_believed C_order C_stepsAt C_doubts C_weights C_rows C_metEver C_bowedTo C_isStale C_bowCount C_doubtCount C_seenBows C_likeliest C_mostSayingsSo C_doers C_isTelling C_tbytes C_tlen C_token C_place C_behindIt C_value C_sa_nums C_sa_bits C_sa_len C_sb_nums C_sb_bits C_sb_len C_sc_nums C_sc_bits C_sc_len C_sd_nums C_sd_bits C_sd_len C_findings M_now M_kept M_isKept M_found M_order M_doubts M_doubtMany M_weights M_worn M_pairs M_isTwice M_doer M_doneTo M_doers M_tape M_taped M_begins M_ends M_sort M_value M_isWrong M_items M_itemMany M_bowThen M_doubtThen M_deedThen M_sayingThen M_widths M_sizes M_numbers M_moved  hR 
  obtain ⟨v, e, hv, he, hm, hd, hl, hs, ht, hk0, hk1, hk2, hf, hp, sa, sb, sc, sd⟩ := hR
  obtain ⟨n, t, h1, h2, h3, h4⟩ := hp
  exact ⟨_, _, rfl, rfl, h2.trans h3.symm, v, e, hv, he, hm, hd, hl, hs, ht, hk0, hk1, hk2, hf, ⟨0, t, by decide, rfl, rfl, fun j hj => absurd hj (Nat.not_lt_zero _)⟩, sa, sb, sc, sd⟩
set_option maxHeartbeats 16000000 in
theorem op_tear {N : Nat} (hN : 2000 ≤ N) : Op_tear Rl N := by
  intro C_isKept C_l_bsize C_l_bcells C_l_ssize C_l_scells C_l_dsize C_l_dcells C_l_people C_l_rule C_l_believed C_k_bsize C_k_bcells C_k_ssize C_k_scells C_k_dsize C_k_dcells C_k_people C_k_rule C_k_believed C_d_bsize C_d_bcells C_d_ssize C_d_scells C_d_dsize C_d_dcells C_d_people C_d_rule C_d_believed C_order C_stepsAt C_doubts C_weights C_rows C_metEver C_bowedTo C_isStale C_bowCount C_doubtCount C_seenBows C_likeliest C_mostSayingsSo C_doers C_isTelling C_tbytes C_tlen C_token C_place C_behindIt C_value C_sa_nums C_sa_bits C_sa_len C_sb_nums C_sb_bits C_sb_len C_sc_nums C_sc_bits C_sc_len C_sd_nums C_sd_bits C_sd_len C_findings M_now M_kept M_isKept M_found M_order M_doubts M_doubtMany M_weights M_worn M_pairs M_isTwice M_doer M_doneTo M_doers M_tape M_taped M_begins M_ends M_sort M_value M_isWrong M_items M_itemMany M_bowThen M_doubtThen M_deedThen M_sayingThen M_widths M_sizes M_numbers M_moved  hR 
  obtain ⟨v, e, hv, he, hm, hd, hl, hs, ht, hk0, hk1, hk2, hf, hp, sa, sb, sc, sd⟩ := hR
  subst hk1
  rcases hk0 with h | h
  · subst h
    exact ⟨_, _, rfl, rfl, rfl, v, e, hv, he, hm, hd, hl, hs, ht, Or.inl rfl, rfl, fun z => absurd z (by decide), hf, hp, sa, sb, sc, sd⟩
  · subst h
    exact ⟨_, _, rfl, rfl, rfl, v, e, hv, he, hm, hd, hl, hs, ht, Or.inl rfl, rfl, fun z => absurd z (by decide), hf, hp, sa, sb, sc, sd⟩
set_option maxHeartbeats 16000000 in
theorem op_count {N : Nat} (hN : 2000 ≤ N) : Op_count Rl N := by
  intro C_isKept C_l_bsize C_l_bcells C_l_ssize C_l_scells C_l_dsize C_l_dcells C_l_people C_l_rule C_l_believed C_k_bsize C_k_bcells C_k_ssize C_k_scells C_k_dsize C_k_dcells C_k_people C_k_rule C_k_believed C_d_bsize C_d_bcells C_d_ssize C_d_scells C_d_dsize C_d_dcells C_d_people C_d_rule C_d_believed C_order C_stepsAt C_doubts C_weights C_rows C_metEver C_bowedTo C_isStale C_bowCount C_doubtCount C_seenBows C_likeliest C_mostSayingsSo C_doers C_isTelling C_tbytes C_tlen C_token C_place C_behindIt C_value C_sa_nums C_sa_bits C_sa_len C_sb_nums C_sb_bits C_sb_len C_sc_nums C_sc_bits C_sc_len C_sd_nums C_sd_bits C_sd_len C_findings M_now M_kept M_isKept M_found M_order M_doubts M_doubtMany M_weights M_worn M_pairs M_isTwice M_doer M_doneTo M_doers M_tape M_taped M_begins M_ends M_sort M_value M_isWrong M_items M_itemMany M_bowThen M_doubtThen M_deedThen M_sayingThen M_widths M_sizes M_numbers M_moved a1 hR 
  obtain ⟨v, e, hv, he, hm, hd, hl, hs, ht, hk0, hk1, hk2, hf, hp, sa, sb, sc, sd⟩ := hR
  have h3 := vd_3 hv
  have k0 : M_now 0 = nI (v 0) := rn_at hm (by omega) (by omega) (by omega)
  have k3 : M_now 3 = nI (v 3) := rn_at hm (by omega) (by omega) (by omega)
  have k5 : M_now 5 = nI (v 5) := rn_at hm (by omega) (by omega) (by omega)
  have k4 : M_now 4 = nI (e 60) := hd.1
  obtain ⟨rfl, hlb, rfl, hls, rfl, hld, rfl, rfl, rfl⟩ := hl
  have hpp := hp
  obtain ⟨n, t, h1, rfl, rfl, h4⟩ := hp
  by_cases q0 : a1 = nI 0
  · simp (disch := omega) only [f_X7_count, f_X8_count, bd_s, gd_tt, jn_s, lit32, gd_ix, nI_clamp, nI_add, pk_mul, nI_leI, nI_ltI, nI_eq, b2_0n, ite_f, ↓reduceIte, Bool.false_eq_true, Bool.true_eq_false, Nat.not_lt_zero, isb_b2, c_has, c_isHour, c_isKind, c_isPerson, m_isHour, m_isKind, m_isSheet, m_w, c_rN, c_rN2, cB, cF, cK, cN, cS, cM, cZ, mB, mF, mK, mN, mS, mM, mZ, q0, k0]
    refine ⟨_, _, rfl, rfl, rfl, ?_⟩; exact ⟨v, e, hv, he, hm, hd, ⟨rfl, hlb, rfl, hls, rfl, hld, rfl, rfl, rfl⟩, hs, ht, hk0, hk1, hk2, hf, hpp, sa, sb, sc, sd⟩
  by_cases q1 : a1 = nI 1
  · simp (disch := omega) only [f_X7_count, f_X8_count, bd_s, gd_tt, jn_s, lit32, gd_ix, nI_clamp, nI_add, pk_mul, nI_leI, nI_ltI, nI_eq, b2_0n, ite_f, ↓reduceIte, Bool.false_eq_true, Bool.true_eq_false, Nat.not_lt_zero, isb_b2, c_has, c_isHour, c_isKind, c_isPerson, m_isHour, m_isKind, m_isSheet, m_w, c_rN, c_rN2, cB, cF, cK, cN, cS, cM, cZ, mB, mF, mK, mN, mS, mM, mZ, q1, k3, f_X4_size, if_pos, if_neg]
    refine ⟨_, _, rfl, rfl, rfl, ?_⟩; exact ⟨v, e, hv, he, hm, hd, ⟨rfl, hlb, rfl, hls, rfl, hld, rfl, rfl, rfl⟩, hs, ht, hk0, hk1, hk2, hf, hpp, sa, sb, sc, sd⟩
  by_cases q2 : a1 = nI 2
  · simp (disch := omega) only [f_X7_count, f_X8_count, bd_s, gd_tt, jn_s, lit32, gd_ix, nI_clamp, nI_add, pk_mul, nI_leI, nI_ltI, nI_eq, b2_0n, ite_f, ↓reduceIte, Bool.false_eq_true, Bool.true_eq_false, Nat.not_lt_zero, isb_b2, c_has, c_isHour, c_isKind, c_isPerson, m_isHour, m_isKind, m_isSheet, m_w, c_rN, c_rN2, cB, cF, cK, cN, cS, cM, cZ, mB, mF, mK, mN, mS, mM, mZ, q2, m_doubted hm h3 hN, c_doubted hlb h3 (fun b hb => (vd_b hv b hb).2.2.2.2) hN, if_pos, if_neg]
    refine ⟨_, _, rfl, rfl, rfl, ?_⟩; exact ⟨v, e, hv, he, hm, hd, ⟨rfl, hlb, rfl, hls, rfl, hld, rfl, rfl, rfl⟩, hs, ht, hk0, hk1, hk2, hf, hpp, sa, sb, sc, sd⟩
  by_cases q3 : a1 = nI 3
  · simp (disch := omega) only [f_X7_count, f_X8_count, bd_s, gd_tt, jn_s, lit32, gd_ix, nI_clamp, nI_add, pk_mul, nI_leI, nI_ltI, nI_eq, b2_0n, ite_f, ↓reduceIte, Bool.false_eq_true, Bool.true_eq_false, Nat.not_lt_zero, isb_b2, c_has, c_isHour, c_isKind, c_isPerson, m_isHour, m_isKind, m_isSheet, m_w, c_rN, c_rN2, cB, cF, cK, cN, cS, cM, cZ, mB, mF, mK, mN, mS, mM, mZ, q3, k4, f_X4_size, if_pos, if_neg]
    refine ⟨_, _, rfl, rfl, rfl, ?_⟩; exact ⟨v, e, hv, he, hm, hd, ⟨rfl, hlb, rfl, hls, rfl, hld, rfl, rfl, rfl⟩, hs, ht, hk0, hk1, hk2, hf, hpp, sa, sb, sc, sd⟩
  by_cases q4 : a1 = nI 4
  · simp (disch := omega) only [f_X7_count, f_X8_count, bd_s, gd_tt, jn_s, lit32, gd_ix, nI_clamp, nI_add, pk_mul, nI_leI, nI_ltI, nI_eq, b2_0n, ite_f, ↓reduceIte, Bool.false_eq_true, Bool.true_eq_false, Nat.not_lt_zero, isb_b2, c_has, c_isHour, c_isKind, c_isPerson, m_isHour, m_isKind, m_isSheet, m_w, c_rN, c_rN2, cB, cF, cK, cN, cS, cM, cZ, mB, mF, mK, mN, mS, mM, mZ, q4, k5, f_X4_size, if_pos, if_neg]
    refine ⟨_, _, rfl, rfl, rfl, ?_⟩; exact ⟨v, e, hv, he, hm, hd, ⟨rfl, hlb, rfl, hls, rfl, hld, rfl, rfl, rfl⟩, hs, ht, hk0, hk1, hk2, hf, hpp, sa, sb, sc, sd⟩
  by_cases q5 : a1 = nI 5
  · simp (disch := omega) only [f_X7_count, f_X8_count, bd_s, gd_tt, jn_s, lit32, gd_ix, nI_clamp, nI_add, pk_mul, nI_leI, nI_ltI, nI_eq, b2_0n, ite_f, ↓reduceIte, Bool.false_eq_true, Bool.true_eq_false, Nat.not_lt_zero, isb_b2, c_has, c_isHour, c_isKind, c_isPerson, m_isHour, m_isKind, m_isSheet, m_w, c_rN, c_rN2, cB, cF, cK, cN, cS, cM, cZ, mB, mF, mK, mN, mS, mM, mZ, q5, f_X6_length, if_pos, if_neg]
    refine ⟨_, _, rfl, rfl, rfl, ?_⟩; exact ⟨v, e, hv, he, hm, hd, ⟨rfl, hlb, rfl, hls, rfl, hld, rfl, rfl, rfl⟩, hs, ht, hk0, hk1, hk2, hf, hpp, sa, sb, sc, sd⟩
  simp (disch := omega) only [f_X7_count, f_X8_count, bd_s, gd_tt, jn_s, lit32, gd_ix, nI_clamp, nI_add, pk_mul, nI_leI, nI_ltI, nI_eq, b2_0n, ite_f, ↓reduceIte, Bool.false_eq_true, Bool.true_eq_false, Nat.not_lt_zero, isb_b2, c_has, c_isHour, c_isKind, c_isPerson, m_isHour, m_isKind, m_isSheet, m_w, c_rN, c_rN2, cB, cF, cK, cN, cS, cM, cZ, mB, mF, mK, mN, mS, mM, mZ, q0, q1, q2, q3, q4, q5]
  refine ⟨_, _, rfl, rfl, rfl, ?_⟩; exact ⟨v, e, hv, he, hm, hd, ⟨rfl, hlb, rfl, hls, rfl, hld, rfl, rfl, rfl⟩, hs, ht, hk0, hk1, hk2, (rf_step hf 0 (by decide)), hpp, sa, sb, sc, sd⟩
theorem c_stat1 {g : Nat → Int32} : ∀ d n k, k + d = 7 → d < n → f_X7_status_22 (-nI 1) g n (match k with | 0 => nI 0 | 1 => nI 0 + g 0 | 2 => nI 0 + g 0 + g 1 | 3 => nI 0 + g 0 + g 1 + g 2 | 4 => nI 0 + g 0 + g 1 + g 2 + g 3 | 5 => nI 0 + g 0 + g 1 + g 2 + g 3 + g 4 | 6 => nI 0 + g 0 + g 1 + g 2 + g 3 + g 4 + g 5 | _ => nI 0 + g 0 + g 1 + g 2 + g 3 + g 4 + g 5 + g 6) (nI k) = some (nI 0 + g 0 + g 1 + g 2 + g 3 + g 4 + g 5 + g 6)
  | 0, n, k, hk, hn => by
    cases n with
    | zero => omega
    | succ n => obtain rfl : k = 7 := by omega
                rfl
  | d + 1, n, k, hk, hn => by
    cases n with
    | zero => omega
    | succ n =>
      have ih := c_stat1 (g := g) d n (k + 1) (by omega) (by omega)
      rw [← ih]
      rcases (show k = 0 ∨ k = 1 ∨ k = 2 ∨ k = 3 ∨ k = 4 ∨ k = 5 ∨ k = 6 by omega) with rfl | rfl | rfl | rfl | rfl | rfl | rfl <;> rfl
theorem c_stat2 {g : Nat → Int32} {i : Nat} (hi : i < 7) : ∀ d n k, k + d = 7 → d < n → f_X7_status_22 (nI i) g n (if i < k then g i else nI 0) (nI k) = some (g i)
  | 0, n, k, hk, hn => by
    cases n with
    | zero => omega
    | succ n => obtain rfl : k = 7 := by omega
                rw [if_pos hi]; rfl
  | d + 1, n, k, hk, hn => by
    cases n with
    | zero => omega
    | succ n =>
      have ih := c_stat2 (g := g) hi d n (k + 1) (by omega) (by omega)
      have hz : ¬ (nI i = -nI 1) := by
        rcases (show i = 0 ∨ i = 1 ∨ i = 2 ∨ i = 3 ∨ i = 4 ∨ i = 5 ∨ i = 6 by omega) with rfl | rfl | rfl | rfl | rfl | rfl | rfl <;> decide
      have hc : ¬ 7 ≤ k := by omega
      rw [← ih]
      by_cases q : i = k
      · subst q
        simp (disch := omega) only [f_X7_status_22, bd_s, gd_tt, jn_s, lit32, gd_ix, nI_clamp, nI_add, pk_mul, nI_leI, nI_ltI, nI_eq, b2_0n, ite_f, ↓reduceIte, Bool.false_eq_true, Bool.true_eq_false, Nat.not_lt_zero, isb_b2, c_has, c_isHour, c_isKind, c_isPerson, m_isHour, m_isKind, m_isSheet, m_w, c_rN, c_rN2, cB, cF, cK, cN, cS, cM, cZ, mB, mF, mK, mN, mS, mM, mZ, hc, hz]
        rw [if_neg (by omega), if_pos (by omega), show nI 0 + g i = g i from Int32.zero_add _]
      · simp (disch := omega) only [f_X7_status_22, bd_s, gd_tt, jn_s, lit32, gd_ix, nI_clamp, nI_add, pk_mul, nI_leI, nI_ltI, nI_eq, b2_0n, ite_f, ↓reduceIte, Bool.false_eq_true, Bool.true_eq_false, Nat.not_lt_zero, isb_b2, c_has, c_isHour, c_isKind, c_isPerson, m_isHour, m_isKind, m_isSheet, m_w, c_rN, c_rN2, cB, cF, cK, cN, cS, cM, cZ, mB, mF, mK, mN, mS, mM, mZ, hc, hz, q]
        by_cases q2 : i < k
        · rw [if_pos q2, if_pos (by omega)]
        · rw [if_neg q2, if_neg (by omega)]
set_option maxHeartbeats 16000000 in
theorem op_status {N : Nat} (hN : 2000 ≤ N) : Op_status Rl N := by
  intro C_isKept C_l_bsize C_l_bcells C_l_ssize C_l_scells C_l_dsize C_l_dcells C_l_people C_l_rule C_l_believed C_k_bsize C_k_bcells C_k_ssize C_k_scells C_k_dsize C_k_dcells C_k_people C_k_rule C_k_believed C_d_bsize C_d_bcells C_d_ssize C_d_scells C_d_dsize C_d_dcells C_d_people C_d_rule C_d_believed C_order C_stepsAt C_doubts C_weights C_rows C_metEver C_bowedTo C_isStale C_bowCount C_doubtCount C_seenBows C_likeliest C_mostSayingsSo C_doers C_isTelling C_tbytes C_tlen C_token C_place C_behindIt C_value C_sa_nums C_sa_bits C_sa_len C_sb_nums C_sb_bits C_sb_len C_sc_nums C_sc_bits C_sc_len C_sd_nums C_sd_bits C_sd_len C_findings M_now M_kept M_isKept M_found M_order M_doubts M_doubtMany M_weights M_worn M_pairs M_isTwice M_doer M_doneTo M_doers M_tape M_taped M_begins M_ends M_sort M_value M_isWrong M_items M_itemMany M_bowThen M_doubtThen M_deedThen M_sayingThen M_widths M_sizes M_numbers M_moved a1 hR 
  obtain ⟨v, e, hv, he, hm, hd, hl, hs, ht, hk0, hk1, hk2, hf, hp, sa, sb, sc, sd⟩ := hR
  have hf' := hf
  obtain ⟨hf1, hf0⟩ := hf
  by_cases h1 : a1 = -nI 1
  · subst h1
    have this : f_X7_status_22 (-nI 1) C_findings N (nI 0) (nI 0) = _ := c_stat1 (g := C_findings) 7 N 0 rfl (by omega)
    have e1 : f_X7_status N C_findings (-nI 1) = some (nI 0 + C_findings 0 + C_findings 1 + C_findings 2 + C_findings 3 + C_findings 4 + C_findings 5 + C_findings 6, C_findings) := by
      unfold f_X7_status
      rw [if_neg (by decide), if_pos (by decide)]
      show bd (f_X7_status_22 (-nI 1) C_findings N (nI 0) (nI 0)) _ = _
      rw [this, bd_s]
    have e2 : f_X8_status M_found (-nI 1) = some (M_found 0, M_found) := rfl
    refine ⟨_, _, e1, e2, ?_, v, e, hv, he, hm, hd, hl, hs, ht, hk0, hk1, hk2, hf', hp, sa, sb, sc, sd⟩
    rw [hf0, show nI 0 + C_findings 0 = C_findings 0 from Int32.zero_add _]
  · by_cases h2 : inr a1 7 = true
    · obtain ⟨i, hi, rfl⟩ := inr_t (by decide) h2
      have := c_stat2 (g := C_findings) hi 7 N 0 rfl (by omega)
      rw [if_neg (by omega)] at this
      have e1 : f_X7_status N C_findings (nI i) = some (C_findings i, C_findings) := by
        unfold f_X7_status
        have w1 : ¬ (nI i < (-1 : Int32)) := by
          rcases (show i = 0 ∨ i = 1 ∨ i = 2 ∨ i = 3 ∨ i = 4 ∨ i = 5 ∨ i = 6 by omega) with rfl | rfl | rfl | rfl | rfl | rfl | rfl <;> decide
        rw [if_neg w1, if_pos (show nI i < (7 : Int32) from nI_lt (b := 7) hi (by decide))]
        show bd (f_X7_status_22 (nI i) C_findings N (nI 0) (nI 0)) _ = _
        rw [this, bd_s]
      have e2 : f_X8_status M_found (nI i) = some (M_found (i + 1), M_found) := by
        rcases (show i = 0 ∨ i = 1 ∨ i = 2 ∨ i = 3 ∨ i = 4 ∨ i = 5 ∨ i = 6 by omega) with rfl | rfl | rfl | rfl | rfl | rfl | rfl <;> rfl
      exact ⟨_, _, e1, e2, (hf1 i hi).symm, v, e, hv, he, hm, hd, hl, hs, ht, hk0, hk1, hk2, hf', hp, sa, sb, sc, sd⟩
    · have hq : a1.toInt < -1 ∨ 6 < a1.toInt := by
        rcases inr_nf h2 with h | h
        · by_cases q : a1.toInt = -1
          · exact absurd (Int32.toInt_inj.mp (q.trans (show (-1 : Int) = (-nI 1).toInt from rfl))) h1
          · omega
        · omega
      have e1 : f_X7_status N C_findings a1 = some (-nI 1000000001, fcu C_findings 0) := by
        unfold f_X7_status
        rcases hq with h | h
        · rw [if_pos (by rw [i32_lt]; exact h)]; rfl
        · rw [if_neg (by rw [i32_lt, show (-1 : Int32).toInt = -1 from rfl]; omega), if_neg (by rw [i32_lt, show (7 : Int32).toInt = 7 from rfl]; omega)]; rfl
      have e2 : f_X8_status M_found a1 = some (-nI 1000000001, fmu M_found 0) := by
        unfold f_X8_status
        rw [m_within, decide_eq_false (by rw [show (-1 : Int32).toInt = -1 from rfl, show (6 : Int32).toInt = 6 from rfl]; omega)]; rfl
      exact ⟨_, _, e1, e2, rfl, v, e, hv, he, hm, hd, hl, hs, ht, hk0, hk1, hk2, rf_step hf' 0 (by decide), hp, sa, sb, sc, sd⟩
set_option maxHeartbeats 16000000 in
theorem op_let {N : Nat} (hN : 2000 ≤ N) : Op_let Rl N := by
  intro C_isKept C_l_bsize C_l_bcells C_l_ssize C_l_scells C_l_dsize C_l_dcells C_l_people C_l_rule C_l_believed C_k_bsize C_k_bcells C_k_ssize C_k_scells C_k_dsize C_k_dcells C_k_people C_k_rule C_k_believed C_d_bsize C_d_bcells C_d_ssize C_d_scells C_d_dsize C_d_dcells C_d_people C_d_rule C_d_believed C_order C_stepsAt C_doubts C_weights C_rows C_metEver C_bowedTo C_isStale C_bowCount C_doubtCount C_seenBows C_likeliest C_mostSayingsSo C_doers C_isTelling C_tbytes C_tlen C_token C_place C_behindIt C_value C_sa_nums C_sa_bits C_sa_len C_sb_nums C_sb_bits C_sb_len C_sc_nums C_sc_bits C_sc_len C_sd_nums C_sd_bits C_sd_len C_findings M_now M_kept M_isKept M_found M_order M_doubts M_doubtMany M_weights M_worn M_pairs M_isTwice M_doer M_doneTo M_doers M_tape M_taped M_begins M_ends M_sort M_value M_isWrong M_items M_itemMany M_bowThen M_doubtThen M_deedThen M_sayingThen M_widths M_sizes M_numbers M_moved a1 a2 hR hz2
  obtain ⟨v, e, hv, he, hm, hd, hl, hs, ht, hk0, hk1, hk2, hf, hp, sa, sb, sc, sd⟩ := hR
  have z1 := vd_1 hv
  have z2 := vd_2 hv
  have k1 : M_now 1 = nI (v 1) := rn_at hm (by omega) (by omega) (by omega)
  have k2 : M_now 2 = nI (v 2) := rn_at hm (by omega) (by omega) (by omega)
  obtain ⟨rfl, hlb, rfl, hls, rfl, hld, rfl, rfl, rfl⟩ := hl
  have hv1 : ∀ x, x ≤ 1 → Vd (un v 1 x) := fun x hx => ⟨hv.1, hv.2.1, hx, hv.2.2.2.1, hv.2.2.2.2.1, hv.2.2.2.2.2.1, by
    have : dc (un v 1 x) = dc v := dbc_congr (v 3) (fun b hb => un_n (by omega))
    rw [this]; exact vd_dc hv, fun b hb => by
      rw [un_n (by omega), un_n (by omega), un_n (by omega), un_n (by omega)]; exact vd_b hv b hb, fun s hs => by
      rw [un_n (by omega), un_n (by omega), un_n (by omega), un_n (by omega)]; exact vd_s hv s hs⟩
  have hv2 : ∀ x, x ≤ 1 → Vd (un v 2 x) := fun x hx => ⟨hv.1, hv.2.1, hv.2.2.1, hx, hv.2.2.2.2.1, hv.2.2.2.2.2.1, by
    have : dc (un v 2 x) = dc v := dbc_congr (v 3) (fun b hb => un_n (by omega))
    rw [this]; exact vd_dc hv, fun b hb => by
      rw [un_n (by omega), un_n (by omega), un_n (by omega), un_n (by omega)]; exact vd_b hv b hb, fun s hs => by
      rw [un_n (by omega), un_n (by omega), un_n (by omega), un_n (by omega)]; exact vd_s hv s hs⟩
  obtain ⟨z, hz, rfl⟩ : ∃ z, z ≤ 1 ∧ a2 = nI z := by
    rcases hz2 with h | h
    · exact ⟨0, by decide, h⟩
    · exact ⟨1, by decide, h⟩
  have ez : (if z = 0 then some (nI 0) else some (nI 1)) = some (nI z) := by
    rcases (show z = 0 ∨ z = 1 by omega) with rfl | rfl <;> rfl
  have ib : isb (nI (v 1)) = true := by rcases (show v 1 = 0 ∨ v 1 = 1 by omega) with q | q <;> rw [q] <;> rfl
  have ib2 : isb (nI (v 2)) = true := by rcases (show v 2 = 0 ∨ v 2 = 1 by omega) with q | q <;> rw [q] <;> rfl
  have ibz : isb (nI z) = true := by rcases (show z = 0 ∨ z = 1 by omega) with q | q <;> rw [q] <;> rfl
  by_cases q0 : a1 = nI 0
  · subst q0
    have e2 : f_X8_let M_now M_found (nI 0) (nI z) = some (if v 1 = z then nI 0 else nI 1, upd M_now 1 (nI z), M_found) := by
      unfold f_X8_let
      simp (disch := omega) only [inr_nI, ez, Nat.reduceAdd, Nat.reduceLT, decide_true, f_X8_become, bd_s, gd_tt, jn_s, lit32, gd_ix, nI_clamp, nI_add, pk_mul, nI_leI, nI_ltI, nI_eq, b2_0n, ite_f, ↓reduceIte, Bool.false_eq_true, Bool.true_eq_false, Nat.not_lt_zero, isb_b2, c_has, c_isHour, c_isKind, c_isPerson, m_isHour, m_isKind, m_isSheet, m_w, c_rN, c_rN2, cB, cF, cK, cN, cS, cM, cZ, mB, mF, mK, mN, mS, mM, mZ, k1, Nat.add_zero]
      by_cases q : v 1 = z
      · rw [if_pos q, if_pos q]
      · rw [if_neg q, if_neg q]
    by_cases q : v 1 = z
    · have e1 : f_X7_let (nI (v 1)) (nI (v 2)) C_isStale C_findings (nI 0) (nI z) = some (nI 0, nI (v 1), nI (v 2), C_isStale, C_findings) := by
        simp (disch := omega) only [f_X7_let, bd_s, gd_tt, jn_s, lit32, gd_ix, nI_clamp, nI_add, pk_mul, nI_leI, nI_ltI, nI_eq, b2_0n, ite_f, ↓reduceIte, Bool.false_eq_true, Bool.true_eq_false, Nat.not_lt_zero, isb_b2, c_has, c_isHour, c_isKind, c_isPerson, m_isHour, m_isKind, m_isSheet, m_w, c_rN, c_rN2, cB, cF, cK, cN, cS, cM, cZ, mB, mF, mK, mN, mS, mM, mZ, f_X0_isSwitchedOn, ib, ibz, q]
      rw [if_pos q] at e2
      refine ⟨_, _, e1, e2, rfl, v, e, hv, he, ?_, ?_, ⟨rfl, hlb, rfl, hls, rfl, hld, rfl, rfl, rfl⟩, hs, ht, hk0, hk1, hk2, hf, hp, sa, sb, sc, sd⟩
      · have := rn_set (k := 1) (x := z) hm (by omega)
        have w : un v 1 z = v := by funext j; by_cases qj : j = 1; rw [qj, un_s, q]; rw [un_n qj]
        rwa [w] at this
      · exact re_night hd (by omega) (by omega)
    · have e1 : f_X7_let (nI (v 1)) (nI (v 2)) C_isStale C_findings (nI 0) (nI z) = some (nI 1, nI z, nI (v 2), nI 1, C_findings) := by
        simp (disch := omega) only [f_X7_let, bd_s, gd_tt, jn_s, lit32, gd_ix, nI_clamp, nI_add, pk_mul, nI_leI, nI_ltI, nI_eq, b2_0n, ite_f, ↓reduceIte, Bool.false_eq_true, Bool.true_eq_false, Nat.not_lt_zero, isb_b2, c_has, c_isHour, c_isKind, c_isPerson, m_isHour, m_isKind, m_isSheet, m_w, c_rN, c_rN2, cB, cF, cK, cN, cS, cM, cZ, mB, mF, mK, mN, mS, mM, mZ, f_X0_isSwitchedOn, f_X0_switchTo, f_X2_forget, ib, ibz, q]
      rw [if_neg q] at e2
      exact ⟨_, _, e1, e2, rfl, un v 1 z, e, hv1 z hz, he, rn_set (k := 1) (x := z) hm (by omega), re_night hd (by omega) (by omega), ⟨rfl, fun j hj => by rw [un_n (by omega)]; exact hlb j hj, rfl, fun j hj => by rw [un_n (by omega)]; exact hls j hj, rfl, hld, rfl, rfl, rfl⟩, Or.inr rfl, st_abs, hk0, hk1, hk2, hf, hp, sa, sb, sc, sd⟩
  · by_cases q1 : a1 = nI 1
    · subst q1
      have e2 : f_X8_let M_now M_found (nI 1) (nI z) = some (if v 2 = z then nI 0 else nI 1, upd M_now 2 (nI z), M_found) := by
        unfold f_X8_let
        simp (disch := omega) only [inr_nI, ez, Nat.reduceAdd, Nat.reduceLT, decide_true, f_X8_become, bd_s, gd_tt, jn_s, lit32, gd_ix, nI_clamp, nI_add, pk_mul, nI_leI, nI_ltI, nI_eq, b2_0n, ite_f, ↓reduceIte, Bool.false_eq_true, Bool.true_eq_false, Nat.not_lt_zero, isb_b2, c_has, c_isHour, c_isKind, c_isPerson, m_isHour, m_isKind, m_isSheet, m_w, c_rN, c_rN2, cB, cF, cK, cN, cS, cM, cZ, mB, mF, mK, mN, mS, mM, mZ, k2, Nat.reduceAdd]
        by_cases q : v 2 = z
        · rw [if_pos q, if_pos q]
        · rw [if_neg q, if_neg q]
      by_cases q : v 2 = z
      · have e1 : f_X7_let (nI (v 1)) (nI (v 2)) C_isStale C_findings (nI 1) (nI z) = some (nI 0, nI (v 1), nI (v 2), C_isStale, C_findings) := by
          simp (disch := omega) only [f_X7_let, bd_s, gd_tt, jn_s, lit32, gd_ix, nI_clamp, nI_add, pk_mul, nI_leI, nI_ltI, nI_eq, b2_0n, ite_f, ↓reduceIte, Bool.false_eq_true, Bool.true_eq_false, Nat.not_lt_zero, isb_b2, c_has, c_isHour, c_isKind, c_isPerson, m_isHour, m_isKind, m_isSheet, m_w, c_rN, c_rN2, cB, cF, cK, cN, cS, cM, cZ, mB, mF, mK, mN, mS, mM, mZ, f_X0_isSwitchedOn, ib2, ibz, q, if_neg]
        rw [if_pos q] at e2
        refine ⟨_, _, e1, e2, rfl, v, e, hv, he, ?_, ?_, ⟨rfl, hlb, rfl, hls, rfl, hld, rfl, rfl, rfl⟩, hs, ht, hk0, hk1, hk2, hf, hp, sa, sb, sc, sd⟩
        · have := rn_set (k := 2) (x := z) hm (by omega)
          have w : un v 2 z = v := by funext j; by_cases qj : j = 2; rw [qj, un_s, q]; rw [un_n qj]
          rwa [w] at this
        · exact re_night hd (by omega) (by omega)
      · have e1 : f_X7_let (nI (v 1)) (nI (v 2)) C_isStale C_findings (nI 1) (nI z) = some (nI 1, nI (v 1), nI z, nI 1, C_findings) := by
          simp (disch := omega) only [f_X7_let, bd_s, gd_tt, jn_s, lit32, gd_ix, nI_clamp, nI_add, pk_mul, nI_leI, nI_ltI, nI_eq, b2_0n, ite_f, ↓reduceIte, Bool.false_eq_true, Bool.true_eq_false, Nat.not_lt_zero, isb_b2, c_has, c_isHour, c_isKind, c_isPerson, m_isHour, m_isKind, m_isSheet, m_w, c_rN, c_rN2, cB, cF, cK, cN, cS, cM, cZ, mB, mF, mK, mN, mS, mM, mZ, f_X0_isSwitchedOn, f_X0_switchTo, f_X2_forget, ib2, ibz, q, if_neg]
        rw [if_neg q] at e2
        exact ⟨_, _, e1, e2, rfl, un v 2 z, e, hv2 z hz, he, rn_set (k := 2) (x := z) hm (by omega), re_night hd (by omega) (by omega), ⟨rfl, fun j hj => by rw [un_n (by omega)]; exact hlb j hj, rfl, fun j hj => by rw [un_n (by omega)]; exact hls j hj, rfl, hld, rfl, rfl, rfl⟩, Or.inr rfl, st_abs, hk0, hk1, hk2, hf, hp, sa, sb, sc, sd⟩
    · have h1 : inr a1 2 = false := by
        by_cases h : inr a1 2 = true
        · obtain ⟨i, hi, rfl⟩ := inr_t (by decide) h
          rcases (show i = 0 ∨ i = 1 by omega) with rfl | rfl
          · exact absurd rfl q0
          · exact absurd rfl q1
        · simpa using h
      simp (disch := omega) only [f_X7_let, f_X8_let, bd_s, gd_tt, jn_s, lit32, gd_ix, nI_clamp, nI_add, pk_mul, nI_leI, nI_ltI, nI_eq, b2_0n, ite_f, ↓reduceIte, Bool.false_eq_true, Bool.true_eq_false, Nat.not_lt_zero, isb_b2, c_has, c_isHour, c_isKind, c_isPerson, m_isHour, m_isKind, m_isSheet, m_w, c_rN, c_rN2, cB, cF, cK, cN, cS, cM, cZ, mB, mF, mK, mN, mS, mM, mZ, h1, q0, q1, Nat.reduceAdd]
      refine ⟨_, _, rfl, rfl, rfl, ?_⟩; exact ⟨v, e, hv, he, hm, hd, ⟨rfl, hlb, rfl, hls, rfl, hld, rfl, rfl, rfl⟩, hs, ht, hk0, hk1, hk2, (rf_step hf 0 (by decide)), hp, sa, sb, sc, sd⟩
