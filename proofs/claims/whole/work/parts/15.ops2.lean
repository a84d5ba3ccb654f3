/-! ===== further ops ===== -/
set_option maxHeartbeats 16000000 in
theorem op_turn {N : Nat} (hN : 2000 ≤ N) : Op_turn Rl N := by
  intro C_isKept C_l_bsize C_l_bcells C_l_ssize C_l_scells C_l_dsize C_l_dcells C_l_people C_l_rule C_l_believed C_k_bsize C_k_bcells C_k_ssize C_k_scells C_k_dsize C_k_dcells C_k_people C_k_rule C_k_believed C_d_bsize C_d_bcells C_d_ssize C_d_scells C_d_dsize C_d_dcells C_d_people C_d_rule C_d_believed C_order C_stepsAt C_doubts C_weights C_rows C_metEver C_bowedTo C_isStale C_bowCount C_doubtCount C_seenBows C_likeliest C_mostSayingsSo C_doers C_isTelling C_tbytes C_tlen C_token C_place C_behindIt C_value C_sa_nums C_sa_bits C_sa_len C_sb_nums C_sb_bits C_sb_len C_sc_nums C_sc_bits C_sc_len C_sd_nums C_sd_bits C_sd_len C_findings M_now M_kept M_isKept M_found M_order M_doubts M_doubtMany M_weights M_worn M_pairs M_isTwice M_doer M_doneTo M_doers M_tape M_taped M_begins M_ends M_sort M_value M_isWrong M_items M_itemMany M_bowThen M_doubtThen M_deedThen M_sayingThen M_widths M_sizes M_numbers M_moved a1 a2 hR 
  obtain ⟨v, e, hv, he, hm, hd, hl, hs, ht, hk0, hk1, hk2, hf, hp, sa, sb, sc, sd⟩ := hR
  have h60 := he.1
  obtain ⟨rfl, hlb, rfl, hls, rfl, hld, rfl, rfl, rfl⟩ := hl
  have k2 := m_isDeed hd h60 a1
  by_cases h1 : inr a1 (e 60) = true
  · by_cases h2 : inr a2 6 = true
    · obtain ⟨b, hb, rfl⟩ := inr_t (by omega) h1
      obtain ⟨i, hi, rfl⟩ := inr_t (by decide) h2
      have e1 : M_now (86 + 5 * b + 0) = nI (e (b * 5 + 0)) := by rw [show 86 + 5 * b + 0 = 86 + (b * 5 + 0) by omega]; exact (hd.2 _ (by omega)).1
      simp (disch := omega) only [f_X7_turn, f_X8_turn, bd_s, gd_tt, jn_s, lit32, gd_ix, nI_clamp, nI_add, pk_mul, nI_leI, nI_ltI, nI_eq, b2_0n, ite_f, ↓reduceIte, Bool.false_eq_true, Bool.true_eq_false, Nat.not_lt_zero, isb_b2, c_has, c_isHour, c_isKind, c_isPerson, m_isHour, m_isKind, m_isSheet, m_w, c_rN, c_rN2, cB, cF, cK, cN, cS, cM, cZ, mB, mF, mK, mN, mS, mM, mZ, k2, h1, h2, c_put, f_X8_become, e1]
      refine ⟨_, _, rfl, rfl, hld _ (by omega), v, un e (b * 5 + 0) i, hv, ⟨by rw [un_n (by omega)]; exact h60, fun d hd => ?_⟩, rn_deed hm (by omega), ?_, ⟨rfl, hlb, rfl, hls, ?_, deed_set hld, rfl, rfl, rfl⟩, hs, ht, hk0, hk1, hk2, hf, hp, sa, sb, sc, sd⟩
      · rw [un_n (by omega)] at hd
        have := he.2 d hd
        by_cases q : d = b
        · rw [q, show 5 * b + 0 = b * 5 + 0 by omega, un_s, un_n (by omega), un_n (by omega), un_n (by omega), un_n (by omega)]
          rw [q] at this
          exact ⟨hi, this.2⟩
        · rw [un_n (by omega), un_n (by omega), un_n (by omega), un_n (by omega), un_n (by omega)]; exact this
      · rw [show 86 + 5 * b + 0 = 86 + (b * 5 + 0) by omega]
        exact re_set hd (by omega) (by omega)
      · rw [un_n (by omega)]
    · have h2 : inr a2 6 = false := by simpa using h2
      simp (disch := omega) only [f_X7_turn, f_X8_turn, bd_s, gd_tt, jn_s, lit32, gd_ix, nI_clamp, nI_add, pk_mul, nI_leI, nI_ltI, nI_eq, b2_0n, ite_f, ↓reduceIte, Bool.false_eq_true, Bool.true_eq_false, Nat.not_lt_zero, isb_b2, c_has, c_isHour, c_isKind, c_isPerson, m_isHour, m_isKind, m_isSheet, m_w, c_rN, c_rN2, cB, cF, cK, cN, cS, cM, cZ, mB, mF, mK, mN, mS, mM, mZ, k2, h1, h2]
      refine ⟨_, _, rfl, rfl, rfl, ?_⟩; exact ⟨v, e, hv, he, hm, hd, ⟨rfl, hlb, rfl, hls, rfl, hld, rfl, rfl, rfl⟩, hs, ht, hk0, hk1, hk2, (rf_step hf 0 (by decide)), hp, sa, sb, sc, sd⟩
  · have h1 : inr a1 (e 60) = false := by simpa using h1
    simp (disch := omega) only [f_X7_turn, f_X8_turn, bd_s, gd_tt, jn_s, lit32, gd_ix, nI_clamp, nI_add, pk_mul, nI_leI, nI_ltI, nI_eq, b2_0n, ite_f, ↓reduceIte, Bool.false_eq_true, Bool.true_eq_false, Nat.not_lt_zero, isb_b2, c_has, c_isHour, c_isKind, c_isPerson, m_isHour, m_isKind, m_isSheet, m_w, c_rN, c_rN2, cB, cF, cK, cN, cS, cM, cZ, mB, mF, mK, mN, mS, mM, mZ, k2, h1]
    refine ⟨_, _, rfl, rfl, rfl, ?_⟩; exact ⟨v, e, hv, he, hm, hd, ⟨rfl, hlb, rfl, hls, rfl, hld, rfl, rfl, rfl⟩, hs, ht, hk0, hk1, hk2, (rf_step hf 0 (by decide)), hp, sa, sb, sc, sd⟩
theorem k_above {N k x : Nat} (hN : 2000 ≤ N) (hk : k < 6) (hx : x < 6) : f_X7_isOfKind N (nI k) (nI x) = some (b2 (decide (x = k ∨ x = 0 ∨ (k = 4 ∧ x = 3) ∨ (k = 5 ∧ x = 1)))) := by
  obtain ⟨n, rfl⟩ : ∃ n, N = n + 7 := ⟨N - 7, by omega⟩
  rcases (show k = 0 ∨ k = 1 ∨ k = 2 ∨ k = 3 ∨ k = 4 ∨ k = 5 by omega) with rfl | rfl | rfl | rfl | rfl | rfl <;>
    rcases (show x = 0 ∨ x = 1 ∨ x = 2 ∨ x = 3 ∨ x = 4 ∨ x = 5 by omega) with rfl | rfl | rfl | rfl | rfl | rfl <;> rfl
theorem k_as {N k x : Nat} (hN : 2000 ≤ N) (hk : k < 6) (hx : x < 6) : f_X8_as_29 (nI x) N (nI k) = some (if decide (x = k ∨ x = 0 ∨ (k = 4 ∧ x = 3) ∨ (k = 5 ∧ x = 1)) = true then nI x else -nI 1) := by
  obtain ⟨n, rfl⟩ : ∃ n, N = n + 7 := ⟨N - 7, by omega⟩
  rcases (show k = 0 ∨ k = 1 ∨ k = 2 ∨ k = 3 ∨ k = 4 ∨ k = 5 by omega) with rfl | rfl | rfl | rfl | rfl | rfl <;>
    rcases (show x = 0 ∨ x = 1 ∨ x = 2 ∨ x = 3 ∨ x = 4 ∨ x = 5 by omega) with rfl | rfl | rfl | rfl | rfl | rfl <;> rfl
set_option maxHeartbeats 16000000 in
theorem op_as {N : Nat} (hN : 2000 ≤ N) : Op_as Rl N := by
  intro C_isKept C_l_bsize C_l_bcells C_l_ssize C_l_scells C_l_dsize C_l_dcells C_l_people C_l_rule C_l_believed C_k_bsize C_k_bcells C_k_ssize C_k_scells C_k_dsize C_k_dcells C_k_people C_k_rule C_k_believed C_d_bsize C_d_bcells C_d_ssize C_d_scells C_d_dsize C_d_dcells C_d_people C_d_rule C_d_believed C_order C_stepsAt C_doubts C_weights C_rows C_metEver C_bowedTo C_isStale C_bowCount C_doubtCount C_seenBows C_likeliest C_mostSayingsSo C_doers C_isTelling C_tbytes C_tlen C_token C_place C_behindIt C_value C_sa_nums C_sa_bits C_sa_len C_sb_nums C_sb_bits C_sb_len C_sc_nums C_sc_bits C_sc_len C_sd_nums C_sd_bits C_sd_len C_findings M_now M_kept M_isKept M_found M_order M_doubts M_doubtMany M_weights M_worn M_pairs M_isTwice M_doer M_doneTo M_doers M_tape M_taped M_begins M_ends M_sort M_value M_isWrong M_items M_itemMany M_bowThen M_doubtThen M_deedThen M_sayingThen M_widths M_sizes M_numbers M_moved a1 a2 hR 
  obtain ⟨v, e, hv, he, hm, hd, hl, hs, ht, hk0, hk1, hk2, hf, hp, sa, sb, sc, sd⟩ := hR
  have h60 := he.1
  obtain ⟨rfl, hlb, rfl, hls, rfl, hld, rfl, rfl, rfl⟩ := hl
  have k2 := m_isDeed hd h60 a1
  by_cases h1 : inr a1 (e 60) = true
  · by_cases h2 : inr a2 6 = true
    · obtain ⟨b, hb, rfl⟩ := inr_t (by omega) h1
      obtain ⟨i, hi, rfl⟩ := inr_t (by decide) h2
      have hk := (he.2 b hb).1
      have w1 := k_above hN hk hi
      have w2 := k_as hN hk hi
      generalize hq : decide (i = e (5 * b + 0) ∨ i = 0 ∨ e (5 * b + 0) = 4 ∧ i = 3 ∨ e (5 * b + 0) = 5 ∧ i = 1) = q at w1 w2
      cases q
      · have w3 : ¬ nI 0 ≤ -nI 1 := by decide
        simp (disch := omega) only [f_X7_as, f_X8_as, bd_s, gd_tt, jn_s, lit32, gd_ix, nI_clamp, nI_add, pk_mul, nI_leI, nI_ltI, nI_eq, b2_0n, ite_f, ↓reduceIte, Bool.false_eq_true, Bool.true_eq_false, Nat.not_lt_zero, isb_b2, c_has, c_isHour, c_isKind, c_isPerson, m_isHour, m_isKind, m_isSheet, m_w, c_rN, c_rN2, cB, cF, cK, cN, cS, cM, cZ, mB, mF, mK, mN, mS, mM, mZ, k2, h1, h2, c_deed hld, m_deedIs hd, w1, w2, w3]
        refine ⟨_, _, rfl, rfl, rfl, ?_⟩; exact ⟨v, e, hv, he, hm, hd, ⟨rfl, hlb, rfl, hls, rfl, hld, rfl, rfl, rfl⟩, hs, ht, hk0, hk1, hk2, (rf_step hf 2 (by decide)), hp, sa, sb, sc, sd⟩
      · have w3 : nI 0 ≤ nI i := nI_pos' (by omega)
        simp (disch := omega) only [f_X7_as, f_X8_as, bd_s, gd_tt, jn_s, lit32, gd_ix, nI_clamp, nI_add, pk_mul, nI_leI, nI_ltI, nI_eq, b2_0n, ite_f, ↓reduceIte, Bool.false_eq_true, Bool.true_eq_false, Nat.not_lt_zero, isb_b2, c_has, c_isHour, c_isKind, c_isPerson, m_isHour, m_isKind, m_isSheet, m_w, c_rN, c_rN2, cB, cF, cK, cN, cS, cM, cZ, mB, mF, mK, mN, mS, mM, mZ, k2, h1, h2, c_deed hld, m_deedIs hd, w1, w2, w3, Nat.zero_le]
        refine ⟨_, _, rfl, rfl, rfl, ?_⟩; exact ⟨v, e, hv, he, hm, hd, ⟨rfl, hlb, rfl, hls, rfl, hld, rfl, rfl, rfl⟩, hs, ht, hk0, hk1, hk2, hf, hp, sa, sb, sc, sd⟩
    · have h2 : inr a2 6 = false := by simpa using h2
      simp (disch := omega) only [f_X7_as, f_X8_as, bd_s, gd_tt, jn_s, lit32, gd_ix, nI_clamp, nI_add, pk_mul, nI_leI, nI_ltI, nI_eq, b2_0n, ite_f, ↓reduceIte, Bool.false_eq_true, Bool.true_eq_false, Nat.not_lt_zero, isb_b2, c_has, c_isHour, c_isKind, c_isPerson, m_isHour, m_isKind, m_isSheet, m_w, c_rN, c_rN2, cB, cF, cK, cN, cS, cM, cZ, mB, mF, mK, mN, mS, mM, mZ, k2, h1, h2]
      refine ⟨_, _, rfl, rfl, rfl, ?_⟩; exact ⟨v, e, hv, he, hm, hd, ⟨rfl, hlb, rfl, hls, rfl, hld, rfl, rfl, rfl⟩, hs, ht, hk0, hk1, hk2, (rf_step hf 0 (by decide)), hp, sa, sb, sc, sd⟩
  · have h1 : inr a1 (e 60) = false := by simpa using h1
    simp (disch := omega) only [f_X7_as, f_X8_as, bd_s, gd_tt, jn_s, lit32, gd_ix, nI_clamp, nI_add, pk_mul, nI_leI, nI_ltI, nI_eq, b2_0n, ite_f, ↓reduceIte, Bool.false_eq_true, Bool.true_eq_false, Nat.not_lt_zero, isb_b2, c_has, c_isHour, c_isKind, c_isPerson, m_isHour, m_isKind, m_isSheet, m_w, c_rN, c_rN2, cB, cF, cK, cN, cS, cM, cZ, mB, mF, mK, mN, mS, mM, mZ, k2, h1]
    refine ⟨_, _, rfl, rfl, rfl, ?_⟩; exact ⟨v, e, hv, he, hm, hd, ⟨rfl, hlb, rfl, hls, rfl, hld, rfl, rfl, rfl⟩, hs, ht, hk0, hk1, hk2, (rf_step hf 0 (by decide)), hp, sa, sb, sc, sd⟩
/-- what a deed pays -/
def payI (k c : Nat) : Int32 := if k = 1 then nI c else if k = 2 then -(nI (c / 10)) else if k = 3 then nI 1 else if k = 4 then nI (1 + c / 2) else if k = 5 then nI (2 * c) else nI 0
theorem m_pays {e : Nat → Nat} {now : Nat → Int32} (h : RE e now) (h60 : e 60 ≤ 12) {b : Nat} (hb : b < e 60) : f_X8_pays now (nI b) = some (payI (e (5 * b + 0)) (e (5 * b + 4))) := by
  have hk := (h.2 (5 * b + 0) (by omega)).2
  have hc := (h.2 (5 * b + 4) (by omega)).2
  simp (disch := omega) only [f_X8_pays, bd_s, gd_tt, jn_s, lit32, gd_ix, nI_clamp, nI_add, pk_mul, nI_leI, nI_ltI, nI_eq, b2_0n, ite_f, ↓reduceIte, Bool.false_eq_true, Bool.true_eq_false, Nat.not_lt_zero, isb_b2, c_has, c_isHour, c_isKind, c_isPerson, m_isHour, m_isKind, m_isSheet, m_w, c_rN, c_rN2, cB, cF, cK, cN, cS, cM, cZ, mB, mF, mK, mN, mS, mM, mZ, m_deedIs h, pk_div, some_ite]
  rfl
theorem c_pays {e : Nat → Nat} {cells : Nat → Int32} (h : ∀ j, j < 60 → cells j = nI (e j)) (h60 : e 60 ≤ 12) {b : Nat} (hb : b < e 60) (hk : e (5 * b + 0) < 1000) (hc : e (5 * b + 4) < 1000) : f_X1_paysOf (nI (e 60)) cells (nI b) = some (payI (e (5 * b + 0)) (e (5 * b + 4))) := by
  simp (disch := omega) only [f_X1_paysOf, f_X1_part, bd_s, gd_tt, jn_s, lit32, gd_ix, nI_clamp, nI_add, pk_mul, nI_leI, nI_ltI, nI_eq, b2_0n, ite_f, ↓reduceIte, Bool.false_eq_true, Bool.true_eq_false, Nat.not_lt_zero, isb_b2, c_has, c_isHour, c_isKind, c_isPerson, m_isHour, m_isKind, m_isSheet, m_w, c_rN, c_rN2, cB, cF, cK, cN, cS, cM, cZ, mB, mF, mK, mN, mS, mM, mZ, c_deed h, pk_div, some_ite]
  rfl
theorem c_binds {e : Nat → Nat} {cells : Nat → Int32} (h : ∀ j, j < 60 → cells j = nI (e j)) (h60 : e 60 ≤ 12) {b N : Nat} (hN : 2000 ≤ N) (hb : b < e 60) (hk : e (5 * b + 0) < 6) : f_X1_binds N (nI (e 60)) cells (nI b) = some (b2 (decide (e (5 * b + 0) = 4))) := by
  simp (disch := omega) only [f_X1_binds, f_X1_part, bd_s, gd_tt, jn_s, lit32, gd_ix, nI_clamp, nI_add, pk_mul, nI_leI, nI_ltI, nI_eq, b2_0n, ite_f, ↓reduceIte, Bool.false_eq_true, Bool.true_eq_false, Nat.not_lt_zero, isb_b2, c_has, c_isHour, c_isKind, c_isPerson, m_isHour, m_isKind, m_isSheet, m_w, c_rN, c_rN2, cB, cF, cK, cN, cS, cM, cZ, mB, mF, mK, mN, mS, mM, mZ, c_deed h, k_above hN hk]
  congr 3
  simp only [eq_iff_iff]
  omega
set_option maxHeartbeats 16000000 in
theorem op_deedOf {N : Nat} (hN : 2000 ≤ N) : Op_deedOf Rl N := by
  intro C_isKept C_l_bsize C_l_bcells C_l_ssize C_l_scells C_l_dsize C_l_dcells C_l_people C_l_rule C_l_believed C_k_bsize C_k_bcells C_k_ssize C_k_scells C_k_dsize C_k_dcells C_k_people C_k_rule C_k_believed C_d_bsize C_d_bcells C_d_ssize C_d_scells C_d_dsize C_d_dcells C_d_people C_d_rule C_d_believed C_order C_stepsAt C_doubts C_weights C_rows C_metEver C_bowedTo C_isStale C_bowCount C_doubtCount C_seenBows C_likeliest C_mostSayingsSo C_doers C_isTelling C_tbytes C_tlen C_token C_place C_behindIt C_value C_sa_nums C_sa_bits C_sa_len C_sb_nums C_sb_bits C_sb_len C_sc_nums C_sc_bits C_sc_len C_sd_nums C_sd_bits C_sd_len C_findings M_now M_kept M_isKept M_found M_order M_doubts M_doubtMany M_weights M_worn M_pairs M_isTwice M_doer M_doneTo M_doers M_tape M_taped M_begins M_ends M_sort M_value M_isWrong M_items M_itemMany M_bowThen M_doubtThen M_deedThen M_sayingThen M_widths M_sizes M_numbers M_moved a1 a2 hR 
  obtain ⟨v, e, hv, he, hm, hd, hl, hs, ht, hk0, hk1, hk2, hf, hp, sa, sb, sc, sd⟩ := hR
  have h60 := he.1
  obtain ⟨rfl, hlb, rfl, hls, rfl, hld, rfl, rfl, rfl⟩ := hl
  have k2 := m_isDeed hd h60 a1
  by_cases h1 : inr a1 (e 60) = true
  · obtain ⟨b, hb, rfl⟩ := inr_t (by omega) h1
    obtain ⟨d0, d1, d2, d3, d4, d5⟩ := he.2 b hb
    by_cases q5 : a2 = nI 5
    · subst q5
      simp (disch := omega) only [f_X7_deedOf, f_X8_deedOf, bd_s, gd_tt, jn_s, lit32, gd_ix, nI_clamp, nI_add, pk_mul, nI_leI, nI_ltI, nI_eq, b2_0n, ite_f, ↓reduceIte, Bool.false_eq_true, Bool.true_eq_false, Nat.not_lt_zero, isb_b2, c_has, c_isHour, c_isKind, c_isPerson, m_isHour, m_isKind, m_isSheet, m_w, c_rN, c_rN2, cB, cF, cK, cN, cS, cM, cZ, mB, mF, mK, mN, mS, mM, mZ, k2, h1, m_pays hd h60 hb, c_pays hld h60 hb, inr_nI, Nat.reduceAdd, Nat.reduceLT, decide_true]
      refine ⟨_, _, rfl, rfl, rfl, ?_⟩; exact ⟨v, e, hv, he, hm, hd, ⟨rfl, hlb, rfl, hls, rfl, hld, rfl, rfl, rfl⟩, hs, ht, hk0, hk1, hk2, hf, hp, sa, sb, sc, sd⟩
    · by_cases q6 : a2 = nI 6
      · subst q6
        simp (disch := omega) only [f_X7_deedOf, f_X8_deedOf, bd_s, gd_tt, jn_s, lit32, gd_ix, nI_clamp, nI_add, pk_mul, nI_leI, nI_ltI, nI_eq, b2_0n, ite_f, ↓reduceIte, Bool.false_eq_true, Bool.true_eq_false, Nat.not_lt_zero, isb_b2, c_has, c_isHour, c_isKind, c_isPerson, m_isHour, m_isKind, m_isSheet, m_w, c_rN, c_rN2, cB, cF, cK, cN, cS, cM, cZ, mB, mF, mK, mN, mS, mM, mZ, k2, h1, c_binds hld h60 hN hb, inr_nI, Nat.reduceAdd, Nat.reduceLT, decide_true, m_deedIs hd, Nat.reduceEqDiff, decide_eq_true_eq, some_ite]
        by_cases q : e (5 * b + 0) = 4
        · simp only [q, ↓reduceIte]
          refine ⟨_, _, rfl, rfl, rfl, ?_⟩; exact ⟨v, e, hv, he, hm, hd, ⟨rfl, hlb, rfl, hls, rfl, hld, rfl, rfl, rfl⟩, hs, ht, hk0, hk1, hk2, hf, hp, sa, sb, sc, sd⟩
        · simp only [q, ↓reduceIte]
          refine ⟨_, _, rfl, rfl, rfl, ?_⟩; exact ⟨v, e, hv, he, hm, hd, ⟨rfl, hlb, rfl, hls, rfl, hld, rfl, rfl, rfl⟩, hs, ht, hk0, hk1, hk2, hf, hp, sa, sb, sc, sd⟩
      · by_cases h2 : inr a2 5 = true
        · obtain ⟨i, hi, rfl⟩ := inr_t (by decide) h2
          have h7 : i < 6 + 1 := by omega
          simp (disch := omega) only [f_X7_deedOf, f_X8_deedOf, bd_s, gd_tt, jn_s, lit32, gd_ix, nI_clamp, nI_add, pk_mul, nI_leI, nI_ltI, nI_eq, b2_0n, ite_f, ↓reduceIte, Bool.false_eq_true, Bool.true_eq_false, Nat.not_lt_zero, isb_b2, c_has, c_isHour, c_isKind, c_isPerson, m_isHour, m_isKind, m_isSheet, m_w, c_rN, c_rN2, cB, cF, cK, cN, cS, cM, cZ, mB, mF, mK, mN, mS, mM, mZ, k2, h1, h7, q5, q6, hi, c_deed hld, m_deedIs hd, inr_nI, decide_true, if_neg]
          refine ⟨_, _, rfl, rfl, rfl, ?_⟩; exact ⟨v, e, hv, he, hm, hd, ⟨rfl, hlb, rfl, hls, rfl, hld, rfl, rfl, rfl⟩, hs, ht, hk0, hk1, hk2, hf, hp, sa, sb, sc, sd⟩
        · have h7 : inr a2 7 = false := by
            by_cases h : inr a2 7 = true
            · obtain ⟨i, hi, rfl⟩ := inr_t (by decide) h
              rw [inr_nI (by omega)] at h2
              have : i = 5 ∨ i = 6 := by simp at h2; omega
              rcases this with rfl | rfl
              · exact absurd rfl q5
              · exact absurd rfl q6
            · simpa using h
          have h2 : inr a2 5 = false := by simpa using h2
          simp (disch := omega) only [f_X7_deedOf, f_X8_deedOf, bd_s, gd_tt, jn_s, lit32, gd_ix, nI_clamp, nI_add, pk_mul, nI_leI, nI_ltI, nI_eq, b2_0n, ite_f, ↓reduceIte, Bool.false_eq_true, Bool.true_eq_false, Nat.not_lt_zero, isb_b2, c_has, c_isHour, c_isKind, c_isPerson, m_isHour, m_isKind, m_isSheet, m_w, c_rN, c_rN2, cB, cF, cK, cN, cS, cM, cZ, mB, mF, mK, mN, mS, mM, mZ, k2, h1, h2, h7, q5, q6, Nat.reduceAdd]
          refine ⟨_, _, rfl, rfl, rfl, ?_⟩; exact ⟨v, e, hv, he, hm, hd, ⟨rfl, hlb, rfl, hls, rfl, hld, rfl, rfl, rfl⟩, hs, ht, hk0, hk1, hk2, (rf_step hf 0 (by decide)), hp, sa, sb, sc, sd⟩
  · have h1 : inr a1 (e 60) = false := by simpa using h1
    simp (disch := omega) only [f_X7_deedOf, f_X8_deedOf, bd_s, gd_tt, jn_s, lit32, gd_ix, nI_clamp, nI_add, pk_mul, nI_leI, nI_ltI, nI_eq, b2_0n, ite_f, ↓reduceIte, Bool.false_eq_true, Bool.true_eq_false, Nat.not_lt_zero, isb_b2, c_has, c_isHour, c_isKind, c_isPerson, m_isHour, m_isKind, m_isSheet, m_w, c_rN, c_rN2, cB, cF, cK, cN, cS, cM, cZ, mB, mF, mK, mN, mS, mM, mZ, k2, h1]
    refine ⟨_, _, rfl, rfl, rfl, ?_⟩; exact ⟨v, e, hv, he, hm, hd, ⟨rfl, hlb, rfl, hls, rfl, hld, rfl, rfl, rfl⟩, hs, ht, hk0, hk1, hk2, (rf_step hf 0 (by decide)), hp, sa, sb, sc, sd⟩
set_option maxHeartbeats 16000000 in
theorem op_people {N : Nat} (hN : 2000 ≤ N) : Op_people Rl N := by
  intro C_isKept C_l_bsize C_l_bcells C_l_ssize C_l_scells C_l_dsize C_l_dcells C_l_people C_l_rule C_l_believed C_k_bsize C_k_bcells C_k_ssize C_k_scells C_k_dsize C_k_dcells C_k_people C_k_rule C_k_believed C_d_bsize C_d_bcells C_d_ssize C_d_scells C_d_dsize C_d_dcells C_d_people C_d_rule C_d_believed C_order C_stepsAt C_doubts C_weights C_rows C_metEver C_bowedTo C_isStale C_bowCount C_doubtCount C_seenBows C_likeliest C_mostSayingsSo C_doers C_isTelling C_tbytes C_tlen C_token C_place C_behindIt C_value C_sa_nums C_sa_bits C_sa_len C_sb_nums C_sb_bits C_sb_len C_sc_nums C_sc_bits C_sc_len C_sd_nums C_sd_bits C_sd_len C_findings M_now M_kept M_isKept M_found M_order M_doubts M_doubtMany M_weights M_worn M_pairs M_isTwice M_doer M_doneTo M_doers M_tape M_taped M_begins M_ends M_sort M_value M_isWrong M_items M_itemMany M_bowThen M_doubtThen M_deedThen M_sayingThen M_widths M_sizes M_numbers M_moved a1 hR 
  obtain ⟨v, e, hv, he, hm, hd, hl, hs, ht, hk0, hk1, hk2, hf, hp, sa, sb, sc, sd⟩ := hR
  have z3 := vd_3 hv
  have z5 := vd_5 hv
  have z60 := he.1
  have k0 : M_now 0 = nI (v 0) := rn_at hm (by omega) (by omega) (by omega)
  have k3 : M_now 3 = nI (v 3) := rn_at hm (by omega) (by omega) (by omega)
  have k5 : M_now 5 = nI (v 5) := rn_at hm (by omega) (by omega) (by omega)
  have k4 : M_now 4 = nI (e 60) := hd.1
  obtain ⟨rfl, hlb, rfl, hls, rfl, hld, rfl, rfl, rfl⟩ := hl
  by_cases h1 : (2 : Int) ≤ a1.toInt ∧ a1.toInt ≤ 8
  · obtain ⟨j, hj, rfl⟩ : ∃ j, j < 9 ∧ a1 = nI j := inr_t (by decide) (inr_iff.mpr (by omega))
    rw [nI_toInt (by omega)] at h1
    have q1 : ¬ j < 2 := by omega
    have q2 : j ≤ 8 := by omega
    have w1 : f_X8_within (nI j) (nI 2) (nI 8) = some (b2 true) := by
      rw [m_wl (by decide) (by decide), nI_toInt (by omega), decide_eq_true (by omega)]
    by_cases h2 : v 3 + e 60 + v 5 = 0
    · obtain ⟨x3, x4, x5⟩ : v 3 = 0 ∧ e 60 = 0 ∧ v 5 = 0 := by omega
      have w2 : v 3 + e 60 + v 5 ≤ 0 := by omega
      simp (disch := omega) only [f_X7_people, f_X8_people, bd_s, gd_tt, jn_s, lit32, gd_ix, nI_clamp, nI_add, pk_mul, nI_leI, nI_ltI, nI_eq, b2_0n, ite_f, ↓reduceIte, Bool.false_eq_true, Bool.true_eq_false, Nat.not_lt_zero, isb_b2, c_has, c_isHour, c_isKind, c_isPerson, m_isHour, m_isKind, m_isSheet, m_w, c_rN, c_rN2, cB, cF, cK, cN, cS, cM, cZ, mB, mF, mK, mN, mS, mM, mZ, w1, q1, q2, k0, k3, k4, k5, f_X0_isEmpty, f_X4_size, x3, x4, x5, Nat.add_zero, Nat.le_refl, f_X2_forget, f_X8_become, if_neg]
      refine ⟨_, _, rfl, rfl, rfl, un v 0 j, e, ⟨by rw [un_s]; omega, by rw [un_s]; omega, (show v 1 ≤ 1 from vd_1 hv), (show v 2 ≤ 1 from vd_2 hv), (show v 3 ≤ 20 from vd_3 hv), (show v 5 ≤ 10 from vd_5 hv), ?_, fun b hb => absurd hb (by rw [un_n (by omega)]; omega), fun b hb => absurd hb (by rw [un_n (by omega)]; omega)⟩, ⟨z60, fun d hd => absurd hd (by omega)⟩, rn_set hm (by omega), re_night hd (by omega) (by omega), ⟨by rw [un_n (by omega), x3], fun j hj => by rw [un_n (by omega)]; exact hlb j hj, by rw [un_n (by omega), x5], fun j hj => by rw [un_n (by omega)]; exact hls j hj, by rw [x4], hld, rfl, rfl, rfl⟩, Or.inr rfl, st_abs, hk0, hk1, hk2, hf, hp, sa, sb, sc, sd⟩
      show dbc (un v 0 j) (un v 0 j 3) ≤ 6
      rw [un_n (by omega), x3]; exact Nat.zero_le _
    · have w2 : ¬ v 3 + e 60 + v 5 ≤ 0 := by omega
      have w3 : f_X0_isEmpty (nI (v 3)) (nI (v 5)) (nI (e 60)) = some (b2 false) := by
        unfold f_X0_isEmpty
        simp (disch := omega) only [bd_s, gd_tt, jn_s, lit32, gd_ix, nI_clamp, nI_add, pk_mul, nI_leI, nI_ltI, nI_eq, b2_0n, ite_f, ↓reduceIte, Bool.false_eq_true, Bool.true_eq_false, Nat.not_lt_zero, isb_b2, c_has, c_isHour, c_isKind, c_isPerson, m_isHour, m_isKind, m_isSheet, m_w, c_rN, c_rN2, cB, cF, cK, cN, cS, cM, cZ, mB, mF, mK, mN, mS, mM, mZ, f_X4_size]
        by_cases y3 : v 3 = 0
        · by_cases y5 : v 5 = 0
          · rw [if_pos y3, if_pos y5, if_neg (by omega)]; rfl
          · rw [if_pos y3, if_neg y5]; rfl
        · rw [if_neg y3]; rfl
      simp (disch := omega) only [f_X7_people, f_X8_people, bd_s, gd_tt, jn_s, lit32, gd_ix, nI_clamp, nI_add, pk_mul, nI_leI, nI_ltI, nI_eq, b2_0n, ite_f, ↓reduceIte, Bool.false_eq_true, Bool.true_eq_false, Nat.not_lt_zero, isb_b2, c_has, c_isHour, c_isKind, c_isPerson, m_isHour, m_isKind, m_isSheet, m_w, c_rN, c_rN2, cB, cF, cK, cN, cS, cM, cZ, mB, mF, mK, mN, mS, mM, mZ, w1, q1, q2, k0, k3, k4, k5, w3, w2]
      refine ⟨_, _, rfl, rfl, rfl, ?_⟩; exact ⟨v, e, hv, he, hm, hd, ⟨rfl, hlb, rfl, hls, rfl, hld, rfl, rfl, rfl⟩, hs, ht, hk0, hk1, hk2, (rf_step hf 4 (by decide)), hp, sa, sb, sc, sd⟩
  · have w1 : f_X8_within a1 (nI 2) (nI 8) = some (b2 false) := by
      rw [m_wl (by decide) (by decide), decide_eq_false (by omega)]
    by_cases q1 : a1 < nI 2
    · simp (disch := omega) only [f_X7_people, f_X8_people, bd_s, gd_tt, jn_s, lit32, gd_ix, nI_clamp, nI_add, pk_mul, nI_leI, nI_ltI, nI_eq, b2_0n, ite_f, ↓reduceIte, Bool.false_eq_true, Bool.true_eq_false, Nat.not_lt_zero, isb_b2, c_has, c_isHour, c_isKind, c_isPerson, m_isHour, m_isKind, m_isSheet, m_w, c_rN, c_rN2, cB, cF, cK, cN, cS, cM, cZ, mB, mF, mK, mN, mS, mM, mZ, w1, q1]
      refine ⟨_, _, rfl, rfl, rfl, ?_⟩; exact ⟨v, e, hv, he, hm, hd, ⟨rfl, hlb, rfl, hls, rfl, hld, rfl, rfl, rfl⟩, hs, ht, hk0, hk1, hk2, (rf_step hf 0 (by decide)), hp, sa, sb, sc, sd⟩
    · have q2 : ¬ a1 ≤ nI 8 := by
        rw [i32_le, nI_toInt (by decide)]; rw [i32_lt, nI_toInt (by decide)] at q1; omega
      simp (disch := omega) only [f_X7_people, f_X8_people, bd_s, gd_tt, jn_s, lit32, gd_ix, nI_clamp, nI_add, pk_mul, nI_leI, nI_ltI, nI_eq, b2_0n, ite_f, ↓reduceIte, Bool.false_eq_true, Bool.true_eq_false, Nat.not_lt_zero, isb_b2, c_has, c_isHour, c_isKind, c_isPerson, m_isHour, m_isKind, m_isSheet, m_w, c_rN, c_rN2, cB, cF, cK, cN, cS, cM, cZ, mB, mF, mK, mN, mS, mM, mZ, w1, q1, q2]
      refine ⟨_, _, rfl, rfl, rfl, ?_⟩; exact ⟨v, e, hv, he, hm, hd, ⟨rfl, hlb, rfl, hls, rfl, hld, rfl, rfl, rfl⟩, hs, ht, hk0, hk1, hk2, (rf_step hf 0 (by decide)), hp, sa, sb, sc, sd⟩
