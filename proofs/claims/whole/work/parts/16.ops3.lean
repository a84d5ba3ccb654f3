/-! ===== acts on bows, sayings, deeds ===== -/
theorem inr_fp {a : Int32} {n : Nat} (h : ¬ inr a n = true) : inr a n = false := by simpa using h
theorem nI_ge10 {t : Nat} (h : t < 2 ^ 31) : (nI 10 ≤ nI t) = (10 ≤ t) := propext (nI_leI (by decide) h)
set_option maxHeartbeats 16000000 in
theorem op_bow {N : Nat} (hN : 2000 ≤ N) : Op_bow Rl N := by
  intro C_isKept C_l_bsize C_l_bcells C_l_ssize C_l_scells C_l_dsize C_l_dcells C_l_people C_l_rule C_l_believed C_k_bsize C_k_bcells C_k_ssize C_k_scells C_k_dsize C_k_dcells C_k_people C_k_rule C_k_believed C_d_bsize C_d_bcells C_d_ssize C_d_scells C_d_dsize C_d_dcells C_d_people C_d_rule C_d_believed C_order C_stepsAt C_doubts C_weights C_rows C_metEver C_bowedTo C_isStale C_bowCount C_doubtCount C_seenBows C_likeliest C_mostSayingsSo C_doers C_isTelling C_tbytes C_tlen C_token C_place C_behindIt C_value C_sa_nums C_sa_bits C_sa_len C_sb_nums C_sb_bits C_sb_len C_sc_nums C_sc_bits C_sc_len C_sd_nums C_sd_bits C_sd_len C_findings M_now M_kept M_isKept M_found M_order M_doubts M_doubtMany M_weights M_worn M_pairs M_isTwice M_doer M_doneTo M_doers M_tape M_taped M_begins M_ends M_sort M_value M_isWrong M_items M_itemMany M_bowThen M_doubtThen M_deedThen M_sayingThen M_widths M_sizes M_numbers M_moved a1 a2 a3 a4 hR 
  obtain ⟨v, e, hv, he, hm, hd, hl, hs, ht, hk0, hk1, hk2, hf, hp, sa, sb, sc, sd⟩ := hR
  have h3 := vd_3 hv
  have h8 := vd_hi hv
  have hdc := vd_dc hv
  have k3 : M_now 3 = nI (v 3) := rn_at hm (by omega) (by omega) (by omega)
  have hb9 : ∀ b, b < v 3 → v (6 + 4 * b + 3) ≤ 10 := fun b hb => (vd_b hv b hb).2.2.2.2
  obtain ⟨rfl, hlb, rfl, hls, rfl, hld, rfl, rfl, rfl⟩ := hl
  by_cases h1 : inr a1 100 = true
  · by_cases h2 : (inr a2 (v 0) && inr a3 (v 0) && !decide (a2 = a3)) = true
    · by_cases h4 : inr a4 11 = true
      · have h2' := h2
        rw [Bool.and_eq_true, Bool.and_eq_true] at h2'
        obtain ⟨⟨p1, p2⟩, p3⟩ := h2'
        obtain ⟨x, hx, rfl⟩ := inr_t (by decide) h1
        obtain ⟨a, ha, rfl⟩ := inr_t (by omega) p1
        obtain ⟨b, hb, rfl⟩ := inr_t (by omega) p2
        obtain ⟨t, ht1, rfl⟩ := inr_t (by decide) h4
        have hab : a ≠ b := by
          intro q; subst q; simp at p3
        by_cases hf3 : v 3 = 20
        · have hff : decide (20 ≤ v 3) = true := decide_eq_true (by omega)
          simp (disch := omega) only [f_X7_bow, f_X8_bow, bd_s, gd_tt, jn_s, lit32, gd_ix, nI_clamp, nI_add, pk_mul, nI_leI, nI_ltI, nI_eq, b2_0n, ite_f, ↓reduceIte, Bool.false_eq_true, Bool.true_eq_false, Nat.not_lt_zero, isb_b2, c_has, c_isHour, c_isKind, c_isPerson, m_isHour, m_isKind, m_isSheet, m_w, c_rN, c_rN2, cB, cF, cK, cN, cS, cM, cZ, mB, mF, mK, mN, mS, mM, mZ, h1, p1, p2, hab, Bool.and_self, decide_false, Bool.not_false, Bool.and_true, h4, k3, c_areUnlike, m_areTwo hm hv, c_areTenths, c_isFull, Nat.reduceAdd, eq_true hf3, hff]
          refine ⟨_, _, rfl, rfl, rfl, ?_⟩; exact ⟨v, e, hv, he, hm, hd, ⟨rfl, hlb, rfl, hls, rfl, hld, rfl, rfl, rfl⟩, hs, ht, hk0, hk1, hk2, (rf_step hf 1 (by decide)), hp, sa, sb, sc, sd⟩
        · have hff : decide (20 ≤ v 3) = false := decide_eq_false (by omega)
          obtain ⟨now', e2, r1, r2⟩ := m_bowed hm hd (by omega) (show x < 1000 by omega) (show a < 1000 by omega) (show b < 1000 by omega) (show t < 1000 by omega)
          by_cases h10 : 10 ≤ t
          · simp (disch := omega) only [f_X7_bow, f_X8_bow, bd_s, gd_tt, jn_s, lit32, gd_ix, nI_clamp, nI_add, pk_mul, nI_leI, nI_ltI, nI_eq, b2_0n, ite_f, ↓reduceIte, Bool.false_eq_true, Bool.true_eq_false, Nat.not_lt_zero, isb_b2, c_has, c_isHour, c_isKind, c_isPerson, m_isHour, m_isKind, m_isSheet, m_w, c_rN, c_rN2, cB, cF, cK, cN, cS, cM, cZ, mB, mF, mK, mN, mS, mM, mZ, h1, p1, p2, hab, Bool.and_self, decide_false, Bool.not_false, Bool.and_true, h4, k3, c_areUnlike, m_areTwo hm hv, c_areTenths, c_isFull, Nat.reduceAdd, hff, hf3, h10, e2, c_add, f_X2_forget]
            refine ⟨_, _, rfl, rfl, rfl, ?_⟩; exact ⟨adB v x a b t, e, adB_vd hv (by omega) hx ha hb hab (by omega) (by omega), ⟨he.1, fun d hd => by rw [adB_old (by omega) (by omega)]; exact he.2 d hd⟩, r1, r2, ⟨by rw [adB_3], rl_bow hlb x a b t, by rw [adB_old (by omega) (by omega)], fun j hj => by rw [adB_old (by omega) (by omega)]; exact hls j hj, rfl, hld, by rw [adB_old (by omega) (by omega)], by rw [adB_old (by omega) (by omega)], by rw [adB_old (by omega) (by omega)]⟩, Or.inr rfl, st_abs, hk0, hk1, hk2, hf, hp, sa, sb, sc, sd⟩
          · by_cases h6 : dc v < 6
            · have h6' : ¬ dc v = 6 := by omega
              simp (disch := omega) only [f_X7_bow, f_X8_bow, bd_s, gd_tt, jn_s, lit32, gd_ix, nI_clamp, nI_add, pk_mul, nI_leI, nI_ltI, nI_eq, b2_0n, ite_f, ↓reduceIte, Bool.false_eq_true, Bool.true_eq_false, Nat.not_lt_zero, isb_b2, c_has, c_isHour, c_isKind, c_isPerson, m_isHour, m_isKind, m_isSheet, m_w, c_rN, c_rN2, cB, cF, cK, cN, cS, cM, cZ, mB, mF, mK, mN, mS, mM, mZ, h1, p1, p2, hab, Bool.and_self, decide_false, Bool.not_false, Bool.and_true, h4, k3, c_areUnlike, m_areTwo hm hv, c_areTenths, c_isFull, Nat.reduceAdd, hff, hf3, h10, e2, c_add, f_X2_forget, m_doubted hm h3 hN, c_room hlb h3 hb9 hdc hN, h6, h6', decide_true]
              refine ⟨_, _, rfl, rfl, rfl, ?_⟩; exact ⟨adB v x a b t, e, adB_vd hv (by omega) hx ha hb hab (by omega) (by omega), ⟨he.1, fun d hd => by rw [adB_old (by omega) (by omega)]; exact he.2 d hd⟩, r1, r2, ⟨by rw [adB_3], rl_bow hlb x a b t, by rw [adB_old (by omega) (by omega)], fun j hj => by rw [adB_old (by omega) (by omega)]; exact hls j hj, rfl, hld, by rw [adB_old (by omega) (by omega)], by rw [adB_old (by omega) (by omega)], by rw [adB_old (by omega) (by omega)]⟩, Or.inr rfl, st_abs, hk0, hk1, hk2, hf, hp, sa, sb, sc, sd⟩
            · have h6' : dc v = 6 := by omega
              simp (disch := omega) only [f_X7_bow, f_X8_bow, bd_s, gd_tt, jn_s, lit32, gd_ix, nI_clamp, nI_add, pk_mul, nI_leI, nI_ltI, nI_eq, b2_0n, ite_f, ↓reduceIte, Bool.false_eq_true, Bool.true_eq_false, Nat.not_lt_zero, isb_b2, c_has, c_isHour, c_isKind, c_isPerson, m_isHour, m_isKind, m_isSheet, m_w, c_rN, c_rN2, cB, cF, cK, cN, cS, cM, cZ, mB, mF, mK, mN, mS, mM, mZ, h1, p1, p2, hab, Bool.and_self, decide_false, Bool.not_false, Bool.and_true, h4, k3, c_areUnlike, m_areTwo hm hv, c_areTenths, c_isFull, Nat.reduceAdd, hff, hf3, h10, m_doubted hm h3 hN, c_room hlb h3 hb9 hdc hN, eq_true h6', h6, decide_false]
              refine ⟨_, _, rfl, rfl, rfl, ?_⟩; exact ⟨v, e, hv, he, hm, hd, ⟨rfl, hlb, rfl, hls, rfl, hld, rfl, rfl, rfl⟩, hs, ht, hk0, hk1, hk2, (rf_step hf 1 (by decide)), hp, sa, sb, sc, sd⟩
      · have h4 := inr_fp h4
        simp (disch := omega) only [f_X7_bow, f_X8_bow, bd_s, gd_tt, jn_s, lit32, gd_ix, nI_clamp, nI_add, pk_mul, nI_leI, nI_ltI, nI_eq, b2_0n, ite_f, ↓reduceIte, Bool.false_eq_true, Bool.true_eq_false, Nat.not_lt_zero, isb_b2, c_has, c_isHour, c_isKind, c_isPerson, m_isHour, m_isKind, m_isSheet, m_w, c_rN, c_rN2, cB, cF, cK, cN, cS, cM, cZ, mB, mF, mK, mN, mS, mM, mZ, h1, h2, h4, c_areUnlike, m_areTwo hm hv, c_areTenths, Nat.reduceAdd]
        refine ⟨_, _, rfl, rfl, rfl, ?_⟩; exact ⟨v, e, hv, he, hm, hd, ⟨rfl, hlb, rfl, hls, rfl, hld, rfl, rfl, rfl⟩, hs, ht, hk0, hk1, hk2, (rf_step hf 0 (by decide)), hp, sa, sb, sc, sd⟩
    · have h2 : (inr a2 (v 0) && inr a3 (v 0) && !decide (a2 = a3)) = false := by simpa using h2
      simp (disch := omega) only [f_X7_bow, f_X8_bow, bd_s, gd_tt, jn_s, lit32, gd_ix, nI_clamp, nI_add, pk_mul, nI_leI, nI_ltI, nI_eq, b2_0n, ite_f, ↓reduceIte, Bool.false_eq_true, Bool.true_eq_false, Nat.not_lt_zero, isb_b2, c_has, c_isHour, c_isKind, c_isPerson, m_isHour, m_isKind, m_isSheet, m_w, c_rN, c_rN2, cB, cF, cK, cN, cS, cM, cZ, mB, mF, mK, mN, mS, mM, mZ, h1, h2, c_areUnlike, m_areTwo hm hv]
      refine ⟨_, _, rfl, rfl, rfl, ?_⟩; exact ⟨v, e, hv, he, hm, hd, ⟨rfl, hlb, rfl, hls, rfl, hld, rfl, rfl, rfl⟩, hs, ht, hk0, hk1, hk2, (rf_step hf 0 (by decide)), hp, sa, sb, sc, sd⟩
  · have h1 := inr_fp h1
    simp (disch := omega) only [f_X7_bow, f_X8_bow, bd_s, gd_tt, jn_s, lit32, gd_ix, nI_clamp, nI_add, pk_mul, nI_leI, nI_ltI, nI_eq, b2_0n, ite_f, ↓reduceIte, Bool.false_eq_true, Bool.true_eq_false, Nat.not_lt_zero, isb_b2, c_has, c_isHour, c_isKind, c_isPerson, m_isHour, m_isKind, m_isSheet, m_w, c_rN, c_rN2, cB, cF, cK, cN, cS, cM, cZ, mB, mF, mK, mN, mS, mM, mZ, h1]
    refine ⟨_, _, rfl, rfl, rfl, ?_⟩; exact ⟨v, e, hv, he, hm, hd, ⟨rfl, hlb, rfl, hls, rfl, hld, rfl, rfl, rfl⟩, hs, ht, hk0, hk1, hk2, (rf_step hf 0 (by decide)), hp, sa, sb, sc, sd⟩
set_option maxHeartbeats 16000000 in
theorem op_says {N : Nat} (hN : 2000 ≤ N) : Op_says Rl N := by
  intro C_isKept C_l_bsize C_l_bcells C_l_ssize C_l_scells C_l_dsize C_l_dcells C_l_people C_l_rule C_l_believed C_k_bsize C_k_bcells C_k_ssize C_k_scells C_k_dsize C_k_dcells C_k_people C_k_rule C_k_believed C_d_bsize C_d_bcells C_d_ssize C_d_scells C_d_dsize C_d_dcells C_d_people C_d_rule C_d_believed C_order C_stepsAt C_doubts C_weights C_rows C_metEver C_bowedTo C_isStale C_bowCount C_doubtCount C_seenBows C_likeliest C_mostSayingsSo C_doers C_isTelling C_tbytes C_tlen C_token C_place C_behindIt C_value C_sa_nums C_sa_bits C_sa_len C_sb_nums C_sb_bits C_sb_len C_sc_nums C_sc_bits C_sc_len C_sd_nums C_sd_bits C_sd_len C_findings M_now M_kept M_isKept M_found M_order M_doubts M_doubtMany M_weights M_worn M_pairs M_isTwice M_doer M_doneTo M_doers M_tape M_taped M_begins M_ends M_sort M_value M_isWrong M_items M_itemMany M_bowThen M_doubtThen M_deedThen M_sayingThen M_widths M_sizes M_numbers M_moved a1 a2 a3 a4 hR hz4
  obtain ⟨v, e, hv, he, hm, hd, hl, hs, ht, hk0, hk1, hk2, hf, hp, sa, sb, sc, sd⟩ := hR
  have h5 := vd_5 hv
  have h3 := vd_3 hv
  have h8 := vd_hi hv
  have k5 : M_now 5 = nI (v 5) := rn_at hm (by omega) (by omega) (by omega)
  obtain ⟨rfl, hlb, rfl, hls, rfl, hld, rfl, rfl, rfl⟩ := hl
  obtain ⟨z, hz, rfl⟩ : ∃ z, z ≤ 1 ∧ a4 = nI z := by
    rcases hz4 with h | h
    · exact ⟨0, by decide, h⟩
    · exact ⟨1, by decide, h⟩
  have ez : (if z = 0 then some (nI 0) else some (nI 1)) = some (nI z) := by
    rcases (show z = 0 ∨ z = 1 by omega) with rfl | rfl <;> rfl
  by_cases h1 : inr a1 100 = true
  · by_cases h2 : inr a2 (v 0) = true
    · by_cases h4 : inr a3 (v 0) = true
      · obtain ⟨x, hx, rfl⟩ := inr_t (by decide) h1
        obtain ⟨a, ha, rfl⟩ := inr_t (by omega) h2
        obtain ⟨b, hb, rfl⟩ := inr_t (by omega) h4
        by_cases hf3 : v 5 = 10
        · have hff : decide (10 ≤ v 5) = true := decide_eq_true (by omega)
          simp (disch := omega) only [f_X7_says, f_X8_says, bd_s, gd_tt, jn_s, lit32, gd_ix, nI_clamp, nI_add, pk_mul, nI_leI, nI_ltI, nI_eq, b2_0n, ite_f, ↓reduceIte, Bool.false_eq_true, Bool.true_eq_false, Nat.not_lt_zero, isb_b2, c_has, c_isHour, c_isKind, c_isPerson, m_isHour, m_isKind, m_isSheet, m_w, c_rN, c_rN2, cB, cF, cK, cN, cS, cM, cZ, mB, mF, mK, mN, mS, mM, mZ, h1, h2, h4, k5, m_isOne hm hv, c_isFull, eq_true hf3, hff]
          refine ⟨_, _, rfl, rfl, rfl, ?_⟩; exact ⟨v, e, hv, he, hm, hd, ⟨rfl, hlb, rfl, hls, rfl, hld, rfl, rfl, rfl⟩, hs, ht, hk0, hk1, hk2, (rf_step hf 1 (by decide)), hp, sa, sb, sc, sd⟩
        · have hff : decide (10 ≤ v 5) = false := decide_eq_false (by omega)
          obtain ⟨now', e2, r1, r2⟩ := m_said hm hd (by omega) (show x < 1000 by omega) (show a < 1000 by omega) (show b < 1000 by omega) (show z < 1000 by omega)
          simp (disch := omega) only [f_X7_says, f_X8_says, bd_s, gd_tt, jn_s, lit32, gd_ix, nI_clamp, nI_add, pk_mul, nI_leI, nI_ltI, nI_eq, b2_0n, ite_f, ↓reduceIte, Bool.false_eq_true, Bool.true_eq_false, Nat.not_lt_zero, isb_b2, c_has, c_isHour, c_isKind, c_isPerson, m_isHour, m_isKind, m_isSheet, m_w, c_rN, c_rN2, cB, cF, cK, cN, cS, cM, cZ, mB, mF, mK, mN, mS, mM, mZ, h1, h2, h4, k5, m_isOne hm hv, c_isFull, hff, hf3, e2, c_add, f_X2_forget, ez]
          refine ⟨_, _, rfl, rfl, rfl, ?_⟩; exact ⟨adS v x a b z, e, adS_vd hv (by omega) hx ha hb hz, ⟨he.1, fun d hd => by rw [adS_old (by omega) (by omega)]; exact he.2 d hd⟩, r1, r2, ⟨by rw [adS_old (by omega) (by omega)], fun j hj => by rw [adS_old (by omega) (by omega)]; exact hlb j hj, by rw [adS_5], rl_say hls x a b z, rfl, hld, by rw [adS_old (by omega) (by omega)], by rw [adS_old (by omega) (by omega)], by rw [adS_old (by omega) (by omega)]⟩, Or.inr rfl, st_abs, hk0, hk1, hk2, hf, hp, sa, sb, sc, sd⟩
      · have h4 := inr_fp h4
        simp (disch := omega) only [f_X7_says, f_X8_says, bd_s, gd_tt, jn_s, lit32, gd_ix, nI_clamp, nI_add, pk_mul, nI_leI, nI_ltI, nI_eq, b2_0n, ite_f, ↓reduceIte, Bool.false_eq_true, Bool.true_eq_false, Nat.not_lt_zero, isb_b2, c_has, c_isHour, c_isKind, c_isPerson, m_isHour, m_isKind, m_isSheet, m_w, c_rN, c_rN2, cB, cF, cK, cN, cS, cM, cZ, mB, mF, mK, mN, mS, mM, mZ, h1, h2, h4, m_isOne hm hv]
        refine ⟨_, _, rfl, rfl, rfl, ?_⟩; exact ⟨v, e, hv, he, hm, hd, ⟨rfl, hlb, rfl, hls, rfl, hld, rfl, rfl, rfl⟩, hs, ht, hk0, hk1, hk2, (rf_step hf 0 (by decide)), hp, sa, sb, sc, sd⟩
    · have h2 := inr_fp h2
      simp (disch := omega) only [f_X7_says, f_X8_says, bd_s, gd_tt, jn_s, lit32, gd_ix, nI_clamp, nI_add, pk_mul, nI_leI, nI_ltI, nI_eq, b2_0n, ite_f, ↓reduceIte, Bool.false_eq_true, Bool.true_eq_false, Nat.not_lt_zero, isb_b2, c_has, c_isHour, c_isKind, c_isPerson, m_isHour, m_isKind, m_isSheet, m_w, c_rN, c_rN2, cB, cF, cK, cN, cS, cM, cZ, mB, mF, mK, mN, mS, mM, mZ, h1, h2, m_isOne hm hv]
      refine ⟨_, _, rfl, rfl, rfl, ?_⟩; exact ⟨v, e, hv, he, hm, hd, ⟨rfl, hlb, rfl, hls, rfl, hld, rfl, rfl, rfl⟩, hs, ht, hk0, hk1, hk2, (rf_step hf 0 (by decide)), hp, sa, sb, sc, sd⟩
  · have h1 := inr_fp h1
    simp (disch := omega) only [f_X7_says, f_X8_says, bd_s, gd_tt, jn_s, lit32, gd_ix, nI_clamp, nI_add, pk_mul, nI_leI, nI_ltI, nI_eq, b2_0n, ite_f, ↓reduceIte, Bool.false_eq_true, Bool.true_eq_false, Nat.not_lt_zero, isb_b2, c_has, c_isHour, c_isKind, c_isPerson, m_isHour, m_isKind, m_isSheet, m_w, c_rN, c_rN2, cB, cF, cK, cN, cS, cM, cZ, mB, mF, mK, mN, mS, mM, mZ, h1]
    refine ⟨_, _, rfl, rfl, rfl, ?_⟩; exact ⟨v, e, hv, he, hm, hd, ⟨rfl, hlb, rfl, hls, rfl, hld, rfl, rfl, rfl⟩, hs, ht, hk0, hk1, hk2, (rf_step hf 0 (by decide)), hp, sa, sb, sc, sd⟩
set_option maxHeartbeats 16000000 in
theorem op_deed {N : Nat} (hN : 2000 ≤ N) : Op_deed Rl N := by
  intro C_isKept C_l_bsize C_l_bcells C_l_ssize C_l_scells C_l_dsize C_l_dcells C_l_people C_l_rule C_l_believed C_k_bsize C_k_bcells C_k_ssize C_k_scells C_k_dsize C_k_dcells C_k_people C_k_rule C_k_believed C_d_bsize C_d_bcells C_d_ssize C_d_scells C_d_dsize C_d_dcells C_d_people C_d_rule C_d_believed C_order C_stepsAt C_doubts C_weights C_rows C_metEver C_bowedTo C_isStale C_bowCount C_doubtCount C_seenBows C_likeliest C_mostSayingsSo C_doers C_isTelling C_tbytes C_tlen C_token C_place C_behindIt C_value C_sa_nums C_sa_bits C_sa_len C_sb_nums C_sb_bits C_sb_len C_sc_nums C_sc_bits C_sc_len C_sd_nums C_sd_bits C_sd_len C_findings M_now M_kept M_isKept M_found M_order M_doubts M_doubtMany M_weights M_worn M_pairs M_isTwice M_doer M_doneTo M_doers M_tape M_taped M_begins M_ends M_sort M_value M_isWrong M_items M_itemMany M_bowThen M_doubtThen M_deedThen M_sayingThen M_widths M_sizes M_numbers M_moved a1 a2 a3 a4 a5 hR 
  obtain ⟨v, e, hv, he, hm, hd, hl, hs, ht, hk0, hk1, hk2, hf, hp, sa, sb, sc, sd⟩ := hR
  have h60 := he.1
  have h8 := vd_hi hv
  have k4 : M_now 4 = nI (e 60) := hd.1
  obtain ⟨rfl, hlb, rfl, hls, rfl, hld, rfl, rfl, rfl⟩ := hl
  by_cases h0 : inr a1 6 = true
  · by_cases h1 : inr a2 100 = true
    · by_cases h2 : (inr a3 (v 0) && inr a4 (v 0) && !decide (a3 = a4)) = true
      · by_cases h4 : inr a5 1000 = true
        · have h2' := h2
          rw [Bool.and_eq_true, Bool.and_eq_true] at h2'
          obtain ⟨⟨p1, p2⟩, p3⟩ := h2'
          obtain ⟨k, hk, rfl⟩ := inr_t (by decide) h0
          obtain ⟨x, hx, rfl⟩ := inr_t (by decide) h1
          obtain ⟨a, ha, rfl⟩ := inr_t (by omega) p1
          obtain ⟨b, hb, rfl⟩ := inr_t (by omega) p2
          obtain ⟨t, ht1, rfl⟩ := inr_t (by decide) h4
          have hab : a ≠ b := by
            intro q; subst q; simp at p3
          by_cases hf3 : e 60 = 12
          · have hff : decide (12 ≤ e 60) = true := decide_eq_true (by omega)
            simp (disch := omega) only [f_X7_deed, f_X8_deed, bd_s, gd_tt, jn_s, lit32, gd_ix, nI_clamp, nI_add, pk_mul, nI_leI, nI_ltI, nI_eq, b2_0n, ite_f, ↓reduceIte, Bool.false_eq_true, Bool.true_eq_false, Nat.not_lt_zero, isb_b2, c_has, c_isHour, c_isKind, c_isPerson, m_isHour, m_isKind, m_isSheet, m_w, c_rN, c_rN2, cB, cF, cK, cN, cS, cM, cZ, mB, mF, mK, mN, mS, mM, mZ, h0, h1, p1, p2, hab, Bool.and_self, decide_false, Bool.not_false, Bool.and_true, h4, ht1, k4, c_areUnlike, m_areTwo hm hv, c_isFull, Nat.reduceAdd, eq_true hf3, hff]
            refine ⟨_, _, rfl, rfl, rfl, ?_⟩; exact ⟨v, e, hv, he, hm, hd, ⟨rfl, hlb, rfl, hls, rfl, hld, rfl, rfl, rfl⟩, hs, ht, hk0, hk1, hk2, (rf_step hf 1 (by decide)), hp, sa, sb, sc, sd⟩
          · have hff : decide (12 ≤ e 60) = false := decide_eq_false (by omega)
            obtain ⟨now', e2, r1, r2⟩ := m_done hm hd (by omega) (show k < 1000 by omega) (show x < 1000 by omega) (show a < 1000 by omega) (show b < 1000 by omega) (show t < 1000 by omega)
            simp (disch := omega) only [f_X7_deed, f_X8_deed, bd_s, gd_tt, jn_s, lit32, gd_ix, nI_clamp, nI_add, pk_mul, nI_leI, nI_ltI, nI_eq, b2_0n, ite_f, ↓reduceIte, Bool.false_eq_true, Bool.true_eq_false, Nat.not_lt_zero, isb_b2, c_has, c_isHour, c_isKind, c_isPerson, m_isHour, m_isKind, m_isSheet, m_w, c_rN, c_rN2, cB, cF, cK, cN, cS, cM, cZ, mB, mF, mK, mN, mS, mM, mZ, h0, h1, p1, p2, hab, Bool.and_self, decide_false, Bool.not_false, Bool.and_true, h4, ht1, k4, c_areUnlike, m_areTwo hm hv, c_isFull, Nat.reduceAdd, hff, hf3, e2, f_X0_addDeed, c_add, c_put]
            refine ⟨_, _, rfl, rfl, rfl, ?_⟩; exact ⟨v, adD e k x a b t, hv, adD_ve he (by omega) hk hx ha hb hab ht1, r1, r2, ⟨rfl, hlb, rfl, hls, by rw [adD_60], rl_deed hld k x a b t, rfl, rfl, rfl⟩, hs, ht, hk0, hk1, hk2, hf, hp, sa, sb, sc, sd⟩
        · have h4 := inr_fp h4
          simp (disch := omega) only [f_X7_deed, f_X8_deed, bd_s, gd_tt, jn_s, lit32, gd_ix, nI_clamp, nI_add, pk_mul, nI_leI, nI_ltI, nI_eq, b2_0n, ite_f, ↓reduceIte, Bool.false_eq_true, Bool.true_eq_false, Nat.not_lt_zero, isb_b2, c_has, c_isHour, c_isKind, c_isPerson, m_isHour, m_isKind, m_isSheet, m_w, c_rN, c_rN2, cB, cF, cK, cN, cS, cM, cZ, mB, mF, mK, mN, mS, mM, mZ, h0, h1, h2, h4, c_areUnlike, m_areTwo hm hv, Nat.reduceAdd]
          refine ⟨_, _, rfl, rfl, rfl, ?_⟩; exact ⟨v, e, hv, he, hm, hd, ⟨rfl, hlb, rfl, hls, rfl, hld, rfl, rfl, rfl⟩, hs, ht, hk0, hk1, hk2, (rf_step hf 0 (by decide)), hp, sa, sb, sc, sd⟩
      · have h2 : (inr a3 (v 0) && inr a4 (v 0) && !decide (a3 = a4)) = false := by simpa using h2
        simp (disch := omega) only [f_X7_deed, f_X8_deed, bd_s, gd_tt, jn_s, lit32, gd_ix, nI_clamp, nI_add, pk_mul, nI_leI, nI_ltI, nI_eq, b2_0n, ite_f, ↓reduceIte, Bool.false_eq_true, Bool.true_eq_false, Nat.not_lt_zero, isb_b2, c_has, c_isHour, c_isKind, c_isPerson, m_isHour, m_isKind, m_isSheet, m_w, c_rN, c_rN2, cB, cF, cK, cN, cS, cM, cZ, mB, mF, mK, mN, mS, mM, mZ, h0, h1, h2, c_areUnlike, m_areTwo hm hv]
        refine ⟨_, _, rfl, rfl, rfl, ?_⟩; exact ⟨v, e, hv, he, hm, hd, ⟨rfl, hlb, rfl, hls, rfl, hld, rfl, rfl, rfl⟩, hs, ht, hk0, hk1, hk2, (rf_step hf 0 (by decide)), hp, sa, sb, sc, sd⟩
    · have h1 := inr_fp h1
      simp (disch := omega) only [f_X7_deed, f_X8_deed, bd_s, gd_tt, jn_s, lit32, gd_ix, nI_clamp, nI_add, pk_mul, nI_leI, nI_ltI, nI_eq, b2_0n, ite_f, ↓reduceIte, Bool.false_eq_true, Bool.true_eq_false, Nat.not_lt_zero, isb_b2, c_has, c_isHour, c_isKind, c_isPerson, m_isHour, m_isKind, m_isSheet, m_w, c_rN, c_rN2, cB, cF, cK, cN, cS, cM, cZ, mB, mF, mK, mN, mS, mM, mZ, h0, h1]
      refine ⟨_, _, rfl, rfl, rfl, ?_⟩; exact ⟨v, e, hv, he, hm, hd, ⟨rfl, hlb, rfl, hls, rfl, hld, rfl, rfl, rfl⟩, hs, ht, hk0, hk1, hk2, (rf_step hf 0 (by decide)), hp, sa, sb, sc, sd⟩
  · have h0 := inr_fp h0
    simp (disch := omega) only [f_X7_deed, f_X8_deed, bd_s, gd_tt, jn_s, lit32, gd_ix, nI_clamp, nI_add, pk_mul, nI_leI, nI_ltI, nI_eq, b2_0n, ite_f, ↓reduceIte, Bool.false_eq_true, Bool.true_eq_false, Nat.not_lt_zero, isb_b2, c_has, c_isHour, c_isKind, c_isPerson, m_isHour, m_isKind, m_isSheet, m_w, c_rN, c_rN2, cB, cF, cK, cN, cS, cM, cZ, mB, mF, mK, mN, mS, mM, mZ, h0]
    refine ⟨_, _, rfl, rfl, rfl, ?_⟩; exact ⟨v, e, hv, he, hm, hd, ⟨rfl, hlb, rfl, hls, rfl, hld, rfl, rfl, rfl⟩, hs, ht, hk0, hk1, hk2, (rf_step hf 0 (by decide)), hp, sa, sb, sc, sd⟩
/-- a bow's tenths become others -/
def stT (v : Nat → Nat) (b t : Nat) : Nat → Nat := un v (6 + 4 * b + 3) t
theorem stT_dbc (v : Nat → Nat) (b t : Nat) : ∀ n, dbc (stT v b t) n + (if b < n ∧ v (6 + 4 * b + 3) < 10 then 1 else 0) = dbc v n + (if b < n ∧ t < 10 then 1 else 0)
  | 0 => rfl
  | n + 1 => by
    have ih := stT_dbc v b t n
    show dbc (stT v b t) n + (if stT v b t (6 + 4 * n + 3) < 10 then 1 else 0) + _ = dbc v n + (if v (6 + 4 * n + 3) < 10 then 1 else 0) + _
    by_cases q : b = n
    · subst q
      rw [show stT v b t (6 + 4 * b + 3) = t from un_s]
      simp only [Nat.lt_irrefl, false_and, if_false, Nat.add_zero] at ih
      simp only [Nat.lt_succ_self, true_and]
      omega
    · rw [show stT v b t (6 + 4 * n + 3) = v (6 + 4 * n + 3) from un_n (by omega)]
      have hq : (b < n + 1) = (b < n) := propext ⟨fun h => by omega, fun h => by omega⟩
      simp only [hq]
      omega
theorem stT_vd {v : Nat → Nat} {b t : Nat} (hv : Vd v) (hb : b < v 3) (ht : t ≤ 10) (hok : t < 10 → v (6 + 4 * b + 3) < 10 ∨ dc v < 6) : Vd (stT v b t) := by
  have h3 := vd_3 hv
  have hdc := vd_dc hv
  have o : ∀ k, k ≠ 6 + 4 * b + 3 → stT v b t k = v k := fun k hk => un_n hk
  have e3 := o 3 (by omega)
  refine ⟨by rw [o 0 (by omega)]; exact vd_lo hv, by rw [o 0 (by omega)]; exact vd_hi hv, by rw [o 1 (by omega)]; exact vd_1 hv, by rw [o 2 (by omega)]; exact vd_2 hv, by rw [e3]; exact h3, ?_, ?_, fun b' hb' => ?_, fun s hs => ?_⟩
  · by_cases q : 5 = 6 + 4 * b + 3
    · omega
    · rw [o 5 q]; exact vd_5 hv
  · unfold dc at hdc hok ⊢
    rw [e3]
    have := stT_dbc v b t (v 3)
    by_cases q : v (6 + 4 * b + 3) < 10
    · rw [if_pos ⟨hb, q⟩] at this
      split at this <;> omega
    · rw [if_neg (by omega)] at this
      by_cases q2 : t < 10
      · rw [if_pos ⟨hb, q2⟩] at this
        have := hok q2; omega
      · rw [if_neg (by omega)] at this; omega
  · rw [e3] at hb'
    have := vd_b hv b' hb'
    rw [o 0 (by omega), o _ (by omega), o (6 + 4 * b' + 1) (by omega), o (6 + 4 * b' + 2) (by omega)]
    by_cases q : b' = b
    · rw [q, show stT v b t (6 + 4 * b + 3) = t from un_s]
      rw [q] at this
      exact ⟨this.1, this.2.1, this.2.2.1, this.2.2.2.1, ht⟩
    · rw [o (6 + 4 * b' + 3) (by omega)]; exact this
  · rw [o 5 (by omega)] at hs
    rw [o 0 (by omega), o _ (by omega), o _ (by omega), o _ (by omega), o _ (by omega)]
    exact vd_s hv s hs
theorem stT_rl {v : Nat → Nat} {cells : Nat → Int32} (h : ∀ j, j < 80 → cells j = nI (v (6 + j))) (b t : Nat) : ∀ j, j < 80 → upd cells (b * 4 + 3) (nI t) j = nI (stT v b t (6 + j)) := by
  unfold stT
  rw [show 6 + 4 * b + 3 = 6 + (b * 4 + 3) by omega]
  exact cell_set h
/-- may a bow have these tenths: both sides ask it -/
def mayT (v : Nat → Nat) (b t : Nat) : Bool := decide (t = 10) || decide (v (6 + 4 * b + 3) < 10) || decide (dc v < 6)
theorem c_may {v : Nat → Nat} {cells : Nat → Int32} (h : ∀ j, j < 80 → cells j = nI (v (6 + j))) (hv : Vd v) {N b t : Nat} (hN : 2000 ≤ N) (hb : b < v 3) (ht : t ≤ 10) : f_X0_mayHaveTenths N (nI (v 3)) cells (nI b) (nI t) = some (b2 (mayT v b t)) := by
  have h3 := vd_3 hv
  have hb9 : ∀ b, b < v 3 → v (6 + 4 * b + 3) ≤ 10 := fun b hb => (vd_b hv b hb).2.2.2.2
  have hb10 := hb9 b hb
  unfold f_X0_mayHaveTenths f_X0_isDoubted mayT
  simp (disch := omega) only [bd_s, gd_tt, jn_s, lit32, gd_ix, nI_clamp, nI_add, pk_mul, nI_leI, nI_ltI, nI_eq, b2_0n, ite_f, ↓reduceIte, Bool.false_eq_true, Bool.true_eq_false, Nat.not_lt_zero, isb_b2, c_has, c_isHour, c_isKind, c_isPerson, m_isHour, m_isKind, m_isSheet, m_w, c_rN, c_rN2, cB, cF, cK, cN, cS, cM, cZ, mB, mF, mK, mN, mS, mM, mZ, c_bow h, c_room h h3 hb9 (vd_dc hv) hN]
  by_cases q1 : t = 10
  · rw [if_pos q1, decide_eq_true q1]; rfl
  · rw [if_neg q1, decide_eq_false q1]
    by_cases q2 : v (6 + 4 * b + 3) < 10
    · rw [if_neg (by omega), decide_eq_true q2, bd_s, if_neg (by decide)]; rfl
    · rw [if_pos (by omega), decide_eq_false q2, bd_s, if_pos rfl]
      cases decide (dc v < 6) <;> rfl
theorem m_many {v : Nat → Nat} {now : Nat → Int32} (h : RN v now) (hv : Vd v) {N b t : Nat} (hN : 2000 ≤ N) (hb : b < v 3) (ht : t ≤ 10) : f_X8_wouldBeOneTooMany N now (nI b) (nI t) = some (b2 (!mayT v b t)) := by
  have h3 := vd_3 hv
  have hdc := vd_dc hv
  have hb10 := (vd_b hv b hb).2.2.2.2
  unfold f_X8_wouldBeOneTooMany mayT
  simp (disch := omega) only [bd_s, gd_tt, jn_s, lit32, gd_ix, nI_clamp, nI_add, pk_mul, nI_leI, nI_ltI, nI_eq, b2_0n, ite_f, ↓reduceIte, Bool.false_eq_true, Bool.true_eq_false, Nat.not_lt_zero, isb_b2, c_has, c_isHour, c_isKind, c_isPerson, m_isHour, m_isKind, m_isSheet, m_w, c_rN, c_rN2, cB, cF, cK, cN, cS, cM, cZ, mB, mF, mK, mN, mS, mM, mZ, m_bowIs h, m_doubted h h3 hN]
  by_cases q1 : t = 10
  · rw [if_pos (by omega), decide_eq_true q1]; rfl
  · rw [if_neg (by omega), decide_eq_false q1]
    by_cases q2 : v (6 + 4 * b + 3) < 10
    · rw [if_neg (by omega), decide_eq_true q2]; rfl
    · rw [if_pos (by omega), decide_eq_false q2]
      by_cases q3 : dc v < 6
      · rw [if_neg (by omega), decide_eq_true q3]; rfl
      · rw [if_pos (by omega), decide_eq_false q3]; rfl
theorem mayT_ok {v : Nat → Nat} {b t : Nat} (h : mayT v b t = true) : t < 10 → v (6 + 4 * b + 3) < 10 ∨ dc v < 6 := by
  intro h10
  unfold mayT at h
  simp only [Bool.or_eq_true, decide_eq_true_eq] at h
  omega
set_option maxHeartbeats 16000000 in
theorem op_doubt {N : Nat} (hN : 2000 ≤ N) : Op_doubt Rl N := by
  intro C_isKept C_l_bsize C_l_bcells C_l_ssize C_l_scells C_l_dsize C_l_dcells C_l_people C_l_rule C_l_believed C_k_bsize C_k_bcells C_k_ssize C_k_scells C_k_dsize C_k_dcells C_k_people C_k_rule C_k_believed C_d_bsize C_d_bcells C_d_ssize C_d_scells C_d_dsize C_d_dcells C_d_people C_d_rule C_d_believed C_order C_stepsAt C_doubts C_weights C_rows C_metEver C_bowedTo C_isStale C_bowCount C_doubtCount C_seenBows C_likeliest C_mostSayingsSo C_doers C_isTelling C_tbytes C_tlen C_token C_place C_behindIt C_value C_sa_nums C_sa_bits C_sa_len C_sb_nums C_sb_bits C_sb_len C_sc_nums C_sc_bits C_sc_len C_sd_nums C_sd_bits C_sd_len C_findings M_now M_kept M_isKept M_found M_order M_doubts M_doubtMany M_weights M_worn M_pairs M_isTwice M_doer M_doneTo M_doers M_tape M_taped M_begins M_ends M_sort M_value M_isWrong M_items M_itemMany M_bowThen M_doubtThen M_deedThen M_sayingThen M_widths M_sizes M_numbers M_moved a1 a2 hR 
  obtain ⟨v, e, hv, he, hm, hd, hl, hs, ht, hk0, hk1, hk2, hf, hp, sa, sb, sc, sd⟩ := hR
  have h3 := vd_3 hv
  obtain ⟨rfl, hlb, rfl, hls, rfl, hld, rfl, rfl, rfl⟩ := hl
  have k2 := m_isBow hm hv a1
  by_cases h1 : inr a1 (v 3) = true
  · by_cases h2 : inr a2 11 = true
    · obtain ⟨b, hb, rfl⟩ := inr_t (by omega) h1
      obtain ⟨t, ht1, rfl⟩ := inr_t (by decide) h2
      by_cases q : mayT v b t = true
      · have e1 : M_now (6 + 4 * b + 3) = nI (v (6 + 4 * b + 3)) := rn_at hm (by omega) (by omega) (by omega)
        simp (disch := omega) only [f_X7_doubt, f_X8_doubt, bd_s, gd_tt, jn_s, lit32, gd_ix, nI_clamp, nI_add, pk_mul, nI_leI, nI_ltI, nI_eq, b2_0n, ite_f, ↓reduceIte, Bool.false_eq_true, Bool.true_eq_false, Nat.not_lt_zero, isb_b2, c_has, c_isHour, c_isKind, c_isPerson, m_isHour, m_isKind, m_isSheet, m_w, c_rN, c_rN2, cB, cF, cK, cN, cS, cM, cZ, mB, mF, mK, mN, mS, mM, mZ, k2, h1, h2, c_areTenths, Nat.reduceAdd, c_may hlb hv hN hb, m_many hm hv hN hb, q, Bool.not_true, f_X2_forget, c_put, f_X8_become, e1]
        refine ⟨_, _, rfl, rfl, ?_, stT v b t, e, stT_vd hv hb (by omega) (mayT_ok q), ⟨he.1, fun d hd => by rw [show stT v b t 0 = v 0 from un_n (by omega)]; exact he.2 d hd⟩, rn_set hm (by omega), re_night hd (by omega) (by omega), ⟨by rw [show stT v b t 3 = v 3 from un_n (by omega)], stT_rl hlb b t, by rw [show stT v b t 5 = v 5 from un_n (by omega)], fun j hj => by rw [show stT v b t (146 + j) = v (146 + j) from un_n (by omega)]; exact hls j hj, rfl, hld, by rw [show stT v b t 0 = v 0 from un_n (by omega)], by rw [show stT v b t 1 = v 1 from un_n (by omega)], by rw [show stT v b t 2 = v 2 from un_n (by omega)]⟩, Or.inr rfl, st_abs, hk0, hk1, hk2, hf, hp, sa, sb, sc, sd⟩
        rw [hlb _ (by omega), show 6 + (b * 4 + 3) = 6 + 4 * b + 3 by omega]
      · have q : mayT v b t = false := by simpa using q
        simp (disch := omega) only [f_X7_doubt, f_X8_doubt, bd_s, gd_tt, jn_s, lit32, gd_ix, nI_clamp, nI_add, pk_mul, nI_leI, nI_ltI, nI_eq, b2_0n, ite_f, ↓reduceIte, Bool.false_eq_true, Bool.true_eq_false, Nat.not_lt_zero, isb_b2, c_has, c_isHour, c_isKind, c_isPerson, m_isHour, m_isKind, m_isSheet, m_w, c_rN, c_rN2, cB, cF, cK, cN, cS, cM, cZ, mB, mF, mK, mN, mS, mM, mZ, k2, h1, h2, c_areTenths, Nat.reduceAdd, c_may hlb hv hN hb, m_many hm hv hN hb, q, Bool.not_false]
        refine ⟨_, _, rfl, rfl, rfl, ?_⟩; exact ⟨v, e, hv, he, hm, hd, ⟨rfl, hlb, rfl, hls, rfl, hld, rfl, rfl, rfl⟩, hs, ht, hk0, hk1, hk2, (rf_step hf 1 (by decide)), hp, sa, sb, sc, sd⟩
    · have h2 := inr_fp h2
      simp (disch := omega) only [f_X7_doubt, f_X8_doubt, bd_s, gd_tt, jn_s, lit32, gd_ix, nI_clamp, nI_add, pk_mul, nI_leI, nI_ltI, nI_eq, b2_0n, ite_f, ↓reduceIte, Bool.false_eq_true, Bool.true_eq_false, Nat.not_lt_zero, isb_b2, c_has, c_isHour, c_isKind, c_isPerson, m_isHour, m_isKind, m_isSheet, m_w, c_rN, c_rN2, cB, cF, cK, cN, cS, cM, cZ, mB, mF, mK, mN, mS, mM, mZ, k2, h1, h2, c_areTenths, Nat.reduceAdd]
      refine ⟨_, _, rfl, rfl, rfl, ?_⟩; exact ⟨v, e, hv, he, hm, hd, ⟨rfl, hlb, rfl, hls, rfl, hld, rfl, rfl, rfl⟩, hs, ht, hk0, hk1, hk2, (rf_step hf 0 (by decide)), hp, sa, sb, sc, sd⟩
  · have h1 := inr_fp h1
    simp (disch := omega) only [f_X7_doubt, f_X8_doubt, bd_s, gd_tt, jn_s, lit32, gd_ix, nI_clamp, nI_add, pk_mul, nI_leI, nI_ltI, nI_eq, b2_0n, ite_f, ↓reduceIte, Bool.false_eq_true, Bool.true_eq_false, Nat.not_lt_zero, isb_b2, c_has, c_isHour, c_isKind, c_isPerson, m_isHour, m_isKind, m_isSheet, m_w, c_rN, c_rN2, cB, cF, cK, cN, cS, cM, cZ, mB, mF, mK, mN, mS, mM, mZ, k2, h1]
    refine ⟨_, _, rfl, rfl, rfl, ?_⟩; exact ⟨v, e, hv, he, hm, hd, ⟨rfl, hlb, rfl, hls, rfl, hld, rfl, rfl, rfl⟩, hs, ht, hk0, hk1, hk2, (rf_step hf 0 (by decide)), hp, sa, sb, sc, sd⟩
/-! ===== images ===== -/
theorem m_copy {src : Nat → Int32} : ∀ d n k (dst : Nat → Int32), k + d = 186 → d < n → (∀ j, j < k → dst j = src j) → ∃ r, f_X8_copyRow_2 src n (nI k) dst = some r ∧ ∀ j, j < 186 → r j = src j
  | 0, n, k, dst, hk, hn, h => by
    cases n with
    | zero => omega
    | succ n =>
      have hc : 186 ≤ k := by omega
      refine ⟨dst, ?_, fun j hj => h j (by omega)⟩
      simp (disch := omega) only [f_X8_copyRow_2, bd_s, gd_tt, jn_s, lit32, gd_ix, nI_clamp, nI_add, pk_mul, nI_leI, nI_ltI, nI_eq, b2_0n, ite_f, ↓reduceIte, Bool.false_eq_true, Bool.true_eq_false, Nat.not_lt_zero, isb_b2, c_has, c_isHour, c_isKind, c_isPerson, m_isHour, m_isKind, m_isSheet, m_w, c_rN, c_rN2, cB, cF, cK, cN, cS, cM, cZ, mB, mF, mK, mN, mS, mM, mZ, hc]
  | d + 1, n, k, dst, hk, hn, h => by
    cases n with
    | zero => omega
    | succ n =>
      have hc : ¬ 186 ≤ k := by omega
      obtain ⟨r, h1, h2⟩ := m_copy (src := src) d n (k + 1) (upd dst k (src k)) (by omega) (by omega) (fun j hj => by
        by_cases q : j = k
        · rw [q, pk_us]
        · rw [pk_un q]; exact h j (by omega))
      refine ⟨r, ?_, h2⟩
      simp (disch := omega) only [f_X8_copyRow_2, bd_s, gd_tt, jn_s, lit32, gd_ix, nI_clamp, nI_add, pk_mul, nI_leI, nI_ltI, nI_eq, b2_0n, ite_f, ↓reduceIte, Bool.false_eq_true, Bool.true_eq_false, Nat.not_lt_zero, isb_b2, c_has, c_isHour, c_isKind, c_isPerson, m_isHour, m_isKind, m_isSheet, m_w, c_rN, c_rN2, cB, cF, cK, cN, cS, cM, cZ, mB, mF, mK, mN, mS, mM, mZ, hc]
      exact h1
theorem m_copyRow {src dst : Nat → Int32} {N : Nat} (hN : 2000 ≤ N) : ∃ r, f_X8_copyRow N src dst = some r ∧ ∀ j, j < 186 → r j = src j := by
  obtain ⟨r, h1, h2⟩ := m_copy (src := src) 186 N 0 dst rfl (by omega) (fun j hj => absurd hj (Nat.not_lt_zero _))
  refine ⟨r, ?_, h2⟩
  unfold f_X8_copyRow
  rw [show (0 : Int32) = nI 0 from rfl, h1, bd_s]
theorem rn_cp {v : Nat → Nat} {a b : Nat → Int32} (h : RN v a) (hc : ∀ j, j < 186 → b j = a j) : RN v b := fun k h1 h2 h3 => by rw [hc k h1]; exact h k h1 h2 h3
theorem re_cp {e : Nat → Nat} {a b : Nat → Int32} (h : RE e a) (hc : ∀ j, j < 186 → b j = a j) : RE e b := ⟨by rw [hc 4 (by omega)]; exact h.1, fun j hj => by rw [hc _ (by omega)]; exact h.2 j hj⟩
theorem cpg_n (n : Nat) (hn : n < 2 ^ 31) : cpg 0 0 (nI n) n n = true := by
  unfold cpg
  rw [nI_clamp hn]
  exact decide_eq_true ⟨by decide, by decide, nI_pos hn, by rw [show (0 : Int32).toNatClampNeg = 0 from rfl]; omega, by rw [show (0 : Int32).toNatClampNeg = 0 from rfl]; omega⟩
theorem c_becR {l n nc : Nat} {s : Int32} {cs oc : Nat → Int32} (hn : n ≤ l) (hl : l < 2 ^ 31) (hc : nc < 2 ^ 31) : ∃ r, f_X4_become (nI l) s cs nc (nI n) oc nc = some (nI n, r) ∧ ∀ j, j < nc → r j = oc j := by
  refine ⟨va_cpy oc cs 0 0 nc, ?_, fun j hj => ?_⟩
  · unfold f_X4_become
    rw [if_neg (nI_nlt hn hl)]
    rw [show Int32.ofNat nc = nI nc from rfl]
    rw [show (if nI nc < nI nc then nI nc else nI nc) = nI nc by split <;> rfl]
    rw [cpg_n nc hc, nI_clamp hc]; rfl
  · rw [pk_cpy_in (by omega) (by omega)]; congr 1; omega
theorem isb_n {n : Nat} (h : n ≤ 1) : isb (nI n) = true := by
  rcases (show n = 0 ∨ n = 1 by omega) with rfl | rfl <;> rfl
theorem c_bec {v e : Nat → Nat} (hv : Vd v) (he : Ve v e) {s1 s2 s3 s4 s5 s6 : Int32} {c1 c2 c3 oc1 oc2 oc3 : Nat → Int32} (h1 : ∀ j, j < 80 → oc1 j = nI (v (6 + j))) (h2 : ∀ j, j < 40 → oc2 j = nI (v (146 + j))) (h3 : ∀ j, j < 60 → oc3 j = nI (e j)) :
    ∃ r1 r2 r3, f_X0_become s1 c1 s2 c2 s3 c3 s4 s5 s6 (nI (v 3)) oc1 (nI (v 5)) oc2 (nI (e 60)) oc3 (nI (v 0)) (nI (v 1)) (nI (v 2)) = some (nI (v 3), r1, nI (v 5), r2, nI (e 60), r3, nI (v 0), nI (v 1), nI (v 2)) ∧ (∀ j, j < 80 → r1 j = nI (v (6 + j))) ∧ (∀ j, j < 40 → r2 j = nI (v (146 + j))) ∧ (∀ j, j < 60 → r3 j = nI (e j)) := by
  obtain ⟨r1, a1, b1⟩ := c_becR (l := 20) (s := s1) (cs := c1) (oc := oc1) (nc := 80) (vd_3 hv) (by decide) (by decide)
  obtain ⟨r2, a2, b2⟩ := c_becR (l := 10) (s := s2) (cs := c2) (oc := oc2) (nc := 40) (vd_5 hv) (by decide) (by decide)
  obtain ⟨r3, a3, b3⟩ := c_becR (l := 12) (s := s3) (cs := c3) (oc := oc3) (nc := 60) he.1 (by decide) (by decide)
  refine ⟨r1, r2, r3, ?_, fun j hj => by rw [b1 j hj, h1 j hj], fun j hj => by rw [b2 j hj, h2 j hj], fun j hj => by rw [b3 j hj, h3 j hj]⟩
  unfold f_X0_become
  rw [show (20 : Int32) = nI 20 from rfl, show (10 : Int32) = nI 10 from rfl, show (12 : Int32) = nI 12 from rfl, a1, bd_s, a2, bd_s, a3, bd_s, isb_n (vd_1 hv), isb_n (vd_2 hv)]
  rfl
set_option maxHeartbeats 16000000 in
theorem op_image {N : Nat} (hN : 2000 ≤ N) : Op_image Rl N := by
  intro C_isKept C_l_bsize C_l_bcells C_l_ssize C_l_scells C_l_dsize C_l_dcells C_l_people C_l_rule C_l_believed C_k_bsize C_k_bcells C_k_ssize C_k_scells C_k_dsize C_k_dcells C_k_people C_k_rule C_k_believed C_d_bsize C_d_bcells C_d_ssize C_d_scells C_d_dsize C_d_dcells C_d_people C_d_rule C_d_believed C_order C_stepsAt C_doubts C_weights C_rows C_metEver C_bowedTo C_isStale C_bowCount C_doubtCount C_seenBows C_likeliest C_mostSayingsSo C_doers C_isTelling C_tbytes C_tlen C_token C_place C_behindIt C_value C_sa_nums C_sa_bits C_sa_len C_sb_nums C_sb_bits C_sb_len C_sc_nums C_sc_bits C_sc_len C_sd_nums C_sd_bits C_sd_len C_findings M_now M_kept M_isKept M_found M_order M_doubts M_doubtMany M_weights M_worn M_pairs M_isTwice M_doer M_doneTo M_doers M_tape M_taped M_begins M_ends M_sort M_value M_isWrong M_items M_itemMany M_bowThen M_doubtThen M_deedThen M_sayingThen M_widths M_sizes M_numbers M_moved  hR 
  obtain ⟨v, e, hv, he, hm, hd, hl, hs, ht, hk0, hk1, hk2, hf, hp, sa, sb, sc, sd⟩ := hR
  obtain ⟨rfl, hlb, rfl, hls, rfl, hld, rfl, rfl, rfl⟩ := hl
  obtain ⟨r, m1, m2⟩ := m_copyRow (src := M_now) (dst := M_kept) hN
  obtain ⟨r1, r2, r3, c1, c2, c3, c4⟩ := c_bec hv he (s1 := C_k_bsize) (c1 := C_k_bcells) (s2 := C_k_ssize) (c2 := C_k_scells) (s3 := C_k_dsize) (c3 := C_k_dcells) (s4 := C_k_people) (s5 := C_k_rule) (s6 := C_k_believed) hlb hls hld
  simp only [f_X7_image, f_X8_image, c1, m1, bd_s]
  exact ⟨_, _, rfl, rfl, rfl, v, e, hv, he, hm, hd, ⟨rfl, hlb, rfl, hls, rfl, hld, rfl, rfl, rfl⟩, hs, ht, Or.inr rfl, rfl, fun _ => ⟨v, e, hv, he, rn_cp hm m2, re_cp hd m2, ⟨rfl, c2, rfl, c3, rfl, c4, rfl, rfl, rfl⟩⟩, hf, hp, sa, sb, sc, sd⟩
set_option maxHeartbeats 16000000 in
theorem op_undo {N : Nat} (hN : 2000 ≤ N) : Op_undo Rl N := by
  intro C_isKept C_l_bsize C_l_bcells C_l_ssize C_l_scells C_l_dsize C_l_dcells C_l_people C_l_rule C_l_believed C_k_bsize C_k_bcells C_k_ssize C_k_scells C_k_dsize C_k_dcells C_k_people C_k_rule C_k_believed C_d_bsize C_d_bcells C_d_ssize C_d_scells C_d_dsize C_d_dcells C_d_people C_d_rule C_d_believed C_order C_stepsAt C_doubts C_weights C_rows C_metEver C_bowedTo C_isStale C_bowCount C_doubtCount C_seenBows C_likeliest C_mostSayingsSo C_doers C_isTelling C_tbytes C_tlen C_token C_place C_behindIt C_value C_sa_nums C_sa_bits C_sa_len C_sb_nums C_sb_bits C_sb_len C_sc_nums C_sc_bits C_sc_len C_sd_nums C_sd_bits C_sd_len C_findings M_now M_kept M_isKept M_found M_order M_doubts M_doubtMany M_weights M_worn M_pairs M_isTwice M_doer M_doneTo M_doers M_tape M_taped M_begins M_ends M_sort M_value M_isWrong M_items M_itemMany M_bowThen M_doubtThen M_deedThen M_sayingThen M_widths M_sizes M_numbers M_moved  hR 
  obtain ⟨v, e, hv, he, hm, hd, hl, hs, ht, hk0, hk1, hk2, hf, hp, sa, sb, sc, sd⟩ := hR
  subst hk1
  rcases hk0 with h | h
  · subst h
    simp only [f_X7_undo, f_X8_undo, bd_s, gd_tt, jn_s, lit32, gd_ix, nI_clamp, nI_add, pk_mul, nI_leI, nI_ltI, nI_eq, b2_0n, ite_f, ↓reduceIte, Bool.false_eq_true, Bool.true_eq_false, Nat.not_lt_zero, isb_b2, c_has, c_isHour, c_isKind, c_isPerson, m_isHour, m_isKind, m_isSheet, m_w, c_rN, c_rN2, cB, cF, cK, cN, cS, cM, cZ, mB, mF, mK, mN, mS, mM, mZ]
    exact ⟨_, _, rfl, rfl, rfl, v, e, hv, he, hm, hd, hl, hs, ht, Or.inl rfl, rfl, hk2, rf_step hf 3 (by decide), hp, sa, sb, sc, sd⟩
  · obtain ⟨v2, e2, hv2, he2, hm2, hd2, hl2⟩ := hk2 h
    have hk2' := hk2
    obtain ⟨rfl, hlb, rfl, hls, rfl, hld, rfl, rfl, rfl⟩ := hl2
    obtain ⟨r, m1, m2⟩ := m_copyRow (src := M_kept) (dst := M_now) hN
    obtain ⟨r1, r2, r3, c1, c2, c3, c4⟩ := c_bec hv2 he2 (s1 := C_l_bsize) (c1 := C_l_bcells) (s2 := C_l_ssize) (c2 := C_l_scells) (s3 := C_l_dsize) (c3 := C_l_dcells) (s4 := C_l_people) (s5 := C_l_rule) (s6 := C_l_believed) hlb hls hld
    have hz : ¬ M_isKept = nI 0 := by rw [h]; decide
    have r3' : r 3 = nI (v2 3) := by rw [m2 3 (by omega)]; exact rn_at hm2 (by omega) (by omega) (by omega)
    simp (disch := omega) only [f_X7_undo, f_X8_undo, bd_s, gd_tt, jn_s, lit32, gd_ix, nI_clamp, nI_add, pk_mul, nI_leI, nI_ltI, nI_eq, b2_0n, ite_f, ↓reduceIte, Bool.false_eq_true, Bool.true_eq_false, Nat.not_lt_zero, isb_b2, c_has, c_isHour, c_isKind, c_isPerson, m_isHour, m_isKind, m_isSheet, m_w, c_rN, c_rN2, cB, cF, cK, cN, cS, cM, cZ, mB, mF, mK, mN, mS, mM, mZ, hz, c1, m1, f_X2_forget, f_X4_size, r3']
    exact ⟨_, _, rfl, rfl, rfl, v2, e2, hv2, he2, rn_cp hm2 m2, re_cp hd2 m2, ⟨rfl, c2, rfl, c3, rfl, c4, rfl, rfl, rfl⟩, Or.inr rfl, st_abs, Or.inr h, rfl, hk2', hf, hp, sa, sb, sc, sd⟩
