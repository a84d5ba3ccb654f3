/-! ===== sheets ===== -/
theorem rs_oth {i : Nat} {nums : Nat → Int64} {bits len : Int32} {W S W' S' : Nat → Int32} {Q Q' : Nat → Int64} (h : RS i nums bits len W S Q) (hW : W' i = W i) (hS : S' i = S i) (hQ : ∀ j, j < 40 → Q' (40 * i + j) = Q (40 * i + j)) : RS i nums bits len W' S' Q' := by
  obtain ⟨w, n, h1, h2, h3, h4, h5, h6, h7, h8⟩ := h
  exact ⟨w, n, h1, h2, h3, h4, hW.trans h5, h6, hS.trans h7, fun j hj => (hQ j (by omega)).trans (h8 j hj)⟩
theorem rs_off {i s k : Nat} {x : Int64} {nums : Nat → Int64} {bits len : Int32} {W S : Nat → Int32} {Q : Nat → Int64} (h : RS i nums bits len W S Q) (hk : k < 40) (hi : i ≠ s) : RS i nums bits len W S (vp_updL Q (40 * s + k) x) :=
  rs_oth h rfl rfl (fun j hj => pk_uLn (by omega))
theorem rs_upd {i s : Nat} {nums : Nat → Int64} {bits len x y : Int32} {W S : Nat → Int32} {Q Q' : Nat → Int64} (h : RS i nums bits len W S Q) (hi : i ≠ s) (hQ : ∀ j, j < 40 → Q' (40 * i + j) = Q (40 * i + j)) : RS i nums bits len (upd W s x) (upd S s y) Q' :=
  rs_oth h (pk_un hi) (pk_un hi) hQ
theorem c_hasS {n : Nat} (hn : n < 2 ^ 31) (a : Int32) : f_X5_has (nI n) a = some (b2 (inr a n)) := by
  unfold f_X5_has; rw [c_range (nI_toInt hn), ite_b2]
theorem c_miss (w : Nat) (hw : w < 2 ^ 31) : f_X5_isMissing (nI w) = some (b2 (decide (w = 0))) := by
  unfold f_X5_isMissing
  by_cases q : w = 0
  · rw [q]; rfl
  · rw [if_neg (show ¬ nI w = (0 : Int32) from fun z => q ((nI_eq (b := 0) hw (by decide)).mp z)), decide_eq_false q]; rfl
def cutv (w : Nat) (x : Int64) : Int64 := if w = 8 then x.toInt32.toInt8.toInt32.toInt64 else if w = 16 then x.toInt32.toInt16.toInt32.toInt64 else x
theorem c_cut {w : Nat} (hw : w < 2 ^ 31) (x : Int64) : f_X5_cut (nI w) x = some (cutv w x) := by
  unfold f_X5_cut cutv
  by_cases q : w = 8
  · rw [q, if_pos (show nI 8 = (8 : Int32) from rfl), if_pos rfl]
  · rw [if_neg (show ¬ nI w = (8 : Int32) from fun z => q ((nI_eq (b := 8) hw (by decide)).mp z)), if_neg q]
    by_cases q2 : w = 16
    · rw [q2, if_pos (show nI 16 = (16 : Int32) from rfl), if_pos rfl]
    · rw [if_neg (show ¬ nI w = (16 : Int32) from fun z => q2 ((nI_eq (b := 16) hw (by decide)).mp z)), if_neg q2]
theorem m_cut {w : Nat} (hw : w < 2 ^ 31) (x : Int64) : f_X8_cutTo x (nI w) = some (cutv w x) := c_cut hw x
theorem c_putS {w n k : Nat} {nums : Nat → Int64} {x : Int64} (hw : w < 2 ^ 31) (hn : n ≤ 40) (hk : k < n) : f_X5_put nums (nI w) (nI n) (nI k) x = some (nums k, vp_updL nums k (cutv w x)) := by
  unfold f_X5_put
  rw [c_hasS (by omega), inr_nI (by omega), decide_eq_true hk, bd_s, if_neg (by decide), gd_ix (by omega) (by decide), nI_clamp (by omega), c_cut hw, bd_s]
theorem rs_w {w : Nat} (h : w = 0 ∨ w = 8 ∨ w = 16 ∨ w = 64) : w < 2 ^ 31 := by omega
theorem inr_out {a : Int32} {n : Nat} (h : ¬ inr a n = true) : inr a n = false := by simpa using h
set_option maxHeartbeats 16000000 in
theorem op_write {N : Nat} (hN : 2000 ≤ N) : Op_write Rl N := by
  intro C_isKept C_l_bsize C_l_bcells C_l_ssize C_l_scells C_l_dsize C_l_dcells C_l_people C_l_rule C_l_believed C_k_bsize C_k_bcells C_k_ssize C_k_scells C_k_dsize C_k_dcells C_k_people C_k_rule C_k_believed C_d_bsize C_d_bcells C_d_ssize C_d_scells C_d_dsize C_d_dcells C_d_people C_d_rule C_d_believed C_order C_stepsAt C_doubts C_weights C_rows C_metEver C_bowedTo C_isStale C_bowCount C_doubtCount C_seenBows C_likeliest C_mostSayingsSo C_doers C_isTelling C_tbytes C_tlen C_token C_place C_behindIt C_value C_sa_nums C_sa_bits C_sa_len C_sb_nums C_sb_bits C_sb_len C_sc_nums C_sc_bits C_sc_len C_sd_nums C_sd_bits C_sd_len C_findings M_now M_kept M_isKept M_found M_order M_doubts M_doubtMany M_weights M_worn M_pairs M_isTwice M_doer M_doneTo M_doers M_tape M_taped M_begins M_ends M_sort M_value M_isWrong M_items M_itemMany M_bowThen M_doubtThen M_deedThen M_sayingThen M_widths M_sizes M_numbers M_moved a1 a2 a3 hR 
  obtain ⟨v, e, hv, he, hm, hd, hl, hs, ht, hk0, hk1, hk2, hf, hp, sa, sb, sc, sd⟩ := hR
  obtain ⟨rfl, hlb, rfl, hls, rfl, hld, rfl, rfl, rfl⟩ := hl
  by_cases h1 : inr a1 4 = true
  · obtain ⟨s, hs4, rfl⟩ := inr_t (by decide) h1
    have hs4' : s = 0 ∨ s = 1 ∨ s = 2 ∨ s = 3 := by omega
    rcases hs4' with rfl | rfl | rfl | rfl
    · have hS := sa
      obtain ⟨w, n, q1, q2, q3, rfl, q5, rfl, q7, q8⟩ := hS
      have hw := rs_w q2
      by_cases qw : w = 0
      · have hd0 : decide (w = 0) = true := decide_eq_true qw
        simp (disch := omega) only [f_X7_write, f_X8_write, bd_s, gd_tt, jn_s, lit32, gd_ix, nI_clamp, nI_add, pk_mul, nI_leI, nI_ltI, nI_eq, b2_0n, ite_f, ↓reduceIte, Bool.false_eq_true, Bool.true_eq_false, Nat.not_lt_zero, isb_b2, c_has, c_isHour, c_isKind, c_isPerson, m_isHour, m_isKind, m_isSheet, m_w, c_rN, c_rN2, cB, cF, cK, cN, cS, cM, cZ, mB, mF, mK, mN, mS, mM, mZ, h1, c_miss, hd0, q5, qw, if_neg]
        subst qw
        refine ⟨_, _, rfl, rfl, rfl, ?_⟩; exact ⟨v, e, hv, he, hm, hd, ⟨rfl, hlb, rfl, hls, rfl, hld, rfl, rfl, rfl⟩, hs, ht, hk0, hk1, hk2, (rf_step hf 5 (by decide)), hp, sa, sb, sc, sd⟩
      · have hd0 : decide (w = 0) = false := decide_eq_false qw
        by_cases h2 : inr a2 n = true
        · obtain ⟨k, hk, rfl⟩ := inr_t (by omega) h2
          have q9 := q8 k hk
          simp (disch := omega) only [f_X7_write, f_X8_write, bd_s, gd_tt, jn_s, lit32, gd_ix, nI_clamp, nI_add, pk_mul, nI_leI, nI_ltI, nI_eq, b2_0n, ite_f, ↓reduceIte, Bool.false_eq_true, Bool.true_eq_false, Nat.not_lt_zero, isb_b2, c_has, c_isHour, c_isKind, c_isPerson, m_isHour, m_isKind, m_isSheet, m_w, c_rN, c_rN2, cB, cF, cK, cN, cS, cM, cZ, mB, mF, mK, mN, mS, mM, mZ, h1, c_miss, hd0, q5, q7, qw, if_neg, c_hasS, h2, m_wn, c_putS, m_cut, q9]
          refine ⟨_, _, rfl, rfl, rfl, ?_⟩
          have hN : RS 0 (vp_updL C_sa_nums k (cutv w a3)) (nI w) (nI n) M_widths M_sizes (vp_updL M_numbers (40 * 0 + k) (cutv w a3)) := ⟨w, n, q1, q2, q3, rfl, q5, rfl, q7, fun j hj => by
            by_cases e : j = k
            · rw [e, pk_uLs, pk_uLs]
            · rw [pk_uLn e, pk_uLn (by omega)]; exact q8 j hj⟩
          exact ⟨v, e, hv, he, hm, hd, ⟨rfl, hlb, rfl, hls, rfl, hld, rfl, rfl, rfl⟩, hs, ht, hk0, hk1, hk2, hf, hp, hN, (rs_off sb (by omega) (by decide)), (rs_off sc (by omega) (by decide)), (rs_off sd (by omega) (by decide))⟩
        · have h2 := inr_out h2
          simp (disch := omega) only [f_X7_write, f_X8_write, bd_s, gd_tt, jn_s, lit32, gd_ix, nI_clamp, nI_add, pk_mul, nI_leI, nI_ltI, nI_eq, b2_0n, ite_f, ↓reduceIte, Bool.false_eq_true, Bool.true_eq_false, Nat.not_lt_zero, isb_b2, c_has, c_isHour, c_isKind, c_isPerson, m_isHour, m_isKind, m_isSheet, m_w, c_rN, c_rN2, cB, cF, cK, cN, cS, cM, cZ, mB, mF, mK, mN, mS, mM, mZ, h1, c_miss, hd0, q5, q7, qw, if_neg, c_hasS, h2, m_wn]
          refine ⟨_, _, rfl, rfl, rfl, ?_⟩; exact ⟨v, e, hv, he, hm, hd, ⟨rfl, hlb, rfl, hls, rfl, hld, rfl, rfl, rfl⟩, hs, ht, hk0, hk1, hk2, (rf_step hf 0 (by decide)), hp, sa, sb, sc, sd⟩
    · have hS := sb
      obtain ⟨w, n, q1, q2, q3, rfl, q5, rfl, q7, q8⟩ := hS
      have hw := rs_w q2
      by_cases qw : w = 0
      · have hd0 : decide (w = 0) = true := decide_eq_true qw
        simp (disch := omega) only [f_X7_write, f_X8_write, bd_s, gd_tt, jn_s, lit32, gd_ix, nI_clamp, nI_add, pk_mul, nI_leI, nI_ltI, nI_eq, b2_0n, ite_f, ↓reduceIte, Bool.false_eq_true, Bool.true_eq_false, Nat.not_lt_zero, isb_b2, c_has, c_isHour, c_isKind, c_isPerson, m_isHour, m_isKind, m_isSheet, m_w, c_rN, c_rN2, cB, cF, cK, cN, cS, cM, cZ, mB, mF, mK, mN, mS, mM, mZ, h1, c_miss, hd0, q5, qw, if_neg]
        subst qw
        refine ⟨_, _, rfl, rfl, rfl, ?_⟩; exact ⟨v, e, hv, he, hm, hd, ⟨rfl, hlb, rfl, hls, rfl, hld, rfl, rfl, rfl⟩, hs, ht, hk0, hk1, hk2, (rf_step hf 5 (by decide)), hp, sa, sb, sc, sd⟩
      · have hd0 : decide (w = 0) = false := decide_eq_false qw
        by_cases h2 : inr a2 n = true
        · obtain ⟨k, hk, rfl⟩ := inr_t (by omega) h2
          have q9 := q8 k hk
          simp (disch := omega) only [f_X7_write, f_X8_write, bd_s, gd_tt, jn_s, lit32, gd_ix, nI_clamp, nI_add, pk_mul, nI_leI, nI_ltI, nI_eq, b2_0n, ite_f, ↓reduceIte, Bool.false_eq_true, Bool.true_eq_false, Nat.not_lt_zero, isb_b2, c_has, c_isHour, c_isKind, c_isPerson, m_isHour, m_isKind, m_isSheet, m_w, c_rN, c_rN2, cB, cF, cK, cN, cS, cM, cZ, mB, mF, mK, mN, mS, mM, mZ, h1, c_miss, hd0, q5, q7, qw, if_neg, c_hasS, h2, m_wn, c_putS, m_cut, q9]
          refine ⟨_, _, rfl, rfl, rfl, ?_⟩
          have hN : RS 1 (vp_updL C_sb_nums k (cutv w a3)) (nI w) (nI n) M_widths M_sizes (vp_updL M_numbers (40 * 1 + k) (cutv w a3)) := ⟨w, n, q1, q2, q3, rfl, q5, rfl, q7, fun j hj => by
            by_cases e : j = k
            · rw [e, pk_uLs, pk_uLs]
            · rw [pk_uLn e, pk_uLn (by omega)]; exact q8 j hj⟩
          exact ⟨v, e, hv, he, hm, hd, ⟨rfl, hlb, rfl, hls, rfl, hld, rfl, rfl, rfl⟩, hs, ht, hk0, hk1, hk2, hf, hp, (rs_off sa (by omega) (by decide)), hN, (rs_off sc (by omega) (by decide)), (rs_off sd (by omega) (by decide))⟩
        · have h2 := inr_out h2
          simp (disch := omega) only [f_X7_write, f_X8_write, bd_s, gd_tt, jn_s, lit32, gd_ix, nI_clamp, nI_add, pk_mul, nI_leI, nI_ltI, nI_eq, b2_0n, ite_f, ↓reduceIte, Bool.false_eq_true, Bool.true_eq_false, Nat.not_lt_zero, isb_b2, c_has, c_isHour, c_isKind, c_isPerson, m_isHour, m_isKind, m_isSheet, m_w, c_rN, c_rN2, cB, cF, cK, cN, cS, cM, cZ, mB, mF, mK, mN, mS, mM, mZ, h1, c_miss, hd0, q5, q7, qw, if_neg, c_hasS, h2, m_wn]
          refine ⟨_, _, rfl, rfl, rfl, ?_⟩; exact ⟨v, e, hv, he, hm, hd, ⟨rfl, hlb, rfl, hls, rfl, hld, rfl, rfl, rfl⟩, hs, ht, hk0, hk1, hk2, (rf_step hf 0 (by decide)), hp, sa, sb, sc, sd⟩
    · have hS := sc
      obtain ⟨w, n, q1, q2, q3, rfl, q5, rfl, q7, q8⟩ := hS
      have hw := rs_w q2
      by_cases qw : w = 0
      · have hd0 : decide (w = 0) = true := decide_eq_true qw
        simp (disch := omega) only [f_X7_write, f_X8_write, bd_s, gd_tt, jn_s, lit32, gd_ix, nI_clamp, nI_add, pk_mul, nI_leI, nI_ltI, nI_eq, b2_0n, ite_f, ↓reduceIte, Bool.false_eq_true, Bool.true_eq_false, Nat.not_lt_zero, isb_b2, c_has, c_isHour, c_isKind, c_isPerson, m_isHour, m_isKind, m_isSheet, m_w, c_rN, c_rN2, cB, cF, cK, cN, cS, cM, cZ, mB, mF, mK, mN, mS, mM, mZ, h1, c_miss, hd0, q5, qw, if_neg]
        subst qw
        refine ⟨_, _, rfl, rfl, rfl, ?_⟩; exact ⟨v, e, hv, he, hm, hd, ⟨rfl, hlb, rfl, hls, rfl, hld, rfl, rfl, rfl⟩, hs, ht, hk0, hk1, hk2, (rf_step hf 5 (by decide)), hp, sa, sb, sc, sd⟩
      · have hd0 : decide (w = 0) = false := decide_eq_false qw
        by_cases h2 : inr a2 n = true
        · obtain ⟨k, hk, rfl⟩ := inr_t (by omega) h2
          have q9 := q8 k hk
          simp (disch := omega) only [f_X7_write, f_X8_write, bd_s, gd_tt, jn_s, lit32, gd_ix, nI_clamp, nI_add, pk_mul, nI_leI, nI_ltI, nI_eq, b2_0n, ite_f, ↓reduceIte, Bool.false_eq_true, Bool.true_eq_false, Nat.not_lt_zero, isb_b2, c_has, c_isHour, c_isKind, c_isPerson, m_isHour, m_isKind, m_isSheet, m_w, c_rN, c_rN2, cB, cF, cK, cN, cS, cM, cZ, mB, mF, mK, mN, mS, mM, mZ, h1, c_miss, hd0, q5, q7, qw, if_neg, c_hasS, h2, m_wn, c_putS, m_cut, q9]
          refine ⟨_, _, rfl, rfl, rfl, ?_⟩
          have hN : RS 2 (vp_updL C_sc_nums k (cutv w a3)) (nI w) (nI n) M_widths M_sizes (vp_updL M_numbers (40 * 2 + k) (cutv w a3)) := ⟨w, n, q1, q2, q3, rfl, q5, rfl, q7, fun j hj => by
            by_cases e : j = k
            · rw [e, pk_uLs, pk_uLs]
            · rw [pk_uLn e, pk_uLn (by omega)]; exact q8 j hj⟩
          exact ⟨v, e, hv, he, hm, hd, ⟨rfl, hlb, rfl, hls, rfl, hld, rfl, rfl, rfl⟩, hs, ht, hk0, hk1, hk2, hf, hp, (rs_off sa (by omega) (by decide)), (rs_off sb (by omega) (by decide)), hN, (rs_off sd (by omega) (by decide))⟩
        · have h2 := inr_out h2
          simp (disch := omega) only [f_X7_write, f_X8_write, bd_s, gd_tt, jn_s, lit32, gd_ix, nI_clamp, nI_add, pk_mul, nI_leI, nI_ltI, nI_eq, b2_0n, ite_f, ↓reduceIte, Bool.false_eq_true, Bool.true_eq_false, Nat.not_lt_zero, isb_b2, c_has, c_isHour, c_isKind, c_isPerson, m_isHour, m_isKind, m_isSheet, m_w, c_rN, c_rN2, cB, cF, cK, cN, cS, cM, cZ, mB, mF, mK, mN, mS, mM, mZ, h1, c_miss, hd0, q5, q7, qw, if_neg, c_hasS, h2, m_wn]
          refine ⟨_, _, rfl, rfl, rfl, ?_⟩; exact ⟨v, e, hv, he, hm, hd, ⟨rfl, hlb, rfl, hls, rfl, hld, rfl, rfl, rfl⟩, hs, ht, hk0, hk1, hk2, (rf_step hf 0 (by decide)), hp, sa, sb, sc, sd⟩
    · have hS := sd
      obtain ⟨w, n, q1, q2, q3, rfl, q5, rfl, q7, q8⟩ := hS
      have hw := rs_w q2
      by_cases qw : w = 0
      · have hd0 : decide (w = 0) = true := decide_eq_true qw
        simp (disch := omega) only [f_X7_write, f_X8_write, bd_s, gd_tt, jn_s, lit32, gd_ix, nI_clamp, nI_add, pk_mul, nI_leI, nI_ltI, nI_eq, b2_0n, ite_f, ↓reduceIte, Bool.false_eq_true, Bool.true_eq_false, Nat.not_lt_zero, isb_b2, c_has, c_isHour, c_isKind, c_isPerson, m_isHour, m_isKind, m_isSheet, m_w, c_rN, c_rN2, cB, cF, cK, cN, cS, cM, cZ, mB, mF, mK, mN, mS, mM, mZ, h1, c_miss, hd0, q5, qw, if_neg]
        subst qw
        refine ⟨_, _, rfl, rfl, rfl, ?_⟩; exact ⟨v, e, hv, he, hm, hd, ⟨rfl, hlb, rfl, hls, rfl, hld, rfl, rfl, rfl⟩, hs, ht, hk0, hk1, hk2, (rf_step hf 5 (by decide)), hp, sa, sb, sc, sd⟩
      · have hd0 : decide (w = 0) = false := decide_eq_false qw
        by_cases h2 : inr a2 n = true
        · obtain ⟨k, hk, rfl⟩ := inr_t (by omega) h2
          have q9 := q8 k hk
          simp (disch := omega) only [f_X7_write, f_X8_write, bd_s, gd_tt, jn_s, lit32, gd_ix, nI_clamp, nI_add, pk_mul, nI_leI, nI_ltI, nI_eq, b2_0n, ite_f, ↓reduceIte, Bool.false_eq_true, Bool.true_eq_false, Nat.not_lt_zero, isb_b2, c_has, c_isHour, c_isKind, c_isPerson, m_isHour, m_isKind, m_isSheet, m_w, c_rN, c_rN2, cB, cF, cK, cN, cS, cM, cZ, mB, mF, mK, mN, mS, mM, mZ, h1, c_miss, hd0, q5, q7, qw, if_neg, c_hasS, h2, m_wn, c_putS, m_cut, q9]
          refine ⟨_, _, rfl, rfl, rfl, ?_⟩
          have hN : RS 3 (vp_updL C_sd_nums k (cutv w a3)) (nI w) (nI n) M_widths M_sizes (vp_updL M_numbers (40 * 3 + k) (cutv w a3)) := ⟨w, n, q1, q2, q3, rfl, q5, rfl, q7, fun j hj => by
            by_cases e : j = k
            · rw [e, pk_uLs, pk_uLs]
            · rw [pk_uLn e, pk_uLn (by omega)]; exact q8 j hj⟩
          exact ⟨v, e, hv, he, hm, hd, ⟨rfl, hlb, rfl, hls, rfl, hld, rfl, rfl, rfl⟩, hs, ht, hk0, hk1, hk2, hf, hp, (rs_off sa (by omega) (by decide)), (rs_off sb (by omega) (by decide)), (rs_off sc (by omega) (by decide)), hN⟩
        · have h2 := inr_out h2
          simp (disch := omega) only [f_X7_write, f_X8_write, bd_s, gd_tt, jn_s, lit32, gd_ix, nI_clamp, nI_add, pk_mul, nI_leI, nI_ltI, nI_eq, b2_0n, ite_f, ↓reduceIte, Bool.false_eq_true, Bool.true_eq_false, Nat.not_lt_zero, isb_b2, c_has, c_isHour, c_isKind, c_isPerson, m_isHour, m_isKind, m_isSheet, m_w, c_rN, c_rN2, cB, cF, cK, cN, cS, cM, cZ, mB, mF, mK, mN, mS, mM, mZ, h1, c_miss, hd0, q5, q7, qw, if_neg, c_hasS, h2, m_wn]
          refine ⟨_, _, rfl, rfl, rfl, ?_⟩; exact ⟨v, e, hv, he, hm, hd, ⟨rfl, hlb, rfl, hls, rfl, hld, rfl, rfl, rfl⟩, hs, ht, hk0, hk1, hk2, (rf_step hf 0 (by decide)), hp, sa, sb, sc, sd⟩
  · have n0 : ¬ a1 = nI 0 := fun z => by rw [z] at h1; exact h1 (by decide)
    have n1 : ¬ a1 = nI 1 := fun z => by rw [z] at h1; exact h1 (by decide)
    have n2 : ¬ a1 = nI 2 := fun z => by rw [z] at h1; exact h1 (by decide)
    have n3 : ¬ a1 = nI 3 := fun z => by rw [z] at h1; exact h1 (by decide)
    have h1 := inr_out h1
    simp (disch := omega) only [f_X7_write, f_X8_write, bd_s, gd_tt, jn_s, lit32, gd_ix, nI_clamp, nI_add, pk_mul, nI_leI, nI_ltI, nI_eq, b2_0n, ite_f, ↓reduceIte, Bool.false_eq_true, Bool.true_eq_false, Nat.not_lt_zero, isb_b2, c_has, c_isHour, c_isKind, c_isPerson, m_isHour, m_isKind, m_isSheet, m_w, c_rN, c_rN2, cB, cF, cK, cN, cS, cM, cZ, mB, mF, mK, mN, mS, mM, mZ, h1, n0, n1, n2, n3]
    refine ⟨_, _, rfl, rfl, rfl, ?_⟩; exact ⟨v, e, hv, he, hm, hd, ⟨rfl, hlb, rfl, hls, rfl, hld, rfl, rfl, rfl⟩, hs, ht, hk0, hk1, hk2, (rf_step hf 0 (by decide)), hp, sa, sb, sc, sd⟩
theorem c_beg29 {m : Nat} (hm : m ≤ 40) : ∀ d f k (nums : Nat → Int64), k + d = m → d < f → (∀ j, j < k → nums j = lN 0) → ∃ r, f_X5_begin_29 (nI m) f (nI k) nums = some r ∧ ∀ j, j < m → r j = lN 0
  | 0, f, k, nums, hk, hf, h => by
    cases f with
    | zero => omega
    | succ f =>
      refine ⟨nums, ?_, fun j hj => h j (by omega)⟩
      unfold f_X5_begin_29
      rw [if_pos (nI_le (by omega) (by omega))]
  | d + 1, f, k, nums, hk, hf, h => by
    cases f with
    | zero => omega
    | succ f =>
      obtain ⟨r, g1, g2⟩ := c_beg29 hm d f (k + 1) (vp_updL nums k (lN 0)) (by omega) (by omega) (fun j hj => by
        by_cases e : j = k
        · rw [e, pk_uLs]
        · rw [pk_uLn e]; exact h j (by omega))
      refine ⟨r, ?_, g2⟩
      unfold f_X5_begin_29
      rw [if_neg (nI_ge (by omega) (by omega)), gd_ix (by omega) (by decide), nI_clamp (by omega), nI_1]
      exact g1
theorem c_begin {w n N : Nat} (hN : 2000 ≤ N) (hw : w < 2 ^ 31) (hn : n ≤ 40) (nums : Nat → Int64) (bits len : Int32) : ∃ r, f_X5_begin N nums bits len (nI w) (nI n) = some (r, nI w, nI (if w = 0 then 0 else n)) ∧ ∀ j, j < (if w = 0 then 0 else n) → r j = lN 0 := by
  obtain ⟨r, g1, g2⟩ := c_beg29 (m := if w = 0 then 0 else n) (by split <;> omega) (if w = 0 then 0 else n) N 0 nums (by omega) (by split <;> omega) (fun j hj => absurd hj (Nat.not_lt_zero _))
  refine ⟨r, ?_, g2⟩
  unfold f_X5_begin
  have e1 : (if nI w = (0 : Int32) then some (0 : Int32) else some (if (0 : Int32) < (if (40 : Int32) < nI n then (40 : Int32) else nI n) then (if (40 : Int32) < nI n then (40 : Int32) else nI n) else (0 : Int32))) = some (nI (if w = 0 then 0 else n)) := by
    by_cases q : w = 0
    · rw [q]; rfl
    · rw [if_neg (show ¬ nI w = (0 : Int32) from fun z => q ((nI_eq (b := 0) hw (by decide)).mp z)), if_neg q, if_neg (show ¬ (40 : Int32) < nI n from nI_nlt (a := 40) hn (by decide))]
      by_cases q2 : n = 0
      · rw [q2]; rfl
      · rw [if_pos (show (0 : Int32) < nI n from nI_lt (a := 0) (by omega) (by omega))]
  rw [e1, bd_s, show (0 : Int32) = nI 0 from rfl, g1, bd_s]
theorem m_sh86 {s : Nat} (hs : s < 4) : ∀ d f k (Q : Nat → Int64), k + d = 40 → d < f → ∃ r, f_X8_sheet_86 (nI s) f (nI k) Q = some r ∧ (∀ j, k ≤ j → j < 40 → r (40 * s + j) = lN 0) ∧ ∀ i, (i < 40 * s + k ∨ 40 * s + 40 ≤ i) → r i = Q i
  | 0, f, k, Q, hk, hf => by
    cases f with
    | zero => omega
    | succ f =>
      refine ⟨Q, ?_, fun j h1 h2 => by omega, fun i _ => rfl⟩
      unfold f_X8_sheet_86
      rw [show (40 : Int32) = nI 40 from rfl, if_pos (nI_le (by omega) (by omega))]
  | d + 1, f, k, Q, hk, hf => by
    cases f with
    | zero => omega
    | succ f =>
      obtain ⟨r, g1, g2, g3⟩ := m_sh86 hs d f (k + 1) (vp_updL Q (40 * s + k) (lN 0)) (by omega) (by omega)
      refine ⟨r, ?_, fun j h1 h2 => ?_, fun i hi => ?_⟩
      · unfold f_X8_sheet_86
        rw [show (40 : Int32) = nI 40 from rfl, if_neg (nI_ge (by omega) (by decide)), pk_mul, nI_add, gd_ix (by omega) (by decide), nI_clamp (by omega), nI_1]
        exact g1
      · by_cases e : j = k
        · rw [e, g3 _ (by omega), pk_uLs]
        · exact g2 j (by omega) h2
      · rw [g3 i (by omega), pk_uLn (by omega)]
set_option maxHeartbeats 16000000 in
theorem op_sheet {N : Nat} (hN : 2000 ≤ N) : Op_sheet Rl N := by
  intro C_isKept C_l_bsize C_l_bcells C_l_ssize C_l_scells C_l_dsize C_l_dcells C_l_people C_l_rule C_l_believed C_k_bsize C_k_bcells C_k_ssize C_k_scells C_k_dsize C_k_dcells C_k_people C_k_rule C_k_believed C_d_bsize C_d_bcells C_d_ssize C_d_scells C_d_dsize C_d_dcells C_d_people C_d_rule C_d_believed C_order C_stepsAt C_doubts C_weights C_rows C_metEver C_bowedTo C_isStale C_bowCount C_doubtCount C_seenBows C_likeliest C_mostSayingsSo C_doers C_isTelling C_tbytes C_tlen C_token C_place C_behindIt C_value C_sa_nums C_sa_bits C_sa_len C_sb_nums C_sb_bits C_sb_len C_sc_nums C_sc_bits C_sc_len C_sd_nums C_sd_bits C_sd_len C_findings M_now M_kept M_isKept M_found M_order M_doubts M_doubtMany M_weights M_worn M_pairs M_isTwice M_doer M_doneTo M_doers M_tape M_taped M_begins M_ends M_sort M_value M_isWrong M_items M_itemMany M_bowThen M_doubtThen M_deedThen M_sayingThen M_widths M_sizes M_numbers M_moved a1 a2 a3 hR 
  obtain ⟨v, e, hv, he, hm, hd, hl, hs, ht, hk0, hk1, hk2, hf, hp, sa, sb, sc, sd⟩ := hR
  by_cases h1 : inr a1 4 = true
  · obtain ⟨s, hs4, rfl⟩ := inr_t (by decide) h1
    have hs4' : s = 0 ∨ s = 1 ∨ s = 2 ∨ s = 3 := by omega
    by_cases hb : a2 = nI 0 ∨ a2 = nI 8 ∨ a2 = nI 16 ∨ a2 = nI 64
    · obtain ⟨w, hw, rfl⟩ : ∃ w, (w = 0 ∨ w = 8 ∨ w = 16 ∨ w = 64) ∧ a2 = nI w := by
        rcases hb with h | h | h | h
        · exact ⟨0, Or.inl rfl, h⟩
        · exact ⟨8, Or.inr (Or.inl rfl), h⟩
        · exact ⟨16, Or.inr (Or.inr (Or.inl rfl)), h⟩
        · exact ⟨64, Or.inr (Or.inr (Or.inr rfl)), h⟩
      have hw31 := rs_w hw
      have eK : ∀ {α : Type} (X Y : α), (if w = 0 then X else (if w = 8 then X else (if w = 16 then X else (if w = 64 then X else Y)))) = X := fun X Y => by
        rcases hw with rfl | rfl | rfl | rfl <;> rfl
      by_cases h3 : nI 0 ≤ a3
      · by_cases h4 : a3 ≤ nI 40
        · obtain ⟨n, hn, rfl⟩ : ∃ n, n < 41 ∧ a3 = nI n := inr_t (by decide) (inr_iff.mpr (by rw [i32_le, show (nI 0).toInt = 0 from rfl] at h3; rw [i32_le, show (nI 40).toInt = 40 from rfl] at h4; omega))
          have e2 : (if w = 0 then some (nI 0) else some (nI n)) = some (nI (if w = 0 then 0 else n)) := by split <;> rfl
          have hn40 : n ≤ 40 := by omega
          obtain ⟨Q, g1, g2, g3⟩ := m_sh86 hs4 40 N 0 M_numbers (by omega) (by omega)
          rcases hs4' with rfl | rfl | rfl | rfl
          · obtain ⟨r, f1, f2⟩ := c_begin hN hw31 hn40 C_sa_nums C_sa_bits C_sa_len
            simp (disch := omega) only [f_X7_sheet, f_X8_sheet, bd_s, gd_tt, jn_s, lit32, gd_ix, nI_clamp, nI_add, pk_mul, nI_leI, nI_ltI, nI_eq, b2_0n, ite_f, ↓reduceIte, Bool.false_eq_true, Bool.true_eq_false, Nat.not_lt_zero, isb_b2, c_has, c_isHour, c_isKind, c_isPerson, m_isHour, m_isKind, m_isSheet, m_w, c_rN, c_rN2, cB, cF, cK, cN, cS, cM, cZ, mB, mF, mK, mN, mS, mM, mZ, h1, eK, Nat.zero_le, hn40, f1, f_X5_length, e2, g1, pk_us, if_neg]
            refine ⟨_, _, rfl, rfl, rfl, ?_⟩
            have hNn : RS 0 r (nI w) (nI (if w = 0 then 0 else n)) (upd M_widths 0 (nI w)) (upd M_sizes 0 (nI (if w = 0 then 0 else n))) Q := ⟨w, if w = 0 then 0 else n, by split <;> omega, hw, fun q => if_pos q, rfl, pk_us, rfl, pk_us, fun j hj => by
              rw [f2 j hj, g2 j (Nat.zero_le _) (by split at hj <;> omega)]⟩
            exact ⟨v, e, hv, he, hm, hd, hl, hs, ht, hk0, hk1, hk2, hf, hp, hNn, (rs_upd sb (by decide) (fun j hj => g3 _ (by omega))), (rs_upd sc (by decide) (fun j hj => g3 _ (by omega))), (rs_upd sd (by decide) (fun j hj => g3 _ (by omega)))⟩
          · obtain ⟨r, f1, f2⟩ := c_begin hN hw31 hn40 C_sb_nums C_sb_bits C_sb_len
            simp (disch := omega) only [f_X7_sheet, f_X8_sheet, bd_s, gd_tt, jn_s, lit32, gd_ix, nI_clamp, nI_add, pk_mul, nI_leI, nI_ltI, nI_eq, b2_0n, ite_f, ↓reduceIte, Bool.false_eq_true, Bool.true_eq_false, Nat.not_lt_zero, isb_b2, c_has, c_isHour, c_isKind, c_isPerson, m_isHour, m_isKind, m_isSheet, m_w, c_rN, c_rN2, cB, cF, cK, cN, cS, cM, cZ, mB, mF, mK, mN, mS, mM, mZ, h1, eK, Nat.zero_le, hn40, f1, f_X5_length, e2, g1, pk_us, if_neg]
            refine ⟨_, _, rfl, rfl, rfl, ?_⟩
            have hNn : RS 1 r (nI w) (nI (if w = 0 then 0 else n)) (upd M_widths 1 (nI w)) (upd M_sizes 1 (nI (if w = 0 then 0 else n))) Q := ⟨w, if w = 0 then 0 else n, by split <;> omega, hw, fun q => if_pos q, rfl, pk_us, rfl, pk_us, fun j hj => by
              rw [f2 j hj, g2 j (Nat.zero_le _) (by split at hj <;> omega)]⟩
            exact ⟨v, e, hv, he, hm, hd, hl, hs, ht, hk0, hk1, hk2, hf, hp, (rs_upd sa (by decide) (fun j hj => g3 _ (by omega))), hNn, (rs_upd sc (by decide) (fun j hj => g3 _ (by omega))), (rs_upd sd (by decide) (fun j hj => g3 _ (by omega)))⟩
          · obtain ⟨r, f1, f2⟩ := c_begin hN hw31 hn40 C_sc_nums C_sc_bits C_sc_len
            simp (disch := omega) only [f_X7_sheet, f_X8_sheet, bd_s, gd_tt, jn_s, lit32, gd_ix, nI_clamp, nI_add, pk_mul, nI_leI, nI_ltI, nI_eq, b2_0n, ite_f, ↓reduceIte, Bool.false_eq_true, Bool.true_eq_false, Nat.not_lt_zero, isb_b2, c_has, c_isHour, c_isKind, c_isPerson, m_isHour, m_isKind, m_isSheet, m_w, c_rN, c_rN2, cB, cF, cK, cN, cS, cM, cZ, mB, mF, mK, mN, mS, mM, mZ, h1, eK, Nat.zero_le, hn40, f1, f_X5_length, e2, g1, pk_us, if_neg]
            refine ⟨_, _, rfl, rfl, rfl, ?_⟩
            have hNn : RS 2 r (nI w) (nI (if w = 0 then 0 else n)) (upd M_widths 2 (nI w)) (upd M_sizes 2 (nI (if w = 0 then 0 else n))) Q := ⟨w, if w = 0 then 0 else n, by split <;> omega, hw, fun q => if_pos q, rfl, pk_us, rfl, pk_us, fun j hj => by
              rw [f2 j hj, g2 j (Nat.zero_le _) (by split at hj <;> omega)]⟩
            exact ⟨v, e, hv, he, hm, hd, hl, hs, ht, hk0, hk1, hk2, hf, hp, (rs_upd sa (by decide) (fun j hj => g3 _ (by omega))), (rs_upd sb (by decide) (fun j hj => g3 _ (by omega))), hNn, (rs_upd sd (by decide) (fun j hj => g3 _ (by omega)))⟩
          · obtain ⟨r, f1, f2⟩ := c_begin hN hw31 hn40 C_sd_nums C_sd_bits C_sd_len
            simp (disch := omega) only [f_X7_sheet, f_X8_sheet, bd_s, gd_tt, jn_s, lit32, gd_ix, nI_clamp, nI_add, pk_mul, nI_leI, nI_ltI, nI_eq, b2_0n, ite_f, ↓reduceIte, Bool.false_eq_true, Bool.true_eq_false, Nat.not_lt_zero, isb_b2, c_has, c_isHour, c_isKind, c_isPerson, m_isHour, m_isKind, m_isSheet, m_w, c_rN, c_rN2, cB, cF, cK, cN, cS, cM, cZ, mB, mF, mK, mN, mS, mM, mZ, h1, eK, Nat.zero_le, hn40, f1, f_X5_length, e2, g1, pk_us, if_neg]
            refine ⟨_, _, rfl, rfl, rfl, ?_⟩
            have hNn : RS 3 r (nI w) (nI (if w = 0 then 0 else n)) (upd M_widths 3 (nI w)) (upd M_sizes 3 (nI (if w = 0 then 0 else n))) Q := ⟨w, if w = 0 then 0 else n, by split <;> omega, hw, fun q => if_pos q, rfl, pk_us, rfl, pk_us, fun j hj => by
              rw [f2 j hj, g2 j (Nat.zero_le _) (by split at hj <;> omega)]⟩
            exact ⟨v, e, hv, he, hm, hd, hl, hs, ht, hk0, hk1, hk2, hf, hp, (rs_upd sa (by decide) (fun j hj => g3 _ (by omega))), (rs_upd sb (by decide) (fun j hj => g3 _ (by omega))), (rs_upd sc (by decide) (fun j hj => g3 _ (by omega))), hNn⟩
        · have h5 : nI 0 ≤ a3 := h3
          rcases hs4' with rfl | rfl | rfl | rfl
          · simp (disch := omega) only [f_X7_sheet, f_X8_sheet, bd_s, gd_tt, jn_s, lit32, gd_ix, nI_clamp, nI_add, pk_mul, nI_leI, nI_ltI, nI_eq, b2_0n, ite_f, ↓reduceIte, Bool.false_eq_true, Bool.true_eq_false, Nat.not_lt_zero, isb_b2, c_has, c_isHour, c_isKind, c_isPerson, m_isHour, m_isKind, m_isSheet, m_w, c_rN, c_rN2, cB, cF, cK, cN, cS, cM, cZ, mB, mF, mK, mN, mS, mM, mZ, h1, eK, h3, h4, if_neg]
            refine ⟨_, _, rfl, rfl, rfl, ?_⟩; exact ⟨v, e, hv, he, hm, hd, hl, hs, ht, hk0, hk1, hk2, (rf_step hf 0 (by decide)), hp, sa, sb, sc, sd⟩
          · simp (disch := omega) only [f_X7_sheet, f_X8_sheet, bd_s, gd_tt, jn_s, lit32, gd_ix, nI_clamp, nI_add, pk_mul, nI_leI, nI_ltI, nI_eq, b2_0n, ite_f, ↓reduceIte, Bool.false_eq_true, Bool.true_eq_false, Nat.not_lt_zero, isb_b2, c_has, c_isHour, c_isKind, c_isPerson, m_isHour, m_isKind, m_isSheet, m_w, c_rN, c_rN2, cB, cF, cK, cN, cS, cM, cZ, mB, mF, mK, mN, mS, mM, mZ, h1, eK, h3, h4, if_neg]
            refine ⟨_, _, rfl, rfl, rfl, ?_⟩; exact ⟨v, e, hv, he, hm, hd, hl, hs, ht, hk0, hk1, hk2, (rf_step hf 0 (by decide)), hp, sa, sb, sc, sd⟩
          · simp (disch := omega) only [f_X7_sheet, f_X8_sheet, bd_s, gd_tt, jn_s, lit32, gd_ix, nI_clamp, nI_add, pk_mul, nI_leI, nI_ltI, nI_eq, b2_0n, ite_f, ↓reduceIte, Bool.false_eq_true, Bool.true_eq_false, Nat.not_lt_zero, isb_b2, c_has, c_isHour, c_isKind, c_isPerson, m_isHour, m_isKind, m_isSheet, m_w, c_rN, c_rN2, cB, cF, cK, cN, cS, cM, cZ, mB, mF, mK, mN, mS, mM, mZ, h1, eK, h3, h4, if_neg]
            refine ⟨_, _, rfl, rfl, rfl, ?_⟩; exact ⟨v, e, hv, he, hm, hd, hl, hs, ht, hk0, hk1, hk2, (rf_step hf 0 (by decide)), hp, sa, sb, sc, sd⟩
          · simp (disch := omega) only [f_X7_sheet, f_X8_sheet, bd_s, gd_tt, jn_s, lit32, gd_ix, nI_clamp, nI_add, pk_mul, nI_leI, nI_ltI, nI_eq, b2_0n, ite_f, ↓reduceIte, Bool.false_eq_true, Bool.true_eq_false, Nat.not_lt_zero, isb_b2, c_has, c_isHour, c_isKind, c_isPerson, m_isHour, m_isKind, m_isSheet, m_w, c_rN, c_rN2, cB, cF, cK, cN, cS, cM, cZ, mB, mF, mK, mN, mS, mM, mZ, h1, eK, h3, h4, if_neg]
            refine ⟨_, _, rfl, rfl, rfl, ?_⟩; exact ⟨v, e, hv, he, hm, hd, hl, hs, ht, hk0, hk1, hk2, (rf_step hf 0 (by decide)), hp, sa, sb, sc, sd⟩
      · rcases hs4' with rfl | rfl | rfl | rfl
        · simp (disch := omega) only [f_X7_sheet, f_X8_sheet, bd_s, gd_tt, jn_s, lit32, gd_ix, nI_clamp, nI_add, pk_mul, nI_leI, nI_ltI, nI_eq, b2_0n, ite_f, ↓reduceIte, Bool.false_eq_true, Bool.true_eq_false, Nat.not_lt_zero, isb_b2, c_has, c_isHour, c_isKind, c_isPerson, m_isHour, m_isKind, m_isSheet, m_w, c_rN, c_rN2, cB, cF, cK, cN, cS, cM, cZ, mB, mF, mK, mN, mS, mM, mZ, h1, eK, h3, if_neg]
          refine ⟨_, _, rfl, rfl, rfl, ?_⟩; exact ⟨v, e, hv, he, hm, hd, hl, hs, ht, hk0, hk1, hk2, (rf_step hf 6 (by decide)), hp, sa, sb, sc, sd⟩
        · simp (disch := omega) only [f_X7_sheet, f_X8_sheet, bd_s, gd_tt, jn_s, lit32, gd_ix, nI_clamp, nI_add, pk_mul, nI_leI, nI_ltI, nI_eq, b2_0n, ite_f, ↓reduceIte, Bool.false_eq_true, Bool.true_eq_false, Nat.not_lt_zero, isb_b2, c_has, c_isHour, c_isKind, c_isPerson, m_isHour, m_isKind, m_isSheet, m_w, c_rN, c_rN2, cB, cF, cK, cN, cS, cM, cZ, mB, mF, mK, mN, mS, mM, mZ, h1, eK, h3, if_neg]
          refine ⟨_, _, rfl, rfl, rfl, ?_⟩; exact ⟨v, e, hv, he, hm, hd, hl, hs, ht, hk0, hk1, hk2, (rf_step hf 6 (by decide)), hp, sa, sb, sc, sd⟩
        · simp (disch := omega) only [f_X7_sheet, f_X8_sheet, bd_s, gd_tt, jn_s, lit32, gd_ix, nI_clamp, nI_add, pk_mul, nI_leI, nI_ltI, nI_eq, b2_0n, ite_f, ↓reduceIte, Bool.false_eq_true, Bool.true_eq_false, Nat.not_lt_zero, isb_b2, c_has, c_isHour, c_isKind, c_isPerson, m_isHour, m_isKind, m_isSheet, m_w, c_rN, c_rN2, cB, cF, cK, cN, cS, cM, cZ, mB, mF, mK, mN, mS, mM, mZ, h1, eK, h3, if_neg]
          refine ⟨_, _, rfl, rfl, rfl, ?_⟩; exact ⟨v, e, hv, he, hm, hd, hl, hs, ht, hk0, hk1, hk2, (rf_step hf 6 (by decide)), hp, sa, sb, sc, sd⟩
        · simp (disch := omega) only [f_X7_sheet, f_X8_sheet, bd_s, gd_tt, jn_s, lit32, gd_ix, nI_clamp, nI_add, pk_mul, nI_leI, nI_ltI, nI_eq, b2_0n, ite_f, ↓reduceIte, Bool.false_eq_true, Bool.true_eq_false, Nat.not_lt_zero, isb_b2, c_has, c_isHour, c_isKind, c_isPerson, m_isHour, m_isKind, m_isSheet, m_w, c_rN, c_rN2, cB, cF, cK, cN, cS, cM, cZ, mB, mF, mK, mN, mS, mM, mZ, h1, eK, h3, if_neg]
          refine ⟨_, _, rfl, rfl, rfl, ?_⟩; exact ⟨v, e, hv, he, hm, hd, hl, hs, ht, hk0, hk1, hk2, (rf_step hf 6 (by decide)), hp, sa, sb, sc, sd⟩
    · have b0 : ¬ a2 = nI 0 := fun z => hb (Or.inl z)
      have b1 : ¬ a2 = nI 8 := fun z => hb (Or.inr (Or.inl z))
      have b2' : ¬ a2 = nI 16 := fun z => hb (Or.inr (Or.inr (Or.inl z)))
      have b3 : ¬ a2 = nI 64 := fun z => hb (Or.inr (Or.inr (Or.inr z)))
      rcases hs4' with rfl | rfl | rfl | rfl
      · simp (disch := omega) only [f_X7_sheet, f_X8_sheet, bd_s, gd_tt, jn_s, lit32, gd_ix, nI_clamp, nI_add, pk_mul, nI_leI, nI_ltI, nI_eq, b2_0n, ite_f, ↓reduceIte, Bool.false_eq_true, Bool.true_eq_false, Nat.not_lt_zero, isb_b2, c_has, c_isHour, c_isKind, c_isPerson, m_isHour, m_isKind, m_isSheet, m_w, c_rN, c_rN2, cB, cF, cK, cN, cS, cM, cZ, mB, mF, mK, mN, mS, mM, mZ, h1, b0, b1, b2', b3, if_neg]
        refine ⟨_, _, rfl, rfl, rfl, ?_⟩; exact ⟨v, e, hv, he, hm, hd, hl, hs, ht, hk0, hk1, hk2, (rf_step hf 0 (by decide)), hp, sa, sb, sc, sd⟩
      · simp (disch := omega) only [f_X7_sheet, f_X8_sheet, bd_s, gd_tt, jn_s, lit32, gd_ix, nI_clamp, nI_add, pk_mul, nI_leI, nI_ltI, nI_eq, b2_0n, ite_f, ↓reduceIte, Bool.false_eq_true, Bool.true_eq_false, Nat.not_lt_zero, isb_b2, c_has, c_isHour, c_isKind, c_isPerson, m_isHour, m_isKind, m_isSheet, m_w, c_rN, c_rN2, cB, cF, cK, cN, cS, cM, cZ, mB, mF, mK, mN, mS, mM, mZ, h1, b0, b1, b2', b3, if_neg]
        refine ⟨_, _, rfl, rfl, rfl, ?_⟩; exact ⟨v, e, hv, he, hm, hd, hl, hs, ht, hk0, hk1, hk2, (rf_step hf 0 (by decide)), hp, sa, sb, sc, sd⟩
      · simp (disch := omega) only [f_X7_sheet, f_X8_sheet, bd_s, gd_tt, jn_s, lit32, gd_ix, nI_clamp, nI_add, pk_mul, nI_leI, nI_ltI, nI_eq, b2_0n, ite_f, ↓reduceIte, Bool.false_eq_true, Bool.true_eq_false, Nat.not_lt_zero, isb_b2, c_has, c_isHour, c_isKind, c_isPerson, m_isHour, m_isKind, m_isSheet, m_w, c_rN, c_rN2, cB, cF, cK, cN, cS, cM, cZ, mB, mF, mK, mN, mS, mM, mZ, h1, b0, b1, b2', b3, if_neg]
        refine ⟨_, _, rfl, rfl, rfl, ?_⟩; exact ⟨v, e, hv, he, hm, hd, hl, hs, ht, hk0, hk1, hk2, (rf_step hf 0 (by decide)), hp, sa, sb, sc, sd⟩
      · simp (disch := omega) only [f_X7_sheet, f_X8_sheet, bd_s, gd_tt, jn_s, lit32, gd_ix, nI_clamp, nI_add, pk_mul, nI_leI, nI_ltI, nI_eq, b2_0n, ite_f, ↓reduceIte, Bool.false_eq_true, Bool.true_eq_false, Nat.not_lt_zero, isb_b2, c_has, c_isHour, c_isKind, c_isPerson, m_isHour, m_isKind, m_isSheet, m_w, c_rN, c_rN2, cB, cF, cK, cN, cS, cM, cZ, mB, mF, mK, mN, mS, mM, mZ, h1, b0, b1, b2', b3, if_neg]
        refine ⟨_, _, rfl, rfl, rfl, ?_⟩; exact ⟨v, e, hv, he, hm, hd, hl, hs, ht, hk0, hk1, hk2, (rf_step hf 0 (by decide)), hp, sa, sb, sc, sd⟩
  · have n0 : ¬ a1 = nI 0 := fun z => by rw [z] at h1; exact h1 (by decide)
    have n1 : ¬ a1 = nI 1 := fun z => by rw [z] at h1; exact h1 (by decide)
    have n2 : ¬ a1 = nI 2 := fun z => by rw [z] at h1; exact h1 (by decide)
    have n3 : ¬ a1 = nI 3 := fun z => by rw [z] at h1; exact h1 (by decide)
    have h1 := inr_out h1
    simp (disch := omega) only [f_X7_sheet, f_X8_sheet, bd_s, gd_tt, jn_s, lit32, gd_ix, nI_clamp, nI_add, pk_mul, nI_leI, nI_ltI, nI_eq, b2_0n, ite_f, ↓reduceIte, Bool.false_eq_true, Bool.true_eq_false, Nat.not_lt_zero, isb_b2, c_has, c_isHour, c_isKind, c_isPerson, m_isHour, m_isKind, m_isSheet, m_w, c_rN, c_rN2, cB, cF, cK, cN, cS, cM, cZ, mB, mF, mK, mN, mS, mM, mZ, h1, n0, n1, n2, n3]
    refine ⟨_, _, rfl, rfl, rfl, ?_⟩; exact ⟨v, e, hv, he, hm, hd, hl, hs, ht, hk0, hk1, hk2, (rf_step hf 0 (by decide)), hp, sa, sb, sc, sd⟩
