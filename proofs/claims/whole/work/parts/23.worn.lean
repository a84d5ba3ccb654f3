/-! ===== who wore what ===== -/
/-- the one of a set, if it is one of eight -/
def onI (s : Nat) : Int32 := if run (fun k => !decide (s = 2 ^ k)) 8 0 < 8 then nI (run (fun k => !decide (s = 2 ^ k)) 8 0) else -nI 1
theorem nI_pow_eq {s k : Nat} (hs : s < 2 ^ 31) (hk : k < 31) : (nI s = nI (2 ^ k)) = (s = 2 ^ k) := by
  have : 2 ^ k < 2 ^ 31 := Nat.pow_lt_pow_right (by decide) hk
  exact propext (nI_eq hs this)
theorem c_only2 {s : Nat} (hs : s < 2 ^ 31) : ∀ d f k, k + d = 8 → d < f → f_X7_onlyOneOf_2 (nI s) (fun _ => some (-nI 1)) f (nI k) = some (if run (fun k => !decide (s = 2 ^ k)) d k < 8 then nI (run (fun k => !decide (s = 2 ^ k)) d k) else -nI 1)
  | 0, f, k, hk, hf => by
    cases f with
    | zero => omega
    | succ f =>
      have hc : 8 ≤ k := by omega
      simp (disch := omega) only [f_X7_onlyOneOf_2, bd_s, gd_tt, jn_s, lit32, gd_ix, nI_clamp, nI_add, pk_mul, nI_leI, nI_ltI, nI_eq, b2_0n, ite_f, ↓reduceIte, Bool.false_eq_true, Bool.true_eq_false, Nat.not_lt_zero, isb_b2, c_has, c_isHour, c_isKind, c_isPerson, m_isHour, m_isKind, m_isSheet, m_w, c_rN, c_rN2, cB, cF, cK, cN, cS, cM, cZ, mB, mF, mK, mN, mS, mM, mZ, hc]
      rw [if_neg (by show ¬ k < 8; omega)]
  | d + 1, f, k, hk, hf => by
    cases f with
    | zero => omega
    | succ f =>
      have hc : ¬ 8 ≤ k := by omega
      have ih := c_only2 hs d f (k + 1) (by omega) (by omega)
      by_cases q : s = 2 ^ k
      · have er : run (fun k => !decide (s = 2 ^ k)) (d + 1) k = k := by
          show (if (!decide (s = 2 ^ k)) = true then _ else k) = k
          rw [decide_eq_true q]; rfl
        rw [er]
        simp (disch := omega) only [f_X7_onlyOneOf_2, bd_s, gd_tt, jn_s, lit32, gd_ix, nI_clamp, nI_add, pk_mul, nI_leI, nI_ltI, nI_eq, b2_0n, ite_f, ↓reduceIte, Bool.false_eq_true, Bool.true_eq_false, Nat.not_lt_zero, isb_b2, c_has, c_isHour, c_isKind, c_isPerson, m_isHour, m_isKind, m_isSheet, m_w, c_rN, c_rN2, cB, cF, cK, cN, cS, cM, cZ, mB, mF, mK, mN, mS, mM, mZ, hc, nI_31, nI_1shl, nI_pow_eq]
        rw [if_pos q, if_pos (by omega)]
      · have er : run (fun k => !decide (s = 2 ^ k)) (d + 1) k = run (fun k => !decide (s = 2 ^ k)) d (k + 1) := by
          show (if (!decide (s = 2 ^ k)) = true then _ else k) = _
          rw [decide_eq_false q]; rfl
        rw [er]
        simp (disch := omega) only [f_X7_onlyOneOf_2, bd_s, gd_tt, jn_s, lit32, gd_ix, nI_clamp, nI_add, pk_mul, nI_leI, nI_ltI, nI_eq, b2_0n, ite_f, ↓reduceIte, Bool.false_eq_true, Bool.true_eq_false, Nat.not_lt_zero, isb_b2, c_has, c_isHour, c_isKind, c_isPerson, m_isHour, m_isKind, m_isSheet, m_w, c_rN, c_rN2, cB, cF, cK, cN, cS, cM, cZ, mB, mF, mK, mN, mS, mM, mZ, hc, nI_31, nI_1shl, nI_pow_eq]
        rw [if_neg q]
        exact ih
theorem c_only {s N : Nat} (hs : s < 2 ^ 31) (hN : 2000 ≤ N) : f_X7_onlyOneOf N (nI s) = some (onI s) := c_only2 hs 8 N 0 rfl (by omega)
theorem pow_inj2 {a b : Nat} (h : 2 ^ a = 2 ^ b) : a = b := by
  rcases Nat.lt_trichotomy a b with q | q | q
  · have := Nat.pow_lt_pow_right (a := 2) (by decide) q; omega
  · exact q
  · have := Nat.pow_lt_pow_right (a := 2) (by decide) q; omega
theorem m_only4 {s : Nat} (hs : s < 2 ^ 31) : ∀ d f k (x : Int32), k + d = 8 → d < f → (∀ j, j < k → s = 2 ^ j → x = nI j) → ((∀ j, j < k → ¬ s = 2 ^ j) → x = -nI 1) → f_X8_only_4 (nI s) f x (nI k) = some (onI s)
  | 0, f, k, x, hk, hf, h1, h2 => by
    cases f with
    | zero => omega
    | succ f =>
      have hc : 8 ≤ k := by omega
      simp (disch := omega) only [f_X8_only_4, bd_s, gd_tt, jn_s, lit32, gd_ix, nI_clamp, nI_add, pk_mul, nI_leI, nI_ltI, nI_eq, b2_0n, ite_f, ↓reduceIte, Bool.false_eq_true, Bool.true_eq_false, Nat.not_lt_zero, isb_b2, c_has, c_isHour, c_isKind, c_isPerson, m_isHour, m_isKind, m_isSheet, m_w, c_rN, c_rN2, cB, cF, cK, cN, cS, cM, cZ, mB, mF, mK, mN, mS, mM, mZ, hc]
      unfold onI
      by_cases q : run (fun k => !decide (s = 2 ^ k)) 8 0 < 8
      · rw [if_pos q]
        have := run_more (p := fun k => !decide (s = 2 ^ k)) 8 0 (by omega)
        simp only [Bool.not_eq_false', decide_eq_true_eq] at this
        rw [h1 _ (by omega) this]
      · rw [if_neg q]
        rw [h2 (fun j hj => by
          have := run_true (p := fun k => !decide (s = 2 ^ k)) 8 0 j (by omega) (by omega)
          simpa using this)]
  | d + 1, f, k, x, hk, hf, h1, h2 => by
    cases f with
    | zero => omega
    | succ f =>
      have hc : ¬ 8 ≤ k := by omega
      simp (disch := omega) only [f_X8_only_4, bd_s, gd_tt, jn_s, lit32, gd_ix, nI_clamp, nI_add, pk_mul, nI_leI, nI_ltI, nI_eq, b2_0n, ite_f, ↓reduceIte, Bool.false_eq_true, Bool.true_eq_false, Nat.not_lt_zero, isb_b2, c_has, c_isHour, c_isKind, c_isPerson, m_isHour, m_isKind, m_isSheet, m_w, c_rN, c_rN2, cB, cF, cK, cN, cS, cM, cZ, mB, mF, mK, mN, mS, mM, mZ, hc, nI_31, nI_1shl, nI_pow_eq]
      by_cases q : s = 2 ^ k
      · rw [if_pos q, bd_s]
        exact m_only4 hs d f (k + 1) (nI k) (by omega) (by omega) (fun j hj hs' => by rw [pow_inj2 (q.symm.trans hs')]) (fun hn => absurd q (hn k (by omega)))
      · rw [if_neg q, bd_s]
        exact m_only4 hs d f (k + 1) x (by omega) (by omega) (fun j hj hs' => h1 j (by
          have : j ≠ k := fun e => q (by rw [← e]; exact hs')
          omega) hs') (fun hn => h2 (fun j hj => hn j (by omega)))
theorem m_only {s N : Nat} (hs : s < 2 ^ 31) (hN : 2000 ≤ N) : f_X8_only N (nI s) = some (onI s) := by
  unfold f_X8_only
  rw [show f_X8_only_4 (nI s) N (-1 : Int32) (0 : Int32) = some (onI s) from m_only4 hs 8 N 0 (-nI 1) rfl (by omega) (fun j hj => absurd hj (Nat.not_lt_zero _)) (fun _ => rfl), bd_s]
theorem onI_or (s : Nat) : (∃ k, k < 8 ∧ onI s = nI k) ∨ onI s = -nI 1 := by
  unfold onI
  split
  · exact Or.inl ⟨_, by assumption, rfl⟩
  · exact Or.inr rfl
/-- wearers of a mask, as a set -/
def weS (v : Nat → Nat) (m h : Nat) : Nat → Nat := orr (fun n => if 0 < wt v n then 2 ^ wr v n h m else 0)
theorem weS_s (v : Nat → Nat) (m h k : Nat) : weS v m h (k + 1) = weS v m h k ||| (if 0 < wt v k then 2 ^ wr v k h m else 0) := rfl
theorem wr_lt {v : Nat → Nat} (hv : Vd v) (n h : Nat) {m : Nat} (hm : m < 8) : wr v n h m < 8 := (Pm_n hv n _ (sts_le v h)).1 m hm
theorem weS_lt {v : Nat → Nat} (hv : Vd v) {m : Nat} (hm : m < 8) (h : Nat) : ∀ k, weS v m h k < 256
  | 0 => (show (0 : Nat) < 256 by decide)
  | k + 1 => by
    have := wr_lt hv k h hm
    rw [weS_s]
    refine Nat.or_lt_two_pow (n := 8) (weS_lt hv hm h k) ?_
    split
    · exact Nat.pow_lt_pow_right (by decide) this
    · decide
theorem wt_wgt {v : Nat → Nat} {n : Nat} (h : 0 < wt v n) : 0 < wgt v n := by
  unfold wt at h
  split at h
  · exact h
  · omega
theorem c_wr {v : Nat → Nat} {rows : Nat → Int32} (hv : Vd v) {n h m : Nat} (hR : RR v rows n (v 3)) (hm : m < 8) : f_X7_wearer (rows (21 * n + sts v h)) (nI m) = some (nI (wr v n h m)) :=
  c_wearer (hR _ (sts_le v h)) hm (wr_lt hv n h hm)
theorem c_we5 {v : Nat → Nat} {stepsAt w rows : Nat → Int32} (hv : Vd v) (hs : ∀ h, h < 100 → stepsAt h = nI (sts v h)) (hw : CW v w) (hR : ∀ n, n < nn v → 0 < wgt v n → RR v rows n (v 3)) {m h : Nat} (hm : m < 8) (hh : h < 100) : ∀ d f k, k + d = nn v → d < f → f_X2_wearersOf_5 (nI m) (nI h) stepsAt w rows (nI (dc v)) f (nI (weS v m h k)) (nI k) = some (nI (weS v m h (nn v)))
  | 0, f, k, hk, hf => by
    have h64 := nn_le hv
    cases f with
    | zero => omega
    | succ f =>
      unfold f_X2_wearersOf_5
      rw [c_size hv, bd_s, if_pos (nI_le (by omega) (by omega)), show k = nn v by omega]
  | d + 1, f, k, hk, hf => by
    have h64 := nn_le hv
    cases f with
    | zero => omega
    | succ f =>
      have ih := c_we5 hv hs hw hR hm hh d f (k + 1) (by omega) (by omega)
      unfold f_X2_wearersOf_5
      rw [c_size hv, bd_s, if_neg (nI_ge (by omega) (by omega)), c_holds hv hw (by omega), bd_s, ← ih, weS_s]
      by_cases q : 0 < wt v k
      · have hl := wr_lt hv k h hm
        rw [decide_eq_true q, if_neg (show ¬ b2 true = 0 by decide), c_row hs hv (by omega) hh, bd_s, c_wr hv (hR k (by omega) (wt_wgt q)) hm, bd_s, bd_s, if_pos q, show (1 : Int32) = nI 1 from rfl, show (31 : Int32) = nI 31 from rfl, nI_31 (by omega), nI_1shl (by omega), nI_or, nI_add]
      · rw [decide_eq_false q, if_pos (show b2 false = 0 by decide), bd_s, if_neg q, nI_1, Nat.or_zero]
theorem c_we {v : Nat → Nat} {stepsAt w rows : Nat → Int32} (hv : Vd v) (hs : ∀ h, h < 100 → stepsAt h = nI (sts v h)) (hw : CW v w) (hR : ∀ n, n < nn v → 0 < wgt v n → RR v rows n (v 3)) {m h N : Nat} (hN : 2000 ≤ N) (hm : m < 8) (hh : h < 100) : f_X2_wearersOf N stepsAt w rows (nI (dc v)) (nI m) (nI h) = some (nI (weS v m h (nn v))) := by
  have h64 := nn_le hv
  unfold f_X2_wearersOf
  rw [show f_X2_wearersOf_5 (nI m) (nI h) stepsAt w rows (nI (dc v)) N (0 : Int32) (0 : Int32) = some (nI (weS v m h (nn v))) from c_we5 hv hs hw hR hm hh (nn v) N 0 (by omega) (by omega), bd_s]
theorem m_we10 {v : Nat → Nat} {now : Nat → Int32} (h : RN v now) (hv : Vd v) {N : Nat} (hN : 2000 ≤ N) {order doubts : Nat → Int32} {W : Nat → Int64} (hl : ML v order doubts (nI (dc v))) (hw : MW v W) {m hh : Nat} (hm : m < 8) (hh1 : hh < 2 ^ 31) : ∀ d f k (worn : Nat → Int32) (pairs : Int64) (tw : Int32), k + d = nn v → d < f →
    ∃ w p t, f_X8_wornBy_10 N (nI m) (nI hh) now order doubts (nI (dc v)) W f (nI (weS v m hh k)) (nI k) worn pairs tw = some (nI (weS v m hh (nn v)), w, p, t)
  | 0, f, k, worn, pairs, tw, hk, hf => by
    have h64 := nn_le hv
    cases f with
    | zero => omega
    | succ f =>
      refine ⟨worn, pairs, tw, ?_⟩
      unfold f_X8_wornBy_10
      rw [n_there hv, bd_s, if_pos (nI_le (by omega) (by omega)), show k = nn v by omega]
  | d + 1, f, k, worn, pairs, tw, hk, hf => by
    have h64 := nn_le hv
    have hwk := wt_le hv k
    cases f with
    | zero => omega
    | succ f =>
      obtain ⟨w1, p1, t1, e1, e2⟩ := m_goes h hv hN hl (n := k) (by omega) hh1 worn pairs tw
      obtain ⟨w, p, t, g⟩ := m_we10 h hv hN hl hw hm hh1 d f (k + 1) w1 p1 t1 (by omega) (by omega)
      refine ⟨w, p, t, ?_⟩
      have hl8 := wr_lt hv k hh hm
      have ew : w1 m = nI (wr v k hh m) := e2.1 m hm
      unfold f_X8_wornBy_10
      rw [n_there hv, bd_s, if_neg (nI_ge (by omega) (by omega)), e1, bd_s, gd_ix (by omega) (by decide), nI_clamp (by omega), hw k (by omega), show (0 : Int64) = lN 0 from rfl, show (0 : Int32) = nI 0 from rfl, ← g, weS_s]
      dsimp only
      by_cases q : 0 < wt v k
      · rw [if_neg (by rw [lgc_le (by omega)]; omega), gd_ix hm (by decide), nI_clamp (by omega), ew, if_pos q, show (1 : Int32) = nI 1 from rfl, show (31 : Int32) = nI 31 from rfl, nI_31 (by omega), nI_1shl (by omega), bd_s, nI_or, nI_add]
      · rw [if_pos (by rw [lgc_le (by omega)]; omega), bd_s, if_neg q, nI_1, nI_or]
theorem m_worn {v : Nat → Nat} {now : Nat → Int32} (h : RN v now) (hv : Vd v) {N : Nat} (hN : 2000 ≤ N) (order doubts : Nat → Int32) (dm : Int32) (weights : Nat → Int64) (worn : Nat → Int32) (pairs : Int64) (tw : Int32) {m hh : Nat} (hm : m < 8) (hh1 : hh < 2 ^ 31) :
    ∃ o d W w p t, f_X8_wornBy N now order doubts dm weights worn pairs tw (nI m) (nI hh) = some (nI (weS v m hh (nn v)), o, d, nI (dc v), W, w, p, t) ∧ ML v o d (nI (dc v)) ∧ MW v W := by
  have h64 := nn_le hv
  obtain ⟨o, d, W, w, p, t, e1, e2, e3⟩ := m_weigh h hv hN order doubts dm weights worn pairs tw
  obtain ⟨w2, p2, t2, g⟩ := m_we10 h hv hN e2 e3 hm hh1 (nn v) N 0 w p t (by omega) (by omega)
  refine ⟨o, d, W, w2, p2, t2, ?_, e2, e3⟩
  unfold f_X8_wornBy
  rw [e1, bd_s]
  dsimp only
  rw [show f_X8_wornBy_10 N (nI m) (nI hh) now o d (nI (dc v)) W N (0 : Int32) (0 : Int32) w p t = some (nI (weS v m hh (nn v)), w2, p2, t2) from g, bd_s]
set_option maxHeartbeats 16000000 in
theorem op_may {N : Nat} (hN : 2000 ≤ N) : Op_may Rl N := by
  intro C_isKept C_l_bsize C_l_bcells C_l_ssize C_l_scells C_l_dsize C_l_dcells C_l_people C_l_rule C_l_believed C_k_bsize C_k_bcells C_k_ssize C_k_scells C_k_dsize C_k_dcells C_k_people C_k_rule C_k_believed C_d_bsize C_d_bcells C_d_ssize C_d_scells C_d_dsize C_d_dcells C_d_people C_d_rule C_d_believed C_order C_stepsAt C_doubts C_weights C_rows C_metEver C_bowedTo C_isStale C_bowCount C_doubtCount C_seenBows C_likeliest C_mostSayingsSo C_doers C_isTelling C_tbytes C_tlen C_token C_place C_behindIt C_value C_sa_nums C_sa_bits C_sa_len C_sb_nums C_sb_bits C_sb_len C_sc_nums C_sc_bits C_sc_len C_sd_nums C_sd_bits C_sd_len C_findings M_now M_kept M_isKept M_found M_order M_doubts M_doubtMany M_weights M_worn M_pairs M_isTwice M_doer M_doneTo M_doers M_tape M_taped M_begins M_ends M_sort M_value M_isWrong M_items M_itemMany M_bowThen M_doubtThen M_deedThen M_sayingThen M_widths M_sizes M_numbers M_moved a1 a2 hR 
  obtain ⟨v, e, hv, he, hm, hd, hl, hs, ht, hk0, hk1, hk2, hf, hp, sa, sb, sc, sd⟩ := hR
  obtain ⟨rfl, hlb, rfl, hls, rfl, hld, rfl, rfl, rfl⟩ := hl
  have h8 := vd_hi hv
  by_cases h1 : inr a1 (v 0) = true
  · by_cases h2 : inr a2 100 = true
    · obtain ⟨m, hm8, rfl⟩ := inr_t (by omega) h1
      obtain ⟨h, hh, rfl⟩ := inr_t (by decide) h2
      obtain ⟨o_, s_, d_, w_, r_, m_, b_, k_, n_, q_, l_, x_, ef, tb⟩ := c_look hlb hls hv hN C_order C_stepsAt C_doubts C_weights C_rows C_metEver C_bowedTo C_isStale C_bowCount C_doubtCount C_seenBows C_likeliest C_mostSayingsSo hs ht
      have tbb := tb
      obtain ⟨tb1, tb2, rfl, tb4, rfl, tb6, tb7, tb8, rfl, rfl⟩ := tb
      obtain ⟨mo, md, mw, mwo, mp, mt, em, ml, mW⟩ := m_worn hm hv hN M_order M_doubts M_doubtMany M_weights M_worn M_pairs M_isTwice (m := m) (hh := h) (by omega) (by omega)
      simp (disch := omega) only [f_X7_may, f_X8_may, bd_s, gd_tt, jn_s, lit32, gd_ix, nI_clamp, nI_add, pk_mul, nI_leI, nI_ltI, nI_eq, b2_0n, ite_f, ↓reduceIte, Bool.false_eq_true, Bool.true_eq_false, Nat.not_lt_zero, isb_b2, c_has, c_isHour, c_isKind, c_isPerson, m_isHour, m_isKind, m_isSheet, m_w, c_rN, c_rN2, cB, cF, cK, cN, cS, cM, cZ, mB, mF, mK, mN, mS, mM, mZ, h1, h2, m_isOne hm hv, ef, em, c_we hv tb2 tb6 tb7 hN (show m < 8 by omega) hh]
      refine ⟨_, _, rfl, rfl, rfl, ?_⟩; exact ⟨v, e, hv, he, hm, hd, ⟨rfl, hlb, rfl, hls, rfl, hld, rfl, rfl, rfl⟩, Or.inl rfl, fun _ => tbb, hk0, hk1, hk2, hf, hp, sa, sb, sc, sd⟩
    · have h2 := inr_fp h2
      simp (disch := omega) only [f_X7_may, f_X8_may, bd_s, gd_tt, jn_s, lit32, gd_ix, nI_clamp, nI_add, pk_mul, nI_leI, nI_ltI, nI_eq, b2_0n, ite_f, ↓reduceIte, Bool.false_eq_true, Bool.true_eq_false, Nat.not_lt_zero, isb_b2, c_has, c_isHour, c_isKind, c_isPerson, m_isHour, m_isKind, m_isSheet, m_w, c_rN, c_rN2, cB, cF, cK, cN, cS, cM, cZ, mB, mF, mK, mN, mS, mM, mZ, h1, h2, m_isOne hm hv]
      refine ⟨_, _, rfl, rfl, rfl, ?_⟩; exact ⟨v, e, hv, he, hm, hd, ⟨rfl, hlb, rfl, hls, rfl, hld, rfl, rfl, rfl⟩, hs, ht, hk0, hk1, hk2, (rf_step hf 0 (by decide)), hp, sa, sb, sc, sd⟩
  · have h1 := inr_fp h1
    simp (disch := omega) only [f_X7_may, f_X8_may, bd_s, gd_tt, jn_s, lit32, gd_ix, nI_clamp, nI_add, pk_mul, nI_leI, nI_ltI, nI_eq, b2_0n, ite_f, ↓reduceIte, Bool.false_eq_true, Bool.true_eq_false, Nat.not_lt_zero, isb_b2, c_has, c_isHour, c_isKind, c_isPerson, m_isHour, m_isKind, m_isSheet, m_w, c_rN, c_rN2, cB, cF, cK, cN, cS, cM, cZ, mB, mF, mK, mN, mS, mM, mZ, h1, m_isOne hm hv]
    refine ⟨_, _, rfl, rfl, rfl, ?_⟩; exact ⟨v, e, hv, he, hm, hd, ⟨rfl, hlb, rfl, hls, rfl, hld, rfl, rfl, rfl⟩, hs, ht, hk0, hk1, hk2, (rf_step hf 0 (by decide)), hp, sa, sb, sc, sd⟩
set_option maxHeartbeats 16000000 in
theorem op_wore {N : Nat} (hN : 2000 ≤ N) : Op_wore Rl N := by
  intro C_isKept C_l_bsize C_l_bcells C_l_ssize C_l_scells C_l_dsize C_l_dcells C_l_people C_l_rule C_l_believed C_k_bsize C_k_bcells C_k_ssize C_k_scells C_k_dsize C_k_dcells C_k_people C_k_rule C_k_believed C_d_bsize C_d_bcells C_d_ssize C_d_scells C_d_dsize C_d_dcells C_d_people C_d_rule C_d_believed C_order C_stepsAt C_doubts C_weights C_rows C_metEver C_bowedTo C_isStale C_bowCount C_doubtCount C_seenBows C_likeliest C_mostSayingsSo C_doers C_isTelling C_tbytes C_tlen C_token C_place C_behindIt C_value C_sa_nums C_sa_bits C_sa_len C_sb_nums C_sb_bits C_sb_len C_sc_nums C_sc_bits C_sc_len C_sd_nums C_sd_bits C_sd_len C_findings M_now M_kept M_isKept M_found M_order M_doubts M_doubtMany M_weights M_worn M_pairs M_isTwice M_doer M_doneTo M_doers M_tape M_taped M_begins M_ends M_sort M_value M_isWrong M_items M_itemMany M_bowThen M_doubtThen M_deedThen M_sayingThen M_widths M_sizes M_numbers M_moved a1 a2 hR 
  obtain ⟨v, e, hv, he, hm, hd, hl, hs, ht, hk0, hk1, hk2, hf, hp, sa, sb, sc, sd⟩ := hR
  obtain ⟨rfl, hlb, rfl, hls, rfl, hld, rfl, rfl, rfl⟩ := hl
  have h8 := vd_hi hv
  by_cases h1 : inr a1 (v 0) = true
  · by_cases h2 : inr a2 100 = true
    · obtain ⟨m, hm8, rfl⟩ := inr_t (by omega) h1
      obtain ⟨h, hh, rfl⟩ := inr_t (by decide) h2
      obtain ⟨o_, s_, d_, w_, r_, m_, b_, k_, n_, q_, l_, x_, ef, tb⟩ := c_look hlb hls hv hN C_order C_stepsAt C_doubts C_weights C_rows C_metEver C_bowedTo C_isStale C_bowCount C_doubtCount C_seenBows C_likeliest C_mostSayingsSo hs ht
      have tbb := tb
      obtain ⟨tb1, tb2, rfl, tb4, rfl, tb6, tb7, tb8, rfl, rfl⟩ := tb
      obtain ⟨mo, md, mw, mwo, mp, mt, em, ml, mW⟩ := m_worn hm hv hN M_order M_doubts M_doubtMany M_weights M_worn M_pairs M_isTwice (m := m) (hh := h) (by omega) (by omega)
      have hlt := weS_lt hv (m := m) (by omega) h (nn v)
      rcases onI_or (weS v m h (nn v)) with ⟨k, hk, hq⟩ | hq
      · have hz : nI 0 ≤ nI k := nI_pos' (by omega)
        have hnm := nI_nm1 (show k < 2 ^ 31 by omega)
        simp (disch := omega) only [f_X7_wore, f_X8_wore, bd_s, gd_tt, jn_s, lit32, gd_ix, nI_clamp, nI_add, pk_mul, nI_leI, nI_ltI, nI_eq, b2_0n, ite_f, ↓reduceIte, Bool.false_eq_true, Bool.true_eq_false, Nat.not_lt_zero, isb_b2, c_has, c_isHour, c_isKind, c_isPerson, m_isHour, m_isKind, m_isSheet, m_w, c_rN, c_rN2, cB, cF, cK, cN, cS, cM, cZ, mB, mF, mK, mN, mS, mM, mZ, h1, h2, m_isOne hm hv, ef, em, c_we hv tb2 tb6 tb7 hN (show m < 8 by omega) hh, c_only, m_only, hq, hz, hnm, f_X7_orNone, Nat.zero_le]
        refine ⟨_, _, rfl, rfl, rfl, ?_⟩; exact ⟨v, e, hv, he, hm, hd, ⟨rfl, hlb, rfl, hls, rfl, hld, rfl, rfl, rfl⟩, Or.inl rfl, fun _ => tbb, hk0, hk1, hk2, hf, hp, sa, sb, sc, sd⟩
      · have hz : ¬ nI 0 ≤ -nI 1 := by decide
        simp (disch := omega) only [f_X7_wore, f_X8_wore, bd_s, gd_tt, jn_s, lit32, gd_ix, nI_clamp, nI_add, pk_mul, nI_leI, nI_ltI, nI_eq, b2_0n, ite_f, ↓reduceIte, Bool.false_eq_true, Bool.true_eq_false, Nat.not_lt_zero, isb_b2, c_has, c_isHour, c_isKind, c_isPerson, m_isHour, m_isKind, m_isSheet, m_w, c_rN, c_rN2, cB, cF, cK, cN, cS, cM, cZ, mB, mF, mK, mN, mS, mM, mZ, h1, h2, m_isOne hm hv, ef, em, c_we hv tb2 tb6 tb7 hN (show m < 8 by omega) hh, c_only, m_only, hq, hz, f_X7_orNone]
        refine ⟨_, _, rfl, rfl, rfl, ?_⟩; exact ⟨v, e, hv, he, hm, hd, ⟨rfl, hlb, rfl, hls, rfl, hld, rfl, rfl, rfl⟩, Or.inl rfl, fun _ => tbb, hk0, hk1, hk2, (rf_step hf 3 (by decide)), hp, sa, sb, sc, sd⟩
    · have h2 := inr_fp h2
      simp (disch := omega) only [f_X7_wore, f_X8_wore, bd_s, gd_tt, jn_s, lit32, gd_ix, nI_clamp, nI_add, pk_mul, nI_leI, nI_ltI, nI_eq, b2_0n, ite_f, ↓reduceIte, Bool.false_eq_true, Bool.true_eq_false, Nat.not_lt_zero, isb_b2, c_has, c_isHour, c_isKind, c_isPerson, m_isHour, m_isKind, m_isSheet, m_w, c_rN, c_rN2, cB, cF, cK, cN, cS, cM, cZ, mB, mF, mK, mN, mS, mM, mZ, h1, h2, m_isOne hm hv]
      refine ⟨_, _, rfl, rfl, rfl, ?_⟩; exact ⟨v, e, hv, he, hm, hd, ⟨rfl, hlb, rfl, hls, rfl, hld, rfl, rfl, rfl⟩, hs, ht, hk0, hk1, hk2, (rf_step hf 0 (by decide)), hp, sa, sb, sc, sd⟩
  · have h1 := inr_fp h1
    simp (disch := omega) only [f_X7_wore, f_X8_wore, bd_s, gd_tt, jn_s, lit32, gd_ix, nI_clamp, nI_add, pk_mul, nI_leI, nI_ltI, nI_eq, b2_0n, ite_f, ↓reduceIte, Bool.false_eq_true, Bool.true_eq_false, Nat.not_lt_zero, isb_b2, c_has, c_isHour, c_isKind, c_isPerson, m_isHour, m_isKind, m_isSheet, m_w, c_rN, c_rN2, cB, cF, cK, cN, cS, cM, cZ, mB, mF, mK, mN, mS, mM, mZ, h1, m_isOne hm hv]
    refine ⟨_, _, rfl, rfl, rfl, ?_⟩; exact ⟨v, e, hv, he, hm, hd, ⟨rfl, hlb, rfl, hls, rfl, hld, rfl, rfl, rfl⟩, hs, ht, hk0, hk1, hk2, (rf_step hf 0 (by decide)), hp, sa, sb, sc, sd⟩
/-- odds that a person wore a mask -/
def odS (v : Nat → Nat) (m p h : Nat) : Nat → Nat := smn (fun n => if wr v n h m = p then wt v n else 0)
theorem odS_s (v : Nat → Nat) (m p h k : Nat) : odS v m p h (k + 1) = odS v m p h k + (if wr v k h m = p then wt v k else 0) := rfl
theorem c_od6 {v : Nat → Nat} {stepsAt w rows : Nat → Int32} (hv : Vd v) (hs : ∀ h, h < 100 → stepsAt h = nI (sts v h)) (hw : CW v w) (hR : ∀ n, n < nn v → 0 < wgt v n → RR v rows n (v 3)) {m p h : Nat} (hm : m < 8) (hp : p < 8) (hh : h < 100) : ∀ d f k, k + d = nn v → d < f → f_X2_oddsOf_6 (nI m) (nI p) (nI h) stepsAt w rows (nI (dc v)) f (lN (odS v m p h k)) (nI k) = some (lN (odS v m p h (nn v)))
  | 0, f, k, hk, hf => by
    have h64 := nn_le hv
    cases f with
    | zero => omega
    | succ f =>
      unfold f_X2_oddsOf_6
      rw [c_size hv, bd_s, if_pos (nI_le (by omega) (by omega)), show k = nn v by omega]
  | d + 1, f, k, hk, hf => by
    have h64 := nn_le hv
    have hwk := wt_le hv k
    cases f with
    | zero => omega
    | succ f =>
      have ih := c_od6 hv hs hw hR hm hp hh d f (k + 1) (by omega) (by omega)
      have hl := wr_lt hv k h hm
      unfold f_X2_oddsOf_6
      rw [c_size hv, bd_s, if_neg (nI_ge (by omega) (by omega)), c_row hs hv (by omega) hh, bd_s, ← ih, odS_s]
      by_cases q : 0 < wt v k
      · rw [c_wr hv (hR k (by omega) (wt_wgt q)) hm, bd_s, c_weight hv hw (by omega), bd_s, nI_l (by omega), lN_add, nI_1]
        by_cases qp : wr v k h m = p
        · rw [if_pos (by rw [qp]), bd_s, if_pos qp]
        · rw [if_neg (fun z => qp ((nI_eq (by omega) (by omega)).mp z)), bd_s, if_neg qp, Nat.add_zero (odS v m p h k)]
      · rw [show wt v k = 0 by omega]
        unfold f_X7_wearer
        rw [bd_s, c_weight hv hw (by omega), bd_s, nI_l (by omega), lN_add, nI_1, show wt v k = 0 by omega]
        rw [show (if wr v k h m = p then 0 else 0) = 0 by split <;> rfl, Nat.add_zero (odS v m p h k)]
        split <;> rfl
theorem c_od {v : Nat → Nat} {stepsAt w rows : Nat → Int32} (hv : Vd v) (hs : ∀ h, h < 100 → stepsAt h = nI (sts v h)) (hw : CW v w) (hR : ∀ n, n < nn v → 0 < wgt v n → RR v rows n (v 3)) {m p h N : Nat} (hN : 2000 ≤ N) (hm : m < 8) (hp : p < 8) (hh : h < 100) : f_X2_oddsOf N stepsAt w rows (nI (dc v)) (nI m) (nI p) (nI h) = some (lN (odS v m p h (nn v))) := by
  have h64 := nn_le hv
  unfold f_X2_oddsOf
  rw [show f_X2_oddsOf_6 (nI m) (nI p) (nI h) stepsAt w rows (nI (dc v)) N (0 : Int64) (0 : Int32) = some (lN (odS v m p h (nn v))) from c_od6 hv hs hw hR hm hp hh (nn v) N 0 (by omega) (by omega), bd_s]
theorem m_od42 {v : Nat → Nat} {now : Nat → Int32} (h : RN v now) (hv : Vd v) {N : Nat} (hN : 2000 ≤ N) {order doubts : Nat → Int32} {W : Nat → Int64} (hl : ML v order doubts (nI (dc v))) (hw : MW v W) {m pp hh : Nat} (hm : m < 8) (hp8 : pp < 8) (hh1 : hh < 2 ^ 31) : ∀ d f k (worn : Nat → Int32) (pairs : Int64) (tw : Int32), k + d = nn v → d < f →
    ∃ w p t, f_X8_odds_42 N (nI m) (nI pp) (nI hh) now order doubts (nI (dc v)) W f (lN (odS v m pp hh k)) (nI k) worn pairs tw = some (lN (odS v m pp hh (nn v)), w, p, t)
  | 0, f, k, worn, pairs, tw, hk, hf => by
    have h64 := nn_le hv
    cases f with
    | zero => omega
    | succ f =>
      refine ⟨worn, pairs, tw, ?_⟩
      unfold f_X8_odds_42
      rw [n_there hv, bd_s, if_pos (nI_le (by omega) (by omega)), show k = nn v by omega]
  | d + 1, f, k, worn, pairs, tw, hk, hf => by
    have h64 := nn_le hv
    have hwk := wt_le hv k
    cases f with
    | zero => omega
    | succ f =>
      obtain ⟨w1, p1, t1, e1, e2⟩ := m_goes h hv hN hl (n := k) (by omega) hh1 worn pairs tw
      obtain ⟨w, p, t, g⟩ := m_od42 h hv hN hl hw hm hp8 hh1 d f (k + 1) w1 p1 t1 (by omega) (by omega)
      refine ⟨w, p, t, ?_⟩
      have hl8 := wr_lt hv k hh hm
      have ew : w1 m = nI (wr v k hh m) := e2.1 m hm
      unfold f_X8_odds_42
      rw [n_there hv, bd_s, if_neg (nI_ge (by omega) (by omega)), e1, bd_s, gd_ix hm (by decide), nI_clamp (by omega)]
      simp only [ew]
      rw [← g, odS_s]
      by_cases qp : wr v k hh m = pp
      · rw [if_pos (by rw [qp]), gd_ix (by omega) (by decide), bd_s, nI_clamp (by omega), hw k (by omega), if_pos qp, lN_add, nI_1]
      · rw [if_neg (fun z => qp ((nI_eq (by omega) (by omega)).mp z)), bd_s, if_neg qp, show (0 : Int64) = lN 0 from rfl, lN_add, nI_1]
set_option maxHeartbeats 16000000 in
theorem op_odds {N : Nat} (hN : 2000 ≤ N) : Op_odds Rl N := by
  intro C_isKept C_l_bsize C_l_bcells C_l_ssize C_l_scells C_l_dsize C_l_dcells C_l_people C_l_rule C_l_believed C_k_bsize C_k_bcells C_k_ssize C_k_scells C_k_dsize C_k_dcells C_k_people C_k_rule C_k_believed C_d_bsize C_d_bcells C_d_ssize C_d_scells C_d_dsize C_d_dcells C_d_people C_d_rule C_d_believed C_order C_stepsAt C_doubts C_weights C_rows C_metEver C_bowedTo C_isStale C_bowCount C_doubtCount C_seenBows C_likeliest C_mostSayingsSo C_doers C_isTelling C_tbytes C_tlen C_token C_place C_behindIt C_value C_sa_nums C_sa_bits C_sa_len C_sb_nums C_sb_bits C_sb_len C_sc_nums C_sc_bits C_sc_len C_sd_nums C_sd_bits C_sd_len C_findings M_now M_kept M_isKept M_found M_order M_doubts M_doubtMany M_weights M_worn M_pairs M_isTwice M_doer M_doneTo M_doers M_tape M_taped M_begins M_ends M_sort M_value M_isWrong M_items M_itemMany M_bowThen M_doubtThen M_deedThen M_sayingThen M_widths M_sizes M_numbers M_moved a1 a2 a3 hR 
  obtain ⟨v, e, hv, he, hm, hd, hl, hs, ht, hk0, hk1, hk2, hf, hp, sa, sb, sc, sd⟩ := hR
  obtain ⟨rfl, hlb, rfl, hls, rfl, hld, rfl, rfl, rfl⟩ := hl
  have h8 := vd_hi hv
  have h64 := nn_le hv
  by_cases h1 : inr a1 (v 0) = true
  · by_cases h3 : inr a2 (v 0) = true
    · by_cases h2 : inr a3 100 = true
      · obtain ⟨m, hm8, rfl⟩ := inr_t (by omega) h1
        obtain ⟨p, hp8, rfl⟩ := inr_t (by omega) h3
        obtain ⟨h, hh, rfl⟩ := inr_t (by decide) h2
        obtain ⟨o_, s_, d_, w_, r_, m_, b_, k_, n_, q_, l_, x_, ef, tb⟩ := c_look hlb hls hv hN C_order C_stepsAt C_doubts C_weights C_rows C_metEver C_bowedTo C_isStale C_bowCount C_doubtCount C_seenBows C_likeliest C_mostSayingsSo hs ht
        have tbb := tb
        obtain ⟨tb1, tb2, rfl, tb4, rfl, tb6, tb7, tb8, rfl, rfl⟩ := tb
        obtain ⟨mo, md, mw, mwo, mp, mt, em, ml, mW⟩ := m_weigh hm hv hN M_order M_doubts M_doubtMany M_weights M_worn M_pairs M_isTwice
        obtain ⟨w2, p2, t2, g⟩ := m_od42 hm hv hN ml mW (m := m) (pp := p) (hh := h) (by omega) (by omega) (by omega) (nn v) N 0 mwo mp mt (by omega) (by omega)
        have g' : f_X8_odds_42 N (nI m) (nI p) (nI h) M_now mo md (nI (dc v)) mw N (lN 0) (nI 0) mwo mp mt = some (lN (odS v m p h (nn v)), w2, p2, t2) := g
        simp (disch := omega) only [f_X7_odds, f_X8_odds, bd_s, gd_tt, jn_s, lit32, gd_ix, nI_clamp, nI_add, pk_mul, nI_leI, nI_ltI, nI_eq, b2_0n, ite_f, ↓reduceIte, Bool.false_eq_true, Bool.true_eq_false, Nat.not_lt_zero, isb_b2, c_has, c_isHour, c_isKind, c_isPerson, m_isHour, m_isKind, m_isSheet, m_w, c_rN, c_rN2, cB, cF, cK, cN, cS, cM, cZ, mB, mF, mK, mN, mS, mM, mZ, litL, h1, h2, h3, m_isOne hm hv, ef, em, c_od hv tb2 tb6 tb7 hN (show m < 8 by omega) (show p < 8 by omega) hh, g']
        refine ⟨_, _, rfl, rfl, rfl, ?_⟩; exact ⟨v, e, hv, he, hm, hd, ⟨rfl, hlb, rfl, hls, rfl, hld, rfl, rfl, rfl⟩, Or.inl rfl, fun _ => tbb, hk0, hk1, hk2, hf, hp, sa, sb, sc, sd⟩
      · have h2 := inr_fp h2
        simp (disch := omega) only [f_X7_odds, f_X8_odds, bd_s, gd_tt, jn_s, lit32, gd_ix, nI_clamp, nI_add, pk_mul, nI_leI, nI_ltI, nI_eq, b2_0n, ite_f, ↓reduceIte, Bool.false_eq_true, Bool.true_eq_false, Nat.not_lt_zero, isb_b2, c_has, c_isHour, c_isKind, c_isPerson, m_isHour, m_isKind, m_isSheet, m_w, c_rN, c_rN2, cB, cF, cK, cN, cS, cM, cZ, mB, mF, mK, mN, mS, mM, mZ, h1, h2, h3, m_isOne hm hv]
        refine ⟨_, _, rfl, rfl, rfl, ?_⟩; exact ⟨v, e, hv, he, hm, hd, ⟨rfl, hlb, rfl, hls, rfl, hld, rfl, rfl, rfl⟩, hs, ht, hk0, hk1, hk2, (rf_step hf 0 (by decide)), hp, sa, sb, sc, sd⟩
    · have h3 := inr_fp h3
      simp (disch := omega) only [f_X7_odds, f_X8_odds, bd_s, gd_tt, jn_s, lit32, gd_ix, nI_clamp, nI_add, pk_mul, nI_leI, nI_ltI, nI_eq, b2_0n, ite_f, ↓reduceIte, Bool.false_eq_true, Bool.true_eq_false, Nat.not_lt_zero, isb_b2, c_has, c_isHour, c_isKind, c_isPerson, m_isHour, m_isKind, m_isSheet, m_w, c_rN, c_rN2, cB, cF, cK, cN, cS, cM, cZ, mB, mF, mK, mN, mS, mM, mZ, h1, h3, m_isOne hm hv]
      refine ⟨_, _, rfl, rfl, rfl, ?_⟩; exact ⟨v, e, hv, he, hm, hd, ⟨rfl, hlb, rfl, hls, rfl, hld, rfl, rfl, rfl⟩, hs, ht, hk0, hk1, hk2, (rf_step hf 0 (by decide)), hp, sa, sb, sc, sd⟩
  · have h1 := inr_fp h1
    simp (disch := omega) only [f_X7_odds, f_X8_odds, bd_s, gd_tt, jn_s, lit32, gd_ix, nI_clamp, nI_add, pk_mul, nI_leI, nI_ltI, nI_eq, b2_0n, ite_f, ↓reduceIte, Bool.false_eq_true, Bool.true_eq_false, Nat.not_lt_zero, isb_b2, c_has, c_isHour, c_isKind, c_isPerson, m_isHour, m_isKind, m_isSheet, m_w, c_rN, c_rN2, cB, cF, cK, cN, cS, cM, cZ, mB, mF, mK, mN, mS, mM, mZ, h1, m_isOne hm hv]
    refine ⟨_, _, rfl, rfl, rfl, ?_⟩; exact ⟨v, e, hv, he, hm, hd, ⟨rfl, hlb, rfl, hls, rfl, hld, rfl, rfl, rfl⟩, hs, ht, hk0, hk1, hk2, (rf_step hf 0 (by decide)), hp, sa, sb, sc, sd⟩
