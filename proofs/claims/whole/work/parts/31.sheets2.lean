/-! ===== ledger, read ===== -/
def nmin (a b : Nat) : Nat := if a < b then a else b
theorem nI_min {a b : Nat} (ha : a < 2 ^ 31) (hb : b < 2 ^ 31) : (if nI a < nI b then nI a else nI b) = nI (nmin a b) := by
  unfold nmin
  by_cases q : a < b
  · rw [if_pos (nI_lt q hb), if_pos q]
  · rw [if_neg (nI_nlt (by omega) ha), if_neg q]
theorem nmin_le (a b : Nat) : nmin a b ≤ a ∧ nmin a b ≤ b := by unfold nmin; split <;> omega
theorem m_lg52 {s m : Nat} {worn : Nat → Int32} {w : Nat → Nat} (hs : s < 4) (hm : m ≤ 8) (hw : ∀ j, j < 8 → worn j = nI (w j) ∧ w j < 8) : ∀ d f k (Q : Nat → Int64), k + d = m → d < f → ∃ r, f_X8_ledger_52 (nI s) (nI m) worn f (nI k) Q = some r ∧ (∀ j, k ≤ j → j < m → r (40 * s + j) = lN (w j)) ∧ ∀ i, (i < 40 * s + k ∨ 40 * s + m ≤ i) → r i = Q i
  | 0, f, k, Q, hk, hf => by
    cases f with
    | zero => omega
    | succ f =>
      refine ⟨Q, ?_, fun j h1 h2 => by omega, fun i _ => rfl⟩
      unfold f_X8_ledger_52
      rw [if_pos (nI_le (by omega) (by omega))]
  | d + 1, f, k, Q, hk, hf => by
    cases f with
    | zero => omega
    | succ f =>
      obtain ⟨w1, w2⟩ := hw k (by omega)
      obtain ⟨r, g1, g2, g3⟩ := m_lg52 hs hm hw d f (k + 1) (vp_updL Q (40 * s + k) (lN (w k))) (by omega) (by omega)
      refine ⟨r, ?_, fun j h1 h2 => ?_, fun i hi => ?_⟩
      · unfold f_X8_ledger_52
        rw [if_neg (nI_ge (by omega) (by omega)), gd_ix (by omega) (by decide), show (40 : Int32) = nI 40 from rfl, pk_mul, nI_add, gd_ix (by omega) (by decide), nI_clamp (by omega), nI_clamp (by omega), w1, nI_l (by omega), nI_1]
        exact g1
      · by_cases e : j = k
        · rw [e, g3 _ (by omega), pk_uLs]
        · exact g2 j (by omega) h2
      · rw [g3 i (by omega), pk_uLn (by omega)]
theorem cut_small {w x : Nat} (hx : x < 8) (hw : w = 0 ∨ w = 8 ∨ w = 16 ∨ w = 64) : cutv w (lN x) = lN x := by
  have h8 : ∀ x : Fin 8, (lN x.val).toInt32.toInt8.toInt32.toInt64 = lN x.val := by decide
  have h16 : ∀ x : Fin 8, (lN x.val).toInt32.toInt16.toInt32.toInt64 = lN x.val := by decide
  unfold cutv
  rcases hw with rfl | rfl | rfl | rfl
  · rfl
  · exact h8 ⟨x, hx⟩
  · exact h16 ⟨x, hx⟩
  · rfl
theorem c_lga {m n wd : Nat} {row sb sbl sc scl sd sdl : Int32} {w : Nat → Nat} (hR : RW w row) (hm : m ≤ n) (hn : n ≤ 40) (hm8 : m ≤ 8) (hwd : wd = 0 ∨ wd = 8 ∨ wd = 16 ∨ wd = 64) (hw : ∀ j, j < 8 → w j < 8) : ∀ d f k (a b c e : Nat → Int64), k + d = m → d < f → ∃ r, f_X7_ledger_73a row (nI m) (nI wd) (nI n) sb sbl sc scl sd sdl f (nI k) a b c e = some (r, b, c, e) ∧ (∀ j, k ≤ j → j < m → r j = lN (w j)) ∧ ∀ i, (i < k ∨ m ≤ i) → r i = a i
  | 0, f, k, a, b, c, e, hk, hf => by
    cases f with
    | zero => omega
    | succ f =>
      refine ⟨a, ?_, fun j h1 h2 => by omega, fun i _ => rfl⟩
      unfold f_X7_ledger_73a
      rw [if_pos (nI_le (by omega) (by omega))]
  | d + 1, f, k, a, b, c, e, hk, hf => by
    cases f with
    | zero => omega
    | succ f =>
      have w2 := hw k (by omega)
      obtain ⟨r, g1, g2, g3⟩ := c_lga hR hm hn hm8 hwd hw d f (k + 1) (vp_updL a k (lN (w k))) b c e (by omega) (by omega)
      refine ⟨r, ?_, fun j h1 h2 => ?_, fun i hi => ?_⟩
      · unfold f_X7_ledger_73a
        rw [if_neg (nI_ge (by omega) (by omega)), c_wearer hR (by omega) w2, bd_s, nI_l (by omega), c_putS (by omega) hn (by omega), bd_s, cut_small w2 hwd, nI_1]
        exact g1
      · by_cases e : j = k
        · rw [e, g3 _ (by omega), pk_uLs]
        · exact g2 j (by omega) h2
      · rw [g3 i (by omega), pk_uLn (by omega)]
theorem c_lgb {m n wd : Nat} {row sb sbl sc scl sd sdl : Int32} {w : Nat → Nat} (hR : RW w row) (hm : m ≤ n) (hn : n ≤ 40) (hm8 : m ≤ 8) (hwd : wd = 0 ∨ wd = 8 ∨ wd = 16 ∨ wd = 64) (hw : ∀ j, j < 8 → w j < 8) : ∀ d f k (a b c e : Nat → Int64), k + d = m → d < f → ∃ r, f_X7_ledger_73b row (nI m) sb sbl (nI wd) (nI n) sc scl sd sdl f (nI k) a b c e = some (a, r, c, e) ∧ (∀ j, k ≤ j → j < m → r j = lN (w j)) ∧ ∀ i, (i < k ∨ m ≤ i) → r i = b i
  | 0, f, k, a, b, c, e, hk, hf => by
    cases f with
    | zero => omega
    | succ f =>
      refine ⟨b, ?_, fun j h1 h2 => by omega, fun i _ => rfl⟩
      unfold f_X7_ledger_73b
      rw [if_pos (nI_le (by omega) (by omega))]
  | d + 1, f, k, a, b, c, e, hk, hf => by
    cases f with
    | zero => omega
    | succ f =>
      have w2 := hw k (by omega)
      obtain ⟨r, g1, g2, g3⟩ := c_lgb hR hm hn hm8 hwd hw d f (k + 1) a (vp_updL b k (lN (w k))) c e (by omega) (by omega)
      refine ⟨r, ?_, fun j h1 h2 => ?_, fun i hi => ?_⟩
      · unfold f_X7_ledger_73b
        rw [if_neg (nI_ge (by omega) (by omega)), c_wearer hR (by omega) w2, bd_s, nI_l (by omega), c_putS (by omega) hn (by omega), bd_s, cut_small w2 hwd, nI_1]
        exact g1
      · by_cases e : j = k
        · rw [e, g3 _ (by omega), pk_uLs]
        · exact g2 j (by omega) h2
      · rw [g3 i (by omega), pk_uLn (by omega)]
theorem c_lgc {m n wd : Nat} {row sb sbl sc scl sd sdl : Int32} {w : Nat → Nat} (hR : RW w row) (hm : m ≤ n) (hn : n ≤ 40) (hm8 : m ≤ 8) (hwd : wd = 0 ∨ wd = 8 ∨ wd = 16 ∨ wd = 64) (hw : ∀ j, j < 8 → w j < 8) : ∀ d f k (a b c e : Nat → Int64), k + d = m → d < f → ∃ r, f_X7_ledger_73c row (nI m) sb sbl sc scl (nI wd) (nI n) sd sdl f (nI k) a b c e = some (a, b, r, e) ∧ (∀ j, k ≤ j → j < m → r j = lN (w j)) ∧ ∀ i, (i < k ∨ m ≤ i) → r i = c i
  | 0, f, k, a, b, c, e, hk, hf => by
    cases f with
    | zero => omega
    | succ f =>
      refine ⟨c, ?_, fun j h1 h2 => by omega, fun i _ => rfl⟩
      unfold f_X7_ledger_73c
      rw [if_pos (nI_le (by omega) (by omega))]
  | d + 1, f, k, a, b, c, e, hk, hf => by
    cases f with
    | zero => omega
    | succ f =>
      have w2 := hw k (by omega)
      obtain ⟨r, g1, g2, g3⟩ := c_lgc hR hm hn hm8 hwd hw d f (k + 1) a b (vp_updL c k (lN (w k))) e (by omega) (by omega)
      refine ⟨r, ?_, fun j h1 h2 => ?_, fun i hi => ?_⟩
      · unfold f_X7_ledger_73c
        rw [if_neg (nI_ge (by omega) (by omega)), c_wearer hR (by omega) w2, bd_s, nI_l (by omega), c_putS (by omega) hn (by omega), bd_s, cut_small w2 hwd, nI_1]
        exact g1
      · by_cases e : j = k
        · rw [e, g3 _ (by omega), pk_uLs]
        · exact g2 j (by omega) h2
      · rw [g3 i (by omega), pk_uLn (by omega)]
theorem c_lgd {m n wd : Nat} {row sb sbl sc scl sd sdl : Int32} {w : Nat → Nat} (hR : RW w row) (hm : m ≤ n) (hn : n ≤ 40) (hm8 : m ≤ 8) (hwd : wd = 0 ∨ wd = 8 ∨ wd = 16 ∨ wd = 64) (hw : ∀ j, j < 8 → w j < 8) : ∀ d f k (a b c e : Nat → Int64), k + d = m → d < f → ∃ r, f_X7_ledger_73d row (nI m) sb sbl sc scl sd sdl (nI wd) (nI n) f (nI k) a b c e = some (a, b, c, r) ∧ (∀ j, k ≤ j → j < m → r j = lN (w j)) ∧ ∀ i, (i < k ∨ m ≤ i) → r i = e i
  | 0, f, k, a, b, c, e, hk, hf => by
    cases f with
    | zero => omega
    | succ f =>
      refine ⟨e, ?_, fun j h1 h2 => by omega, fun i _ => rfl⟩
      unfold f_X7_ledger_73d
      rw [if_pos (nI_le (by omega) (by omega))]
  | d + 1, f, k, a, b, c, e, hk, hf => by
    cases f with
    | zero => omega
    | succ f =>
      have w2 := hw k (by omega)
      obtain ⟨r, g1, g2, g3⟩ := c_lgd hR hm hn hm8 hwd hw d f (k + 1) a b c (vp_updL e k (lN (w k))) (by omega) (by omega)
      refine ⟨r, ?_, fun j h1 h2 => ?_, fun i hi => ?_⟩
      · unfold f_X7_ledger_73d
        rw [if_neg (nI_ge (by omega) (by omega)), c_wearer hR (by omega) w2, bd_s, nI_l (by omega), c_putS (by omega) hn (by omega), bd_s, cut_small w2 hwd, nI_1]
        exact g1
      · by_cases e : j = k
        · rw [e, g3 _ (by omega), pk_uLs]
        · exact g2 j (by omega) h2
      · rw [g3 i (by omega), pk_uLn (by omega)]
theorem m_ref {W : Nat → Int32} {s w hour : Nat} (hs : s < 4) (hW : W s = nI w) (hw : w < 2 ^ 31) (a2 : Int32) : f_X8_refuses W (nI s) a2 = some (if w = 0 then -nI 1000000006 else if inr a2 100 = true then nI 0 else -nI 1000000001) := by
  unfold f_X8_refuses
  rw [m_isSheet, inr_nI (by omega), decide_eq_true hs, bd_s, if_neg (by decide), gd_ix hs (by decide), nI_clamp (by omega), hW]
  by_cases q : w = 0
  · rw [q]; rfl
  · rw [if_neg (show ¬ nI w = (0 : Int32) from fun z => q ((nI_eq (b := 0) hw (by decide)).mp z)), if_neg q, m_isHour, bd_s]
    cases inr a2 100 <;> rfl
theorem c_refa {b0 b1 b2' b3 : Int32} {w : Nat} (hb : b0 = nI w) (hw : w < 2 ^ 31) (a2 : Int32) : f_X7_findingOfSheetAndHour b0 b1 b2' b3 (nI 0) a2 = some (if w = 0 then -nI 1000000006 else if inr a2 100 = true then nI 0 else -nI 1000000001) := by
  subst hb
  simp (disch := omega) only [f_X7_findingOfSheetAndHour, bd_s, gd_tt, jn_s, lit32, gd_ix, nI_clamp, nI_add, pk_mul, nI_leI, nI_ltI, nI_eq, b2_0n, ite_f, ↓reduceIte, Bool.false_eq_true, Bool.true_eq_false, Nat.not_lt_zero, isb_b2, c_has, c_isHour, c_isKind, c_isPerson, m_isHour, m_isKind, m_isSheet, m_w, c_rN, c_rN2, cB, cF, cK, cN, cS, cM, cZ, mB, mF, mK, mN, mS, mM, mZ, c_miss, if_neg]
  by_cases q : w = 0
  · rw [decide_eq_true q, if_pos q]; rfl
  · rw [decide_eq_false q, if_neg q]
    cases inr a2 100 <;> rfl
theorem c_refb {b0 b1 b2' b3 : Int32} {w : Nat} (hb : b1 = nI w) (hw : w < 2 ^ 31) (a2 : Int32) : f_X7_findingOfSheetAndHour b0 b1 b2' b3 (nI 1) a2 = some (if w = 0 then -nI 1000000006 else if inr a2 100 = true then nI 0 else -nI 1000000001) := by
  subst hb
  simp (disch := omega) only [f_X7_findingOfSheetAndHour, bd_s, gd_tt, jn_s, lit32, gd_ix, nI_clamp, nI_add, pk_mul, nI_leI, nI_ltI, nI_eq, b2_0n, ite_f, ↓reduceIte, Bool.false_eq_true, Bool.true_eq_false, Nat.not_lt_zero, isb_b2, c_has, c_isHour, c_isKind, c_isPerson, m_isHour, m_isKind, m_isSheet, m_w, c_rN, c_rN2, cB, cF, cK, cN, cS, cM, cZ, mB, mF, mK, mN, mS, mM, mZ, c_miss, if_neg]
  by_cases q : w = 0
  · rw [decide_eq_true q, if_pos q]; rfl
  · rw [decide_eq_false q, if_neg q]
    cases inr a2 100 <;> rfl
theorem c_refc {b0 b1 b2' b3 : Int32} {w : Nat} (hb : b2' = nI w) (hw : w < 2 ^ 31) (a2 : Int32) : f_X7_findingOfSheetAndHour b0 b1 b2' b3 (nI 2) a2 = some (if w = 0 then -nI 1000000006 else if inr a2 100 = true then nI 0 else -nI 1000000001) := by
  subst hb
  simp (disch := omega) only [f_X7_findingOfSheetAndHour, bd_s, gd_tt, jn_s, lit32, gd_ix, nI_clamp, nI_add, pk_mul, nI_leI, nI_ltI, nI_eq, b2_0n, ite_f, ↓reduceIte, Bool.false_eq_true, Bool.true_eq_false, Nat.not_lt_zero, isb_b2, c_has, c_isHour, c_isKind, c_isPerson, m_isHour, m_isKind, m_isSheet, m_w, c_rN, c_rN2, cB, cF, cK, cN, cS, cM, cZ, mB, mF, mK, mN, mS, mM, mZ, c_miss, if_neg]
  by_cases q : w = 0
  · rw [decide_eq_true q, if_pos q]; rfl
  · rw [decide_eq_false q, if_neg q]
    cases inr a2 100 <;> rfl
theorem c_refd {b0 b1 b2' b3 : Int32} {w : Nat} (hb : b3 = nI w) (hw : w < 2 ^ 31) (a2 : Int32) : f_X7_findingOfSheetAndHour b0 b1 b2' b3 (nI 3) a2 = some (if w = 0 then -nI 1000000006 else if inr a2 100 = true then nI 0 else -nI 1000000001) := by
  subst hb
  simp (disch := omega) only [f_X7_findingOfSheetAndHour, bd_s, gd_tt, jn_s, lit32, gd_ix, nI_clamp, nI_add, pk_mul, nI_leI, nI_ltI, nI_eq, b2_0n, ite_f, ↓reduceIte, Bool.false_eq_true, Bool.true_eq_false, Nat.not_lt_zero, isb_b2, c_has, c_isHour, c_isKind, c_isPerson, m_isHour, m_isKind, m_isSheet, m_w, c_rN, c_rN2, cB, cF, cK, cN, cS, cM, cZ, mB, mF, mK, mN, mS, mM, mZ, c_miss, if_neg]
  by_cases q : w = 0
  · rw [decide_eq_true q, if_pos q]; rfl
  · rw [decide_eq_false q, if_neg q]
    cases inr a2 100 <;> rfl
set_option maxHeartbeats 16000000 in
theorem op_ledger {N : Nat} (hN : 2000 ≤ N) : Op_ledger Rl N := by
  intro C_isKept C_l_bsize C_l_bcells C_l_ssize C_l_scells C_l_dsize C_l_dcells C_l_people C_l_rule C_l_believed C_k_bsize C_k_bcells C_k_ssize C_k_scells C_k_dsize C_k_dcells C_k_people C_k_rule C_k_believed C_d_bsize C_d_bcells C_d_ssize C_d_scells C_d_dsize C_d_dcells C_d_people C_d_rule C_d_believed C_order C_stepsAt C_doubts C_weights C_rows C_metEver C_bowedTo C_isStale C_bowCount C_doubtCount C_seenBows C_likeliest C_mostSayingsSo C_doers C_isTelling C_tbytes C_tlen C_token C_place C_behindIt C_value C_sa_nums C_sa_bits C_sa_len C_sb_nums C_sb_bits C_sb_len C_sc_nums C_sc_bits C_sc_len C_sd_nums C_sd_bits C_sd_len C_findings M_now M_kept M_isKept M_found M_order M_doubts M_doubtMany M_weights M_worn M_pairs M_isTwice M_doer M_doneTo M_doers M_tape M_taped M_begins M_ends M_sort M_value M_isWrong M_items M_itemMany M_bowThen M_doubtThen M_deedThen M_sayingThen M_widths M_sizes M_numbers M_moved a1 a2 hR 
  obtain ⟨v, e, hv, he, hm, hd, hl, hs, ht, hk0, hk1, hk2, hf, hp, sa, sb, sc, sd⟩ := hR
  have h8 := vd_hi hv
  have h64 := nn_le hv
  have hl' := hl
  have k0 : M_now 0 = nI (v 0) := rn_at hm (by omega) (by omega) (by omega)
  by_cases h1 : inr a1 4 = true
  · obtain ⟨s, hs4, rfl⟩ := inr_t (by decide) h1
    have hs4' : s = 0 ∨ s = 1 ∨ s = 2 ∨ s = 3 := by omega
    rcases hs4' with rfl | rfl | rfl | rfl
    · have hS := sa
      obtain ⟨w, n, q1, q2, q3, q4, q5, q6, q7, q8⟩ := hS
      have hw := rs_w q2
      have r1 := c_refa (b0 := C_sa_bits) (b1 := C_sb_bits) (b2' := C_sc_bits) (b3 := C_sd_bits) q4 hw a2
      have r2 := m_ref (hour := 0) hs4 q5 hw a2
      by_cases qw : w = 0
      · rw [if_pos qw] at r1 r2
        have hz : ¬ -nI 1000000006 = nI 0 := by decide
        simp (disch := omega) only [f_X7_ledger, f_X8_ledger, bd_s, gd_tt, jn_s, lit32, gd_ix, nI_clamp, nI_add, pk_mul, nI_leI, nI_ltI, nI_eq, b2_0n, ite_f, ↓reduceIte, Bool.false_eq_true, Bool.true_eq_false, Nat.not_lt_zero, isb_b2, c_has, c_isHour, c_isKind, c_isPerson, m_isHour, m_isKind, m_isSheet, m_w, c_rN, c_rN2, cB, cF, cK, cN, cS, cM, cZ, mB, mF, mK, mN, mS, mM, mZ, r1, r2, hz]
        refine ⟨_, _, rfl, rfl, rfl, ?_⟩; exact ⟨v, e, hv, he, hm, hd, hl, hs, ht, hk0, hk1, hk2, (rf_step hf 5 (by decide)), hp, sa, sb, sc, sd⟩
      · rw [if_neg qw] at r1 r2
        by_cases h2 : inr a2 100 = true
        · obtain ⟨h, hh, rfl⟩ := inr_t (by decide) h2
          rw [if_pos h2] at r1 r2
          obtain ⟨rfl, hlb, rfl, hls, rfl, hld, rfl, rfl, rfl⟩ := hl
          obtain ⟨o_, s_, d_, w_, r_, m_, b_, k_, n_, q_, l_, x_, ef, tb⟩ := c_look hlb hls hv hN C_order C_stepsAt C_doubts C_weights C_rows C_metEver C_bowedTo C_isStale C_bowCount C_doubtCount C_seenBows C_likeliest C_mostSayingsSo hs ht
          have tbb := tb
          obtain ⟨tb1, tb2, rfl, tb4, rfl, tb6, tb7, tb8, rfl, rfl⟩ := tb
          obtain ⟨mo, md, mw, mwo, mp, mt, em, ml, mW, mS⟩ := m_goesL hm hv hN M_order M_doubts M_doubtMany M_weights M_worn M_pairs M_isTwice (hour := h) hh
          cases hk : lkl v with
          | none =>
            have es : f_X2_someHolds (-nI 1) = some (b2 false) := by have := c_some hv; rw [hk] at this; exact this
            rw [hk] at em
            simp (disch := omega) only [f_X7_ledger, f_X8_ledger, bd_s, gd_tt, jn_s, lit32, gd_ix, nI_clamp, nI_add, pk_mul, nI_leI, nI_ltI, nI_eq, b2_0n, ite_f, ↓reduceIte, Bool.false_eq_true, Bool.true_eq_false, Nat.not_lt_zero, isb_b2, c_has, c_isHour, c_isKind, c_isPerson, m_isHour, m_isKind, m_isSheet, m_w, c_rN, c_rN2, cB, cF, cK, cN, cS, cM, cZ, mB, mF, mK, mN, mS, mM, mZ, r1, r2, ef, em, es, hk, show lkI none = -nI 1 from rfl, Option.isSome_none, if_neg]
            rw [hk] at tbb
            refine ⟨_, _, rfl, rfl, rfl, ?_⟩; exact ⟨v, e, hv, he, hm, hd, ⟨rfl, hlb, rfl, hls, rfl, hld, rfl, rfl, rfl⟩, Or.inl rfl, fun _ => tbb, hk0, hk1, hk2, (rf_step hf 3 (by decide)), hp, sa, sb, sc, sd⟩
          | some nt =>
            have hn := lkl_lt hk
            have es : f_X2_someHolds (nI nt) = some (b2 true) := by have := c_some hv; rw [hk] at this; exact this
            have hS := mS nt hk
            have hR := tb7 nt hn (wt_wgt (lkl_pos hk))
            have e1 := c_likRow (rows := r_) tb2 hv (show nt < 64 by omega) hh
            have hmn := nmin_le (v 0) n
            have hwr : ∀ j, j < 8 → wr v nt h j < 8 := fun j hj => wr_lt hv nt h hj
            obtain ⟨r, g1, g2, g3⟩ := c_lga (sb := C_sb_bits) (sbl := C_sb_len) (sc := C_sc_bits) (scl := C_sc_len) (sd := C_sd_bits) (sdl := C_sd_len) (hR _ (sts_le v h)) hmn.2 q1 (show nmin (v 0) n ≤ 8 by omega) q2 hwr (nmin (v 0) n) N 0 C_sa_nums C_sb_nums C_sc_nums C_sd_nums (by omega) (by omega)
            obtain ⟨Q, f1, f2, f3⟩ := m_lg52 (w := wr v nt h) hs4 (show nmin (v 0) n ≤ 8 by omega) (fun j hj => ⟨hS.1 j hj, hwr j hj⟩) (nmin (v 0) n) N 0 M_numbers (by omega) (by omega)
            rw [hk] at em
            rw [← q4] at g1
            rw [← q6] at g1
            have hmm : (if nI (v 0) < C_sa_len then nI (v 0) else C_sa_len) = nI (nmin (v 0) n) := by rw [q6]; exact nI_min (by omega) (by omega)
            have hmm2 : (if nI (v 0) < nI n then nI (v 0) else nI n) = nI (nmin (v 0) n) := nI_min (by omega) (by omega)
            simp (disch := omega) only [f_X7_ledger, f_X8_ledger, bd_s, jn_s, lit32, gd_ix, nI_clamp, nI_eq, b2_0n, ↓reduceIte, Bool.false_eq_true, Bool.true_eq_false, r1, r2, ef, em, es, hk, show lkI (some nt) = nI nt from rfl, Option.isSome_some, e1, f_X5_length, hmm, g1, k0, q7, hmm2, f1, if_neg]
            rw [hk] at tbb
            refine ⟨_, _, rfl, rfl, rfl, ?_⟩
            have hNn : RS 0 r C_sa_bits C_sa_len M_widths M_sizes Q := ⟨w, n, q1, q2, q3, q4, q5, q6, q7, fun j hj => by
              by_cases e : j < nmin (v 0) n
              · rw [f2 j (Nat.zero_le _) e, g2 j (Nat.zero_le _) e]; rfl
              · rw [f3 _ (by omega), g3 j (by omega)]; exact q8 j hj⟩
            exact ⟨v, e, hv, he, hm, hd, ⟨rfl, hlb, rfl, hls, rfl, hld, rfl, rfl, rfl⟩, Or.inl rfl, fun _ => tbb, hk0, hk1, hk2, hf, hp, hNn, (rs_oth sb rfl rfl (fun j hj => f3 _ (by omega))), (rs_oth sc rfl rfl (fun j hj => f3 _ (by omega))), (rs_oth sd rfl rfl (fun j hj => f3 _ (by omega)))⟩
        · have h2 := inr_out h2
          rw [h2] at r1 r2
          have hz : ¬ -nI 1000000001 = nI 0 := by decide
          simp (disch := omega) only [f_X7_ledger, f_X8_ledger, bd_s, gd_tt, jn_s, lit32, gd_ix, nI_clamp, nI_add, pk_mul, nI_leI, nI_ltI, nI_eq, b2_0n, ite_f, ↓reduceIte, Bool.false_eq_true, Bool.true_eq_false, Nat.not_lt_zero, isb_b2, c_has, c_isHour, c_isKind, c_isPerson, m_isHour, m_isKind, m_isSheet, m_w, c_rN, c_rN2, cB, cF, cK, cN, cS, cM, cZ, mB, mF, mK, mN, mS, mM, mZ, r1, r2, hz]
          refine ⟨_, _, rfl, rfl, rfl, ?_⟩; exact ⟨v, e, hv, he, hm, hd, hl, hs, ht, hk0, hk1, hk2, (rf_step hf 0 (by decide)), hp, sa, sb, sc, sd⟩
    · have hS := sb
      obtain ⟨w, n, q1, q2, q3, q4, q5, q6, q7, q8⟩ := hS
      have hw := rs_w q2
      have r1 := c_refb (b0 := C_sa_bits) (b1 := C_sb_bits) (b2' := C_sc_bits) (b3 := C_sd_bits) q4 hw a2
      have r2 := m_ref (hour := 0) hs4 q5 hw a2
      by_cases qw : w = 0
      · rw [if_pos qw] at r1 r2
        have hz : ¬ -nI 1000000006 = nI 0 := by decide
        simp (disch := omega) only [f_X7_ledger, f_X8_ledger, bd_s, gd_tt, jn_s, lit32, gd_ix, nI_clamp, nI_add, pk_mul, nI_leI, nI_ltI, nI_eq, b2_0n, ite_f, ↓reduceIte, Bool.false_eq_true, Bool.true_eq_false, Nat.not_lt_zero, isb_b2, c_has, c_isHour, c_isKind, c_isPerson, m_isHour, m_isKind, m_isSheet, m_w, c_rN, c_rN2, cB, cF, cK, cN, cS, cM, cZ, mB, mF, mK, mN, mS, mM, mZ, r1, r2, hz]
        refine ⟨_, _, rfl, rfl, rfl, ?_⟩; exact ⟨v, e, hv, he, hm, hd, hl, hs, ht, hk0, hk1, hk2, (rf_step hf 5 (by decide)), hp, sa, sb, sc, sd⟩
      · rw [if_neg qw] at r1 r2
        by_cases h2 : inr a2 100 = true
        · obtain ⟨h, hh, rfl⟩ := inr_t (by decide) h2
          rw [if_pos h2] at r1 r2
          obtain ⟨rfl, hlb, rfl, hls, rfl, hld, rfl, rfl, rfl⟩ := hl
          obtain ⟨o_, s_, d_, w_, r_, m_, b_, k_, n_, q_, l_, x_, ef, tb⟩ := c_look hlb hls hv hN C_order C_stepsAt C_doubts C_weights C_rows C_metEver C_bowedTo C_isStale C_bowCount C_doubtCount C_seenBows C_likeliest C_mostSayingsSo hs ht
          have tbb := tb
          obtain ⟨tb1, tb2, rfl, tb4, rfl, tb6, tb7, tb8, rfl, rfl⟩ := tb
          obtain ⟨mo, md, mw, mwo, mp, mt, em, ml, mW, mS⟩ := m_goesL hm hv hN M_order M_doubts M_doubtMany M_weights M_worn M_pairs M_isTwice (hour := h) hh
          cases hk : lkl v with
          | none =>
            have es : f_X2_someHolds (-nI 1) = some (b2 false) := by have := c_some hv; rw [hk] at this; exact this
            rw [hk] at em
            simp (disch := omega) only [f_X7_ledger, f_X8_ledger, bd_s, gd_tt, jn_s, lit32, gd_ix, nI_clamp, nI_add, pk_mul, nI_leI, nI_ltI, nI_eq, b2_0n, ite_f, ↓reduceIte, Bool.false_eq_true, Bool.true_eq_false, Nat.not_lt_zero, isb_b2, c_has, c_isHour, c_isKind, c_isPerson, m_isHour, m_isKind, m_isSheet, m_w, c_rN, c_rN2, cB, cF, cK, cN, cS, cM, cZ, mB, mF, mK, mN, mS, mM, mZ, r1, r2, ef, em, es, hk, show lkI none = -nI 1 from rfl, Option.isSome_none, if_neg]
            rw [hk] at tbb
            refine ⟨_, _, rfl, rfl, rfl, ?_⟩; exact ⟨v, e, hv, he, hm, hd, ⟨rfl, hlb, rfl, hls, rfl, hld, rfl, rfl, rfl⟩, Or.inl rfl, fun _ => tbb, hk0, hk1, hk2, (rf_step hf 3 (by decide)), hp, sa, sb, sc, sd⟩
          | some nt =>
            have hn := lkl_lt hk
            have es : f_X2_someHolds (nI nt) = some (b2 true) := by have := c_some hv; rw [hk] at this; exact this
            have hS := mS nt hk
            have hR := tb7 nt hn (wt_wgt (lkl_pos hk))
            have e1 := c_likRow (rows := r_) tb2 hv (show nt < 64 by omega) hh
            have hmn := nmin_le (v 0) n
            have hwr : ∀ j, j < 8 → wr v nt h j < 8 := fun j hj => wr_lt hv nt h hj
            obtain ⟨r, g1, g2, g3⟩ := c_lgb (sb := C_sa_bits) (sbl := C_sa_len) (sc := C_sc_bits) (scl := C_sc_len) (sd := C_sd_bits) (sdl := C_sd_len) (hR _ (sts_le v h)) hmn.2 q1 (show nmin (v 0) n ≤ 8 by omega) q2 hwr (nmin (v 0) n) N 0 C_sa_nums C_sb_nums C_sc_nums C_sd_nums (by omega) (by omega)
            obtain ⟨Q, f1, f2, f3⟩ := m_lg52 (w := wr v nt h) hs4 (show nmin (v 0) n ≤ 8 by omega) (fun j hj => ⟨hS.1 j hj, hwr j hj⟩) (nmin (v 0) n) N 0 M_numbers (by omega) (by omega)
            rw [hk] at em
            rw [← q4] at g1
            rw [← q6] at g1
            have hmm : (if nI (v 0) < C_sb_len then nI (v 0) else C_sb_len) = nI (nmin (v 0) n) := by rw [q6]; exact nI_min (by omega) (by omega)
            have hmm2 : (if nI (v 0) < nI n then nI (v 0) else nI n) = nI (nmin (v 0) n) := nI_min (by omega) (by omega)
            simp (disch := omega) only [f_X7_ledger, f_X8_ledger, bd_s, jn_s, lit32, gd_ix, nI_clamp, nI_eq, b2_0n, ↓reduceIte, Bool.false_eq_true, Bool.true_eq_false, r1, r2, ef, em, es, hk, show lkI (some nt) = nI nt from rfl, Option.isSome_some, e1, f_X5_length, hmm, g1, k0, q7, hmm2, f1, if_neg]
            rw [hk] at tbb
            refine ⟨_, _, rfl, rfl, rfl, ?_⟩
            have hNn : RS 1 r C_sb_bits C_sb_len M_widths M_sizes Q := ⟨w, n, q1, q2, q3, q4, q5, q6, q7, fun j hj => by
              by_cases e : j < nmin (v 0) n
              · rw [f2 j (Nat.zero_le _) e, g2 j (Nat.zero_le _) e]; rfl
              · rw [f3 _ (by omega), g3 j (by omega)]; exact q8 j hj⟩
            exact ⟨v, e, hv, he, hm, hd, ⟨rfl, hlb, rfl, hls, rfl, hld, rfl, rfl, rfl⟩, Or.inl rfl, fun _ => tbb, hk0, hk1, hk2, hf, hp, (rs_oth sa rfl rfl (fun j hj => f3 _ (by omega))), hNn, (rs_oth sc rfl rfl (fun j hj => f3 _ (by omega))), (rs_oth sd rfl rfl (fun j hj => f3 _ (by omega)))⟩
        · have h2 := inr_out h2
          rw [h2] at r1 r2
          have hz : ¬ -nI 1000000001 = nI 0 := by decide
          simp (disch := omega) only [f_X7_ledger, f_X8_ledger, bd_s, gd_tt, jn_s, lit32, gd_ix, nI_clamp, nI_add, pk_mul, nI_leI, nI_ltI, nI_eq, b2_0n, ite_f, ↓reduceIte, Bool.false_eq_true, Bool.true_eq_false, Nat.not_lt_zero, isb_b2, c_has, c_isHour, c_isKind, c_isPerson, m_isHour, m_isKind, m_isSheet, m_w, c_rN, c_rN2, cB, cF, cK, cN, cS, cM, cZ, mB, mF, mK, mN, mS, mM, mZ, r1, r2, hz]
          refine ⟨_, _, rfl, rfl, rfl, ?_⟩; exact ⟨v, e, hv, he, hm, hd, hl, hs, ht, hk0, hk1, hk2, (rf_step hf 0 (by decide)), hp, sa, sb, sc, sd⟩
    · have hS := sc
      obtain ⟨w, n, q1, q2, q3, q4, q5, q6, q7, q8⟩ := hS
      have hw := rs_w q2
      have r1 := c_refc (b0 := C_sa_bits) (b1 := C_sb_bits) (b2' := C_sc_bits) (b3 := C_sd_bits) q4 hw a2
      have r2 := m_ref (hour := 0) hs4 q5 hw a2
      by_cases qw : w = 0
      · rw [if_pos qw] at r1 r2
        have hz : ¬ -nI 1000000006 = nI 0 := by decide
        simp (disch := omega) only [f_X7_ledger, f_X8_ledger, bd_s, gd_tt, jn_s, lit32, gd_ix, nI_clamp, nI_add, pk_mul, nI_leI, nI_ltI, nI_eq, b2_0n, ite_f, ↓reduceIte, Bool.false_eq_true, Bool.true_eq_false, Nat.not_lt_zero, isb_b2, c_has, c_isHour, c_isKind, c_isPerson, m_isHour, m_isKind, m_isSheet, m_w, c_rN, c_rN2, cB, cF, cK, cN, cS, cM, cZ, mB, mF, mK, mN, mS, mM, mZ, r1, r2, hz]
        refine ⟨_, _, rfl, rfl, rfl, ?_⟩; exact ⟨v, e, hv, he, hm, hd, hl, hs, ht, hk0, hk1, hk2, (rf_step hf 5 (by decide)), hp, sa, sb, sc, sd⟩
      · rw [if_neg qw] at r1 r2
        by_cases h2 : inr a2 100 = true
        · obtain ⟨h, hh, rfl⟩ := inr_t (by decide) h2
          rw [if_pos h2] at r1 r2
          obtain ⟨rfl, hlb, rfl, hls, rfl, hld, rfl, rfl, rfl⟩ := hl
          obtain ⟨o_, s_, d_, w_, r_, m_, b_, k_, n_, q_, l_, x_, ef, tb⟩ := c_look hlb hls hv hN C_order C_stepsAt C_doubts C_weights C_rows C_metEver C_bowedTo C_isStale C_bowCount C_doubtCount C_seenBows C_likeliest C_mostSayingsSo hs ht
          have tbb := tb
          obtain ⟨tb1, tb2, rfl, tb4, rfl, tb6, tb7, tb8, rfl, rfl⟩ := tb
          obtain ⟨mo, md, mw, mwo, mp, mt, em, ml, mW, mS⟩ := m_goesL hm hv hN M_order M_doubts M_doubtMany M_weights M_worn M_pairs M_isTwice (hour := h) hh
          cases hk : lkl v with
          | none =>
            have es : f_X2_someHolds (-nI 1) = some (b2 false) := by have := c_some hv; rw [hk] at this; exact this
            rw [hk] at em
            simp (disch := omega) only [f_X7_ledger, f_X8_ledger, bd_s, gd_tt, jn_s, lit32, gd_ix, nI_clamp, nI_add, pk_mul, nI_leI, nI_ltI, nI_eq, b2_0n, ite_f, ↓reduceIte, Bool.false_eq_true, Bool.true_eq_false, Nat.not_lt_zero, isb_b2, c_has, c_isHour, c_isKind, c_isPerson, m_isHour, m_isKind, m_isSheet, m_w, c_rN, c_rN2, cB, cF, cK, cN, cS, cM, cZ, mB, mF, mK, mN, mS, mM, mZ, r1, r2, ef, em, es, hk, show lkI none = -nI 1 from rfl, Option.isSome_none, if_neg]
            rw [hk] at tbb
            refine ⟨_, _, rfl, rfl, rfl, ?_⟩; exact ⟨v, e, hv, he, hm, hd, ⟨rfl, hlb, rfl, hls, rfl, hld, rfl, rfl, rfl⟩, Or.inl rfl, fun _ => tbb, hk0, hk1, hk2, (rf_step hf 3 (by decide)), hp, sa, sb, sc, sd⟩
          | some nt =>
            have hn := lkl_lt hk
            have es : f_X2_someHolds (nI nt) = some (b2 true) := by have := c_some hv; rw [hk] at this; exact this
            have hS := mS nt hk
            have hR := tb7 nt hn (wt_wgt (lkl_pos hk))
            have e1 := c_likRow (rows := r_) tb2 hv (show nt < 64 by omega) hh
            have hmn := nmin_le (v 0) n
            have hwr : ∀ j, j < 8 → wr v nt h j < 8 := fun j hj => wr_lt hv nt h hj
            obtain ⟨r, g1, g2, g3⟩ := c_lgc (sb := C_sa_bits) (sbl := C_sa_len) (sc := C_sb_bits) (scl := C_sb_len) (sd := C_sd_bits) (sdl := C_sd_len) (hR _ (sts_le v h)) hmn.2 q1 (show nmin (v 0) n ≤ 8 by omega) q2 hwr (nmin (v 0) n) N 0 C_sa_nums C_sb_nums C_sc_nums C_sd_nums (by omega) (by omega)
            obtain ⟨Q, f1, f2, f3⟩ := m_lg52 (w := wr v nt h) hs4 (show nmin (v 0) n ≤ 8 by omega) (fun j hj => ⟨hS.1 j hj, hwr j hj⟩) (nmin (v 0) n) N 0 M_numbers (by omega) (by omega)
            rw [hk] at em
            rw [← q4] at g1
            rw [← q6] at g1
            have hmm : (if nI (v 0) < C_sc_len then nI (v 0) else C_sc_len) = nI (nmin (v 0) n) := by rw [q6]; exact nI_min (by omega) (by omega)
            have hmm2 : (if nI (v 0) < nI n then nI (v 0) else nI n) = nI (nmin (v 0) n) := nI_min (by omega) (by omega)
            simp (disch := omega) only [f_X7_ledger, f_X8_ledger, bd_s, jn_s, lit32, gd_ix, nI_clamp, nI_eq, b2_0n, ↓reduceIte, Bool.false_eq_true, Bool.true_eq_false, r1, r2, ef, em, es, hk, show lkI (some nt) = nI nt from rfl, Option.isSome_some, e1, f_X5_length, hmm, g1, k0, q7, hmm2, f1, if_neg]
            rw [hk] at tbb
            refine ⟨_, _, rfl, rfl, rfl, ?_⟩
            have hNn : RS 2 r C_sc_bits C_sc_len M_widths M_sizes Q := ⟨w, n, q1, q2, q3, q4, q5, q6, q7, fun j hj => by
              by_cases e : j < nmin (v 0) n
              · rw [f2 j (Nat.zero_le _) e, g2 j (Nat.zero_le _) e]; rfl
              · rw [f3 _ (by omega), g3 j (by omega)]; exact q8 j hj⟩
            exact ⟨v, e, hv, he, hm, hd, ⟨rfl, hlb, rfl, hls, rfl, hld, rfl, rfl, rfl⟩, Or.inl rfl, fun _ => tbb, hk0, hk1, hk2, hf, hp, (rs_oth sa rfl rfl (fun j hj => f3 _ (by omega))), (rs_oth sb rfl rfl (fun j hj => f3 _ (by omega))), hNn, (rs_oth sd rfl rfl (fun j hj => f3 _ (by omega)))⟩
        · have h2 := inr_out h2
          rw [h2] at r1 r2
          have hz : ¬ -nI 1000000001 = nI 0 := by decide
          simp (disch := omega) only [f_X7_ledger, f_X8_ledger, bd_s, gd_tt, jn_s, lit32, gd_ix, nI_clamp, nI_add, pk_mul, nI_leI, nI_ltI, nI_eq, b2_0n, ite_f, ↓reduceIte, Bool.false_eq_true, Bool.true_eq_false, Nat.not_lt_zero, isb_b2, c_has, c_isHour, c_isKind, c_isPerson, m_isHour, m_isKind, m_isSheet, m_w, c_rN, c_rN2, cB, cF, cK, cN, cS, cM, cZ, mB, mF, mK, mN, mS, mM, mZ, r1, r2, hz]
          refine ⟨_, _, rfl, rfl, rfl, ?_⟩; exact ⟨v, e, hv, he, hm, hd, hl, hs, ht, hk0, hk1, hk2, (rf_step hf 0 (by decide)), hp, sa, sb, sc, sd⟩
    · have hS := sd
      obtain ⟨w, n, q1, q2, q3, q4, q5, q6, q7, q8⟩ := hS
      have hw := rs_w q2
      have r1 := c_refd (b0 := C_sa_bits) (b1 := C_sb_bits) (b2' := C_sc_bits) (b3 := C_sd_bits) q4 hw a2
      have r2 := m_ref (hour := 0) hs4 q5 hw a2
      by_cases qw : w = 0
      · rw [if_pos qw] at r1 r2
        have hz : ¬ -nI 1000000006 = nI 0 := by decide
        simp (disch := omega) only [f_X7_ledger, f_X8_ledger, bd_s, gd_tt, jn_s, lit32, gd_ix, nI_clamp, nI_add, pk_mul, nI_leI, nI_ltI, nI_eq, b2_0n, ite_f, ↓reduceIte, Bool.false_eq_true, Bool.true_eq_false, Nat.not_lt_zero, isb_b2, c_has, c_isHour, c_isKind, c_isPerson, m_isHour, m_isKind, m_isSheet, m_w, c_rN, c_rN2, cB, cF, cK, cN, cS, cM, cZ, mB, mF, mK, mN, mS, mM, mZ, r1, r2, hz]
        refine ⟨_, _, rfl, rfl, rfl, ?_⟩; exact ⟨v, e, hv, he, hm, hd, hl, hs, ht, hk0, hk1, hk2, (rf_step hf 5 (by decide)), hp, sa, sb, sc, sd⟩
      · rw [if_neg qw] at r1 r2
        by_cases h2 : inr a2 100 = true
        · obtain ⟨h, hh, rfl⟩ := inr_t (by decide) h2
          rw [if_pos h2] at r1 r2
          obtain ⟨rfl, hlb, rfl, hls, rfl, hld, rfl, rfl, rfl⟩ := hl
          obtain ⟨o_, s_, d_, w_, r_, m_, b_, k_, n_, q_, l_, x_, ef, tb⟩ := c_look hlb hls hv hN C_order C_stepsAt C_doubts C_weights C_rows C_metEver C_bowedTo C_isStale C_bowCount C_doubtCount C_seenBows C_likeliest C_mostSayingsSo hs ht
          have tbb := tb
          obtain ⟨tb1, tb2, rfl, tb4, rfl, tb6, tb7, tb8, rfl, rfl⟩ := tb
          obtain ⟨mo, md, mw, mwo, mp, mt, em, ml, mW, mS⟩ := m_goesL hm hv hN M_order M_doubts M_doubtMany M_weights M_worn M_pairs M_isTwice (hour := h) hh
          cases hk : lkl v with
          | none =>
            have es : f_X2_someHolds (-nI 1) = some (b2 false) := by have := c_some hv; rw [hk] at this; exact this
            rw [hk] at em
            simp (disch := omega) only [f_X7_ledger, f_X8_ledger, bd_s, gd_tt, jn_s, lit32, gd_ix, nI_clamp, nI_add, pk_mul, nI_leI, nI_ltI, nI_eq, b2_0n, ite_f, ↓reduceIte, Bool.false_eq_true, Bool.true_eq_false, Nat.not_lt_zero, isb_b2, c_has, c_isHour, c_isKind, c_isPerson, m_isHour, m_isKind, m_isSheet, m_w, c_rN, c_rN2, cB, cF, cK, cN, cS, cM, cZ, mB, mF, mK, mN, mS, mM, mZ, r1, r2, ef, em, es, hk, show lkI none = -nI 1 from rfl, Option.isSome_none, if_neg]
            rw [hk] at tbb
            refine ⟨_, _, rfl, rfl, rfl, ?_⟩; exact ⟨v, e, hv, he, hm, hd, ⟨rfl, hlb, rfl, hls, rfl, hld, rfl, rfl, rfl⟩, Or.inl rfl, fun _ => tbb, hk0, hk1, hk2, (rf_step hf 3 (by decide)), hp, sa, sb, sc, sd⟩
          | some nt =>
            have hn := lkl_lt hk
            have es : f_X2_someHolds (nI nt) = some (b2 true) := by have := c_some hv; rw [hk] at this; exact this
            have hS := mS nt hk
            have hR := tb7 nt hn (wt_wgt (lkl_pos hk))
            have e1 := c_likRow (rows := r_) tb2 hv (show nt < 64 by omega) hh
            have hmn := nmin_le (v 0) n
            have hwr : ∀ j, j < 8 → wr v nt h j < 8 := fun j hj => wr_lt hv nt h hj
            obtain ⟨r, g1, g2, g3⟩ := c_lgd (sb := C_sa_bits) (sbl := C_sa_len) (sc := C_sb_bits) (scl := C_sb_len) (sd := C_sc_bits) (sdl := C_sc_len) (hR _ (sts_le v h)) hmn.2 q1 (show nmin (v 0) n ≤ 8 by omega) q2 hwr (nmin (v 0) n) N 0 C_sa_nums C_sb_nums C_sc_nums C_sd_nums (by omega) (by omega)
            obtain ⟨Q, f1, f2, f3⟩ := m_lg52 (w := wr v nt h) hs4 (show nmin (v 0) n ≤ 8 by omega) (fun j hj => ⟨hS.1 j hj, hwr j hj⟩) (nmin (v 0) n) N 0 M_numbers (by omega) (by omega)
            rw [hk] at em
            rw [← q4] at g1
            rw [← q6] at g1
            have hmm : (if nI (v 0) < C_sd_len then nI (v 0) else C_sd_len) = nI (nmin (v 0) n) := by rw [q6]; exact nI_min (by omega) (by omega)
            have hmm2 : (if nI (v 0) < nI n then nI (v 0) else nI n) = nI (nmin (v 0) n) := nI_min (by omega) (by omega)
            simp (disch := omega) only [f_X7_ledger, f_X8_ledger, bd_s, jn_s, lit32, gd_ix, nI_clamp, nI_eq, b2_0n, ↓reduceIte, Bool.false_eq_true, Bool.true_eq_false, r1, r2, ef, em, es, hk, show lkI (some nt) = nI nt from rfl, Option.isSome_some, e1, f_X5_length, hmm, g1, k0, q7, hmm2, f1, if_neg]
            rw [hk] at tbb
            refine ⟨_, _, rfl, rfl, rfl, ?_⟩
            have hNn : RS 3 r C_sd_bits C_sd_len M_widths M_sizes Q := ⟨w, n, q1, q2, q3, q4, q5, q6, q7, fun j hj => by
              by_cases e : j < nmin (v 0) n
              · rw [f2 j (Nat.zero_le _) e, g2 j (Nat.zero_le _) e]; rfl
              · rw [f3 _ (by omega), g3 j (by omega)]; exact q8 j hj⟩
            exact ⟨v, e, hv, he, hm, hd, ⟨rfl, hlb, rfl, hls, rfl, hld, rfl, rfl, rfl⟩, Or.inl rfl, fun _ => tbb, hk0, hk1, hk2, hf, hp, (rs_oth sa rfl rfl (fun j hj => f3 _ (by omega))), (rs_oth sb rfl rfl (fun j hj => f3 _ (by omega))), (rs_oth sc rfl rfl (fun j hj => f3 _ (by omega))), hNn⟩
        · have h2 := inr_out h2
          rw [h2] at r1 r2
          have hz : ¬ -nI 1000000001 = nI 0 := by decide
          simp (disch := omega) only [f_X7_ledger, f_X8_ledger, bd_s, gd_tt, jn_s, lit32, gd_ix, nI_clamp, nI_add, pk_mul, nI_leI, nI_ltI, nI_eq, b2_0n, ite_f, ↓reduceIte, Bool.false_eq_true, Bool.true_eq_false, Nat.not_lt_zero, isb_b2, c_has, c_isHour, c_isKind, c_isPerson, m_isHour, m_isKind, m_isSheet, m_w, c_rN, c_rN2, cB, cF, cK, cN, cS, cM, cZ, mB, mF, mK, mN, mS, mM, mZ, r1, r2, hz]
          refine ⟨_, _, rfl, rfl, rfl, ?_⟩; exact ⟨v, e, hv, he, hm, hd, hl, hs, ht, hk0, hk1, hk2, (rf_step hf 0 (by decide)), hp, sa, sb, sc, sd⟩
  · have n0 : ¬ a1 = nI 0 := fun z => by rw [z] at h1; exact h1 (by decide)
    have n1 : ¬ a1 = nI 1 := fun z => by rw [z] at h1; exact h1 (by decide)
    have n2 : ¬ a1 = nI 2 := fun z => by rw [z] at h1; exact h1 (by decide)
    have n3 : ¬ a1 = nI 3 := fun z => by rw [z] at h1; exact h1 (by decide)
    have h1 := inr_out h1
    have hz : ¬ -nI 1000000001 = nI 0 := by decide
    simp (disch := omega) only [f_X7_ledger, f_X8_ledger, f_X7_findingOfSheetAndHour, f_X8_refuses, bd_s, gd_tt, jn_s, lit32, gd_ix, nI_clamp, nI_add, pk_mul, nI_leI, nI_ltI, nI_eq, b2_0n, ite_f, ↓reduceIte, Bool.false_eq_true, Bool.true_eq_false, Nat.not_lt_zero, isb_b2, c_has, c_isHour, c_isKind, c_isPerson, m_isHour, m_isKind, m_isSheet, m_w, c_rN, c_rN2, cB, cF, cK, cN, cS, cM, cZ, mB, mF, mK, mN, mS, mM, mZ, h1, n0, n1, n2, n3, hz]
    refine ⟨_, _, rfl, rfl, rfl, ?_⟩; exact ⟨v, e, hv, he, hm, hd, hl, hs, ht, hk0, hk1, hk2, (rf_step hf 0 (by decide)), hp, sa, sb, sc, sd⟩
