/-! ===== homeBow, atHome, since ===== -/
theorem m_hb34 {v : Nat → Nat} {now found order doubts : Nat → Int32} {dm : Int32} {W : Nat → Int64} (h : RN v now) (hv : Vd v) {N i : Nat} (hN : 2000 ≤ N) (hi : i < 2 ^ 31) {K : ((Nat → Int32) × Int64 × Int32) → Option (Int32 × (Nat → Int32) × (Nat → Int32) × (Nat → Int32) × Int32 × (Nat → Int64) × (Nat → Int32) × Int64 × Int32)} (hK : ∀ x, ∃ w p t, K x = some (-nI 1000000004, fmu found 3, order, doubts, dm, W, w, p, t)) : ∀ d f k c (s : Nst) (worn : Nat → Int32) (pairs : Int64) (tw : Int32), k + d = v 0 → d < f → c ≤ i → c ≤ k → Pm s → MS s worn pairs tw → (∀ m, m < k → s.1 m = m) →
    ∃ w p t, f_X8_homeBow_34 N (nI i) now found order doubts dm W K f (nI c) (nhI (v 0) s.1) worn pairs tw = some (match (hb d k s.1)[i - c]? with | some x => nI x | none => -nI 1000000004, match (hb d k s.1)[i - c]? with | some _ => found | none => fmu found 3, order, doubts, dm, W, w, p, t)
  | 0, f, k, c, s, worn, pairs, tw, hk, hf, hc, hck, hs, hm, hh => by
    cases f with
    | zero => omega
    | succ f =>
      obtain ⟨w, p, t, e⟩ := hK (worn, pairs, tw)
      refine ⟨w, p, t, ?_⟩
      unfold f_X8_homeBow_34
      rw [nh_all (fun m hm => hh m (by omega)), if_pos (by decide), e]; rfl
  | d + 1, f, k, c, s, worn, pairs, tw, hk, hf, hc, hck, hs, hm, hh => by
    have h8 := vd_hi hv
    by_cases q : s.1 k = k
    · rw [show hb (d + 1) k s.1 = hb d (k + 1) s.1 from if_pos q]
      exact m_hb34 h hv hN hi hK d f (k + 1) c s worn pairs tw (by omega) (by omega) hc (by omega) hs hm (fun m hmk => by
        by_cases e : m = k
        · rw [e]; exact q
        · exact hh m (by omega))
    · cases f with
      | zero => omega
      | succ f =>
        obtain ⟨w1, p1, t1, e1, e2, e3, e4⟩ := m_bowsHome hm hs hN (k := k) (by omega) hh q
        rw [show hb (d + 1) k s.1 = (10 * k + mko s.1 k) :: hb d (k + 1) (swp s.1 k (mko s.1 k)) from if_neg q]
        by_cases qc : c = i
        · subst qc
          refine ⟨w1, p1, t1, ?_⟩
          unfold f_X8_homeBow_34
          rw [nh_k hh (by omega) q, if_neg (nI_pos (by omega)), e1, bd_s, if_pos rfl, Nat.sub_self]
          rfl
        · obtain ⟨w, p, t, g⟩ := m_hb34 h hv hN hi hK d f (k + 1) (c + 1) (stp s k (mko s.1 k)) w1 p1 t1 (by omega) (by omega) (by omega) (by omega) e3 e2 e4
          refine ⟨w, p, t, ?_⟩
          unfold f_X8_homeBow_34
          rw [nh_k hh (by omega) q, if_neg (nI_pos (by omega)), e1, bd_s, if_neg (fun z => qc ((nI_eq (by omega) (by omega)).mp z))]
          dsimp only
          rw [m_notHome h hv e3 e2.1 hN, bd_s, nI_1, show i - c = (i - (c + 1)) + 1 by omega, List.getElem?_cons_succ]
          exact g
theorem nI_i {a : Int32} (h : ¬ nI 0 ≤ a) : a < 0 := by
  rw [i32_lt, show (0 : Int32).toInt = 0 from rfl]
  rw [i32_le, show (nI 0).toInt = 0 from rfl] at h
  omega
set_option maxHeartbeats 16000000 in
theorem op_homeBow {N : Nat} (hN : 2000 ≤ N) : Op_homeBow Rl N := by
  intro C_isKept C_l_bsize C_l_bcells C_l_ssize C_l_scells C_l_dsize C_l_dcells C_l_people C_l_rule C_l_believed C_k_bsize C_k_bcells C_k_ssize C_k_scells C_k_dsize C_k_dcells C_k_people C_k_rule C_k_believed C_d_bsize C_d_bcells C_d_ssize C_d_scells C_d_dsize C_d_dcells C_d_people C_d_rule C_d_believed C_order C_stepsAt C_doubts C_weights C_rows C_metEver C_bowedTo C_isStale C_bowCount C_doubtCount C_seenBows C_likeliest C_mostSayingsSo C_doers C_isTelling C_tbytes C_tlen C_token C_place C_behindIt C_value C_sa_nums C_sa_bits C_sa_len C_sb_nums C_sb_bits C_sb_len C_sc_nums C_sc_bits C_sc_len C_sd_nums C_sd_bits C_sd_len C_findings M_now M_kept M_isKept M_found M_order M_doubts M_doubtMany M_weights M_worn M_pairs M_isTwice M_doer M_doneTo M_doers M_tape M_taped M_begins M_ends M_sort M_value M_isWrong M_items M_itemMany M_bowThen M_doubtThen M_deedThen M_sayingThen M_widths M_sizes M_numbers M_moved a1 hR 
  obtain ⟨v, e, hv, he, hm, hd, hl, hs, ht, hk0, hk1, hk2, hf, hp, sa, sb, sc, sd⟩ := hR
  obtain ⟨rfl, hlb, rfl, hls, rfl, hld, rfl, rfl, rfl⟩ := hl
  have h8 := vd_hi hv
  have h64 := nn_le hv
  by_cases h1 : nI 0 ≤ a1
  · obtain ⟨i, hi, rfl⟩ : ∃ i, i < 2 ^ 31 ∧ a1 = nI i := nI_of (by rw [i32_lt, show (0 : Int32).toInt = 0 from rfl]; rw [i32_le, show (nI 0).toInt = 0 from rfl] at h1; omega)
    obtain ⟨o_, s_, d_, w_, r_, m_, b_, k_, n_, q_, l_, x_, ef, tb⟩ := c_look hlb hls hv hN C_order C_stepsAt C_doubts C_weights C_rows C_metEver C_bowedTo C_isStale C_bowCount C_doubtCount C_seenBows C_likeliest C_mostSayingsSo hs ht
    have tbb := tb
    obtain ⟨tb1, tb2, rfl, tb4, rfl, tb6, tb7, tb8, rfl, rfl⟩ := tb
    obtain ⟨mo, md, mw, mwo, mp, mt, em, ml, mW, mS⟩ := m_goesL hm hv hN M_order M_doubts M_doubtMany M_weights M_worn M_pairs M_isTwice (hour := 99) (by decide)
    cases hk : lkl v with
    | none =>
      have es : f_X2_someHolds (-nI 1) = some (b2 false) := by have := c_some hv; rw [hk] at this; exact this
      rw [hk] at em
      simp (disch := omega) only [f_X7_homeBow, f_X8_homeBow, bd_s, gd_tt, jn_s, lit32, gd_ix, nI_clamp, nI_add, pk_mul, nI_leI, nI_ltI, nI_eq, b2_0n, ite_f, ↓reduceIte, Bool.false_eq_true, Bool.true_eq_false, Nat.not_lt_zero, isb_b2, c_has, c_isHour, c_isKind, c_isPerson, m_isHour, m_isKind, m_isSheet, m_w, c_rN, c_rN2, cB, cF, cK, cN, cS, cM, cZ, mB, mF, mK, mN, mS, mM, mZ, Nat.zero_le, ef, em, es, hk, show lkI none = -nI 1 from rfl, Option.isSome_none]
      rw [hk] at tbb
      refine ⟨_, _, rfl, rfl, rfl, ?_⟩; exact ⟨v, e, hv, he, hm, hd, ⟨rfl, hlb, rfl, hls, rfl, hld, rfl, rfl, rfl⟩, Or.inl rfl, fun _ => tbb, hk0, hk1, hk2, (rf_step hf 3 (by decide)), hp, sa, sb, sc, sd⟩
    | some n =>
      have hn := lkl_lt hk
      have es : f_X2_someHolds (nI n) = some (b2 true) := by have := c_some hv; rw [hk] at this; exact this
      have hS := mS n hk
      rw [sts_99 hv] at hS
      have hpm := Pm_n hv n (v 3) (Nat.le_refl _)
      have hR := tb7 n hn (wt_wgt (lkl_pos hk))
      obtain ⟨w2, p2, t2, g⟩ := m_hb34 (found := M_found) (order := mo) (doubts := md) (dm := nI (dc v)) (W := mw) hm hv hN hi (K := fun u_9 => some (-nI 1000000004, fmu M_found 3, mo, md, nI (dc v), mw, u_9.1, u_9.2.1, u_9.2.2)) (fun x => ⟨x.1, x.2.1, x.2.2, rfl⟩) (v 0) N 0 0 (nst v n (v 3)) mwo mp mt (by omega) (by omega) (Nat.zero_le _) (Nat.le_refl _) hpm hS (fun m hm => absurd hm (Nat.not_lt_zero _))
      rw [Nat.sub_zero, show hb (v 0) 0 (nst v n (v 3)).1 = hbN v n from rfl] at g
      have e1 := c_homeward tb2 hv hN (show n < 64 by omega) hR hi
      have e2 := m_notHome hm hv hpm hS.1 hN
      rw [hk] at em
      cases hq : (hbN v n)[i]? with
      | none =>
        rw [hq] at g e1
        simp (disch := omega) only [f_X7_homeBow, f_X8_homeBow, bd_s, gd_tt, jn_s, lit32, gd_ix, nI_clamp, nI_add, pk_mul, nI_leI, nI_ltI, nI_eq, b2_0n, ite_f, ↓reduceIte, Bool.false_eq_true, Bool.true_eq_false, Nat.not_lt_zero, isb_b2, c_has, c_isHour, c_isKind, c_isPerson, m_isHour, m_isKind, m_isSheet, m_w, c_rN, c_rN2, cB, cF, cK, cN, cS, cM, cZ, mB, mF, mK, mN, mS, mM, mZ, Nat.zero_le, ef, em, es, hk, show lkI (some n) = nI n from rfl, Option.isSome_some, e1, e2, g, f_X7_orNone, show anI none = -nI 1 from rfl]
        rw [hk] at tbb
        refine ⟨_, _, rfl, rfl, rfl, ?_⟩; exact ⟨v, e, hv, he, hm, hd, ⟨rfl, hlb, rfl, hls, rfl, hld, rfl, rfl, rfl⟩, Or.inl rfl, fun _ => tbb, hk0, hk1, hk2, (rf_step hf 3 (by decide)), hp, sa, sb, sc, sd⟩
      | some x =>
        rw [hq] at g e1
        have hx : x < 100 := hb_lt (v 0) 0 (nst v n (v 3)) hpm (by omega) x (List.mem_of_getElem? hq)
        have hnm := nI_nm1 (show x < 2 ^ 31 by omega)
        simp (disch := omega) only [f_X7_homeBow, f_X8_homeBow, bd_s, gd_tt, jn_s, lit32, gd_ix, nI_clamp, nI_add, pk_mul, nI_leI, nI_ltI, nI_eq, b2_0n, ite_f, ↓reduceIte, Bool.false_eq_true, Bool.true_eq_false, Nat.not_lt_zero, isb_b2, c_has, c_isHour, c_isKind, c_isPerson, m_isHour, m_isKind, m_isSheet, m_w, c_rN, c_rN2, cB, cF, cK, cN, cS, cM, cZ, mB, mF, mK, mN, mS, mM, mZ, Nat.zero_le, ef, em, es, hk, show lkI (some n) = nI n from rfl, Option.isSome_some, e1, e2, g, f_X7_orNone, show anI (some x) = nI x from rfl, hnm]
        rw [hk] at tbb
        refine ⟨_, _, rfl, rfl, rfl, ?_⟩; exact ⟨v, e, hv, he, hm, hd, ⟨rfl, hlb, rfl, hls, rfl, hld, rfl, rfl, rfl⟩, Or.inl rfl, fun _ => tbb, hk0, hk1, hk2, hf, hp, sa, sb, sc, sd⟩
  · simp (disch := omega) only [f_X7_homeBow, f_X8_homeBow, bd_s, gd_tt, jn_s, lit32, gd_ix, nI_clamp, nI_add, pk_mul, nI_leI, nI_ltI, nI_eq, b2_0n, ite_f, ↓reduceIte, Bool.false_eq_true, Bool.true_eq_false, Nat.not_lt_zero, isb_b2, c_has, c_isHour, c_isKind, c_isPerson, m_isHour, m_isKind, m_isSheet, m_w, c_rN, c_rN2, cB, cF, cK, cN, cS, cM, cZ, mB, mF, mK, mN, mS, mM, mZ, h1]
    refine ⟨_, _, rfl, rfl, rfl, ?_⟩; exact ⟨v, e, hv, he, hm, hd, ⟨rfl, hlb, rfl, hls, rfl, hld, rfl, rfl, rfl⟩, hs, ht, hk0, hk1, hk2, (rf_step hf 0 (by decide)), hp, sa, sb, sc, sd⟩
def ahS (v : Nat → Nat) (n h : Nat) : Nat → Nat := orr (fun p => if wr v n h p = p then 2 ^ p else 0)
theorem ahS_s (v : Nat → Nat) (n h k : Nat) : ahS v n h (k + 1) = ahS v n h k ||| (if wr v n h k = k then 2 ^ k else 0) := rfl
theorem c_ah42 {v : Nat → Nat} (hv : Vd v) {n h : Nat} {row : Int32} (hR : RW (wr v n h) row) : ∀ d f k, k + d = v 0 → d < f → f_X7_atHome_42 row (nI (v 0)) f (nI (ahS v n h k)) (nI k) = some (nI (ahS v n h (v 0)))
  | 0, f, k, hk, hf => by
    have h8 := vd_hi hv
    cases f with
    | zero => omega
    | succ f =>
      unfold f_X7_atHome_42
      rw [if_pos (nI_le (by omega) (by omega)), show k = v 0 by omega]
  | d + 1, f, k, hk, hf => by
    have h8 := vd_hi hv
    cases f with
    | zero => omega
    | succ f =>
      have ih := c_ah42 hv hR d f (k + 1) (by omega) (by omega)
      have hl := wr_lt hv n h (m := k) (by omega)
      unfold f_X7_atHome_42
      rw [if_neg (nI_ge (by omega) (by omega)), c_wearer hR (by omega) hl, bd_s, ← ih, ahS_s, nI_1]
      by_cases q : wr v n h k = k
      · rw [if_pos (by rw [q]), if_pos q, bd_s, show (1 : Int32) = nI 1 from rfl, show (31 : Int32) = nI 31 from rfl, nI_31 (by omega), nI_1shl (by omega), nI_or]
      · rw [if_neg (fun z => q ((nI_eq (by omega) (by omega)).mp z)), if_neg q, bd_s, Nat.or_zero]
theorem m_ah33 {v : Nat → Nat} {now worn : Nat → Int32} (h0 : RN v now) (hv : Vd v) {n h : Nat} (hw : ∀ m, m < 8 → worn m = nI (wr v n h m)) : ∀ d f k, k + d = v 0 → d < f → f_X8_atHome_33 now worn f (nI (ahS v n h k)) (nI k) = some (nI (ahS v n h (v 0)))
  | 0, f, k, hk, hf => by
    have h8 := vd_hi hv
    cases f with
    | zero => omega
    | succ f =>
      unfold f_X8_atHome_33
      rw [show (0 : Int32).toNatClampNeg = 0 from rfl, rn_at h0 (by omega) (by omega) (by omega), if_pos (nI_le (by omega) (by omega)), show k = v 0 by omega]
  | d + 1, f, k, hk, hf => by
    have h8 := vd_hi hv
    cases f with
    | zero => omega
    | succ f =>
      have ih := m_ah33 h0 hv hw d f (k + 1) (by omega) (by omega)
      have hl := wr_lt hv n h (m := k) (by omega)
      unfold f_X8_atHome_33
      rw [show (0 : Int32).toNatClampNeg = 0 from rfl, rn_at h0 (by omega) (by omega) (by omega), if_neg (nI_ge (by omega) (by omega)), gd_ix (by omega) (by decide), nI_clamp (by omega), hw k (by omega), ← ih, ahS_s, nI_1]
      by_cases q : wr v n h k = k
      · rw [if_pos (by rw [q]), if_pos q, show (1 : Int32) = nI 1 from rfl, show (31 : Int32) = nI 31 from rfl, nI_31 (by omega), nI_1shl (by omega), bd_s, nI_or]
      · rw [if_neg (fun z => q ((nI_eq (by omega) (by omega)).mp z)), if_neg q, bd_s, show (0 : Int32) = nI 0 from rfl, nI_or]
set_option maxHeartbeats 16000000 in
theorem op_atHome {N : Nat} (hN : 2000 ≤ N) : Op_atHome Rl N := by
  intro C_isKept C_l_bsize C_l_bcells C_l_ssize C_l_scells C_l_dsize C_l_dcells C_l_people C_l_rule C_l_believed C_k_bsize C_k_bcells C_k_ssize C_k_scells C_k_dsize C_k_dcells C_k_people C_k_rule C_k_believed C_d_bsize C_d_bcells C_d_ssize C_d_scells C_d_dsize C_d_dcells C_d_people C_d_rule C_d_believed C_order C_stepsAt C_doubts C_weights C_rows C_metEver C_bowedTo C_isStale C_bowCount C_doubtCount C_seenBows C_likeliest C_mostSayingsSo C_doers C_isTelling C_tbytes C_tlen C_token C_place C_behindIt C_value C_sa_nums C_sa_bits C_sa_len C_sb_nums C_sb_bits C_sb_len C_sc_nums C_sc_bits C_sc_len C_sd_nums C_sd_bits C_sd_len C_findings M_now M_kept M_isKept M_found M_order M_doubts M_doubtMany M_weights M_worn M_pairs M_isTwice M_doer M_doneTo M_doers M_tape M_taped M_begins M_ends M_sort M_value M_isWrong M_items M_itemMany M_bowThen M_doubtThen M_deedThen M_sayingThen M_widths M_sizes M_numbers M_moved a1 hR 
  obtain ⟨v, e, hv, he, hm, hd, hl, hs, ht, hk0, hk1, hk2, hf, hp, sa, sb, sc, sd⟩ := hR
  obtain ⟨rfl, hlb, rfl, hls, rfl, hld, rfl, rfl, rfl⟩ := hl
  have h8 := vd_hi hv
  have h64 := nn_le hv
  by_cases h1 : inr a1 100 = true
  · obtain ⟨h, hh, rfl⟩ := inr_t (by decide) h1
    obtain ⟨o_, s_, d_, w_, r_, m_, b_, k_, n_, q_, l_, x_, ef, tb⟩ := c_look hlb hls hv hN C_order C_stepsAt C_doubts C_weights C_rows C_metEver C_bowedTo C_isStale C_bowCount C_doubtCount C_seenBows C_likeliest C_mostSayingsSo hs ht
    have tbb := tb
    obtain ⟨tb1, tb2, rfl, tb4, rfl, tb6, tb7, tb8, rfl, rfl⟩ := tb
    obtain ⟨mo, md, mw, mwo, mp, mt, em, ml, mW, mS⟩ := m_goesL hm hv hN M_order M_doubts M_doubtMany M_weights M_worn M_pairs M_isTwice (hour := h) hh
    cases hk : lkl v with
    | none =>
      have es : f_X2_someHolds (-nI 1) = some (b2 false) := by have := c_some hv; rw [hk] at this; exact this
      rw [hk] at em
      simp (disch := omega) only [f_X7_atHome, f_X8_atHome, bd_s, gd_tt, jn_s, lit32, gd_ix, nI_clamp, nI_add, pk_mul, nI_leI, nI_ltI, nI_eq, b2_0n, ite_f, ↓reduceIte, Bool.false_eq_true, Bool.true_eq_false, Nat.not_lt_zero, isb_b2, c_has, c_isHour, c_isKind, c_isPerson, m_isHour, m_isKind, m_isSheet, m_w, c_rN, c_rN2, cB, cF, cK, cN, cS, cM, cZ, mB, mF, mK, mN, mS, mM, mZ, h1, ef, em, es, hk, show lkI none = -nI 1 from rfl, Option.isSome_none]
      rw [hk] at tbb
      refine ⟨_, _, rfl, rfl, rfl, ?_⟩; exact ⟨v, e, hv, he, hm, hd, ⟨rfl, hlb, rfl, hls, rfl, hld, rfl, rfl, rfl⟩, Or.inl rfl, fun _ => tbb, hk0, hk1, hk2, (rf_step hf 3 (by decide)), hp, sa, sb, sc, sd⟩
    | some n =>
      have hn := lkl_lt hk
      have es : f_X2_someHolds (nI n) = some (b2 true) := by have := c_some hv; rw [hk] at this; exact this
      have hS := mS n hk
      have hR := tb7 n hn (wt_wgt (lkl_pos hk))
      have e1 := c_likRow (rows := r_) tb2 hv (show n < 64 by omega) hh
      have e2 : f_X7_atHome_42 (r_ (21 * n + sts v h)) (nI (v 0)) N (nI 0) (nI 0) = some (nI (ahS v n h (v 0))) := c_ah42 hv (hR _ (sts_le v h)) (v 0) N 0 (by omega) (by omega)
      have e3 : f_X8_atHome_33 M_now mwo N (nI 0) (nI 0) = some (nI (ahS v n h (v 0))) := m_ah33 hm hv hS.1 (v 0) N 0 (by omega) (by omega)
      rw [hk] at em
      simp (disch := omega) only [f_X7_atHome, f_X8_atHome, bd_s, gd_tt, jn_s, lit32, gd_ix, nI_clamp, nI_add, pk_mul, nI_leI, nI_ltI, nI_eq, b2_0n, ite_f, ↓reduceIte, Bool.false_eq_true, Bool.true_eq_false, Nat.not_lt_zero, isb_b2, c_has, c_isHour, c_isKind, c_isPerson, m_isHour, m_isKind, m_isSheet, m_w, c_rN, c_rN2, cB, cF, cK, cN, cS, cM, cZ, mB, mF, mK, mN, mS, mM, mZ, h1, ef, em, es, hk, show lkI (some n) = nI n from rfl, Option.isSome_some, e1, e2, e3]
      rw [hk] at tbb
      refine ⟨_, _, rfl, rfl, rfl, ?_⟩; exact ⟨v, e, hv, he, hm, hd, ⟨rfl, hlb, rfl, hls, rfl, hld, rfl, rfl, rfl⟩, Or.inl rfl, fun _ => tbb, hk0, hk1, hk2, hf, hp, sa, sb, sc, sd⟩
  · have h1 := inr_fp h1
    simp (disch := omega) only [f_X7_atHome, f_X8_atHome, bd_s, gd_tt, jn_s, lit32, gd_ix, nI_clamp, nI_add, pk_mul, nI_leI, nI_ltI, nI_eq, b2_0n, ite_f, ↓reduceIte, Bool.false_eq_true, Bool.true_eq_false, Nat.not_lt_zero, isb_b2, c_has, c_isHour, c_isKind, c_isPerson, m_isHour, m_isKind, m_isSheet, m_w, c_rN, c_rN2, cB, cF, cK, cN, cS, cM, cZ, mB, mF, mK, mN, mS, mM, mZ, h1]
    refine ⟨_, _, rfl, rfl, rfl, ?_⟩; exact ⟨v, e, hv, he, hm, hd, ⟨rfl, hlb, rfl, hls, rfl, hld, rfl, rfl, rfl⟩, hs, ht, hk0, hk1, hk2, (rf_step hf 0 (by decide)), hp, sa, sb, sc, sd⟩
/-- the least hour from which on a person is at home -/
def snc (v : Nat → Nat) (n p : Nat) : Nat → Nat
  | 0 => 0
  | h + 1 => if wr v n h p = p then snc v n p h else h + 1
theorem snc_le (v : Nat → Nat) (n p : Nat) : ∀ h, snc v n p h ≤ h
  | 0 => Nat.le_refl _
  | h + 1 => by
    unfold snc
    split
    · exact Nat.le_succ_of_le (snc_le v n p h)
    · exact Nat.le_refl _
theorem c_sn35 {v : Nat → Nat} {stepsAt rows : Nat → Int32} (hs : ∀ h, h < 100 → stepsAt h = nI (sts v h)) (hv : Vd v) {n p : Nat} (hn : n < 64) (hp : p < 8) (hR : RR v rows n (v 3)) : ∀ h f, h ≤ 100 → h < f → f_X7_since_35 (nI p) stepsAt rows (nI n) f (nI h) = some (nI (snc v n p h))
  | 0, f, hh, hf => by
    cases f with
    | zero => omega
    | succ f => rfl
  | h + 1, f, hh, hf => by
    cases f with
    | zero => omega
    | succ f =>
      have ih := c_sn35 hs hv hn hp hR h f (by omega) (by omega)
      have hl := wr_lt hv n h hp
      unfold f_X7_since_35
      rw [show (0 : Int32) = nI 0 from rfl, if_neg (nI_ge (by omega) (by omega)), show (1 : Int32) = nI 1 from rfl, nI_sub1, c_likRow hs hv hn (by omega), bd_s, c_wr hv hR hp, bd_s]
      by_cases q : wr v n h p = p
      · rw [if_pos (by rw [q]), show snc v n p (h + 1) = snc v n p h from if_pos q, nI_add1]
        exact ih
      · rw [if_neg (fun z => q ((nI_eq (by omega) (by omega)).mp z)), show snc v n p (h + 1) = h + 1 from if_neg q]
theorem m_sn38 {v : Nat → Nat} {now : Nat → Int32} (h0 : RN v now) (hv : Vd v) {N : Nat} (hN : 2000 ≤ N) {order doubts : Nat → Int32} (hl : ML v order doubts (nI (dc v))) {n p : Nat} (hn : n < nn v) (hp : p < 8) : ∀ h f (worn : Nat → Int32) (pairs : Int64) (tw : Int32), h ≤ 100 → h + 1 < f → ∃ w q t, f_X8_since_38 N (nI p) (nI n) now order doubts (nI (dc v)) f (nI h) (nI 1) (nI h - nI 1) worn pairs tw = some (nI (snc v n p h), w, q, t)
  | 0, f, worn, pairs, tw, hh, hf => by
    cases f with
    | zero => omega
    | succ f =>
      refine ⟨worn, pairs, tw, ?_⟩
      unfold f_X8_since_38
      rw [if_pos (by decide)]; rfl
  | h + 1, f, worn, pairs, tw, hh, hf => by
    cases f with
    | zero => omega
    | succ f =>
      have hl8 := wr_lt hv n h hp
      obtain ⟨w1, p1, t1, e1, e2⟩ := m_goes h0 hv hN hl hn (hour := h) (by omega) worn pairs tw
      have ew : w1 p = nI (wr v n h p) := e2.1 p hp
      by_cases q : wr v n h p = p
      · obtain ⟨w, qq, t, g⟩ := m_sn38 h0 hv hN hl hn hp h f w1 p1 t1 (by omega) (by omega)
        refine ⟨w, qq, t, ?_⟩
        unfold f_X8_since_38
        rw [nI_sub1, if_neg (nI_pos (by omega)), if_neg (by decide), e1, bd_s, gd_ix hp (by decide), nI_clamp (by omega)]
        simp only [ew]
        rw [if_pos (by rw [q]), bd_s, if_neg (by decide), bd_s, show nI h + (-1 : Int32) = nI h - nI 1 from (t_sub _ _).symm, show snc v n p (h + 1) = snc v n p h from if_pos q]
        exact g
      · cases f with
        | zero => omega
        | succ f =>
          refine ⟨w1, p1, t1, ?_⟩
          unfold f_X8_since_38
          rw [nI_sub1, if_neg (nI_pos (by omega)), if_neg (by decide), e1, bd_s, gd_ix hp (by decide), nI_clamp (by omega)]
          simp only [ew]
          rw [if_neg (fun z => q ((nI_eq (by omega) (by omega)).mp z)), bd_s, if_pos rfl, bd_s, show snc v n p (h + 1) = h + 1 from if_neg q]
          unfold f_X8_since_38
          by_cases q2 : nI h + (-1 : Int32) < 0
          · rw [if_pos q2]
          · rw [if_neg q2, if_pos rfl]
set_option maxHeartbeats 16000000 in
theorem op_since {N : Nat} (hN : 2000 ≤ N) : Op_since Rl N := by
  intro C_isKept C_l_bsize C_l_bcells C_l_ssize C_l_scells C_l_dsize C_l_dcells C_l_people C_l_rule C_l_believed C_k_bsize C_k_bcells C_k_ssize C_k_scells C_k_dsize C_k_dcells C_k_people C_k_rule C_k_believed C_d_bsize C_d_bcells C_d_ssize C_d_scells C_d_dsize C_d_dcells C_d_people C_d_rule C_d_believed C_order C_stepsAt C_doubts C_weights C_rows C_metEver C_bowedTo C_isStale C_bowCount C_doubtCount C_seenBows C_likeliest C_mostSayingsSo C_doers C_isTelling C_tbytes C_tlen C_token C_place C_behindIt C_value C_sa_nums C_sa_bits C_sa_len C_sb_nums C_sb_bits C_sb_len C_sc_nums C_sc_bits C_sc_len C_sd_nums C_sd_bits C_sd_len C_findings M_now M_kept M_isKept M_found M_order M_doubts M_doubtMany M_weights M_worn M_pairs M_isTwice M_doer M_doneTo M_doers M_tape M_taped M_begins M_ends M_sort M_value M_isWrong M_items M_itemMany M_bowThen M_doubtThen M_deedThen M_sayingThen M_widths M_sizes M_numbers M_moved a1 hR 
  obtain ⟨v, e, hv, he, hm, hd, hl, hs, ht, hk0, hk1, hk2, hf, hp, sa, sb, sc, sd⟩ := hR
  obtain ⟨rfl, hlb, rfl, hls, rfl, hld, rfl, rfl, rfl⟩ := hl
  have h8 := vd_hi hv
  have h64 := nn_le hv
  by_cases h1 : inr a1 (v 0) = true
  · obtain ⟨p, hp8, rfl⟩ := inr_t (by omega) h1
    obtain ⟨o_, s_, d_, w_, r_, m_, b_, k_, n_, q_, l_, x_, ef, tb⟩ := c_look hlb hls hv hN C_order C_stepsAt C_doubts C_weights C_rows C_metEver C_bowedTo C_isStale C_bowCount C_doubtCount C_seenBows C_likeliest C_mostSayingsSo hs ht
    have tbb := tb
    obtain ⟨tb1, tb2, rfl, tb4, rfl, tb6, tb7, tb8, rfl, rfl⟩ := tb
    obtain ⟨mo, md, mw, mwo, mp, mt, em, ml, mW⟩ := m_best hm hv hN M_order M_doubts M_doubtMany M_weights M_worn M_pairs M_isTwice
    cases hk : lkl v with
    | none =>
      have es : f_X2_someHolds (-nI 1) = some (b2 false) := by have := c_some hv; rw [hk] at this; exact this
      rw [hk] at em
      have hz : -nI 1 < nI 0 := by decide
      have e2 : f_X8_since_38 N (nI p) (-nI 1) M_now mo md (nI (dc v)) N (nI 100) (nI 0) (nI 99) mwo mp mt = some (nI 100, mwo, mp, mt) := by
        obtain ⟨N', rfl⟩ : ∃ N', N = N' + 1 := ⟨N - 1, by omega⟩
        unfold f_X8_since_38
        rw [if_neg (by decide), if_pos (by decide)]
      simp (disch := omega) only [f_X7_since, f_X8_since, bd_s, gd_tt, jn_s, lit32, gd_ix, nI_clamp, nI_add, pk_mul, nI_leI, nI_ltI, nI_eq, b2_0n, ite_f, ↓reduceIte, Bool.false_eq_true, Bool.true_eq_false, Nat.not_lt_zero, isb_b2, c_has, c_isHour, c_isKind, c_isPerson, m_isHour, m_isKind, m_isSheet, m_w, c_rN, c_rN2, cB, cF, cK, cN, cS, cM, cZ, mB, mF, mK, mN, mS, mM, mZ, h1, m_isOne hm hv, ef, em, es, hk, show lkI none = -nI 1 from rfl, hz, e2, if_neg]
      rw [hk] at tbb
      refine ⟨_, _, rfl, rfl, rfl, ?_⟩; exact ⟨v, e, hv, he, hm, hd, ⟨rfl, hlb, rfl, hls, rfl, hld, rfl, rfl, rfl⟩, Or.inl rfl, fun _ => tbb, hk0, hk1, hk2, (rf_step hf 3 (by decide)), hp, sa, sb, sc, sd⟩
    | some n =>
      have hn := lkl_lt hk
      have es : f_X2_someHolds (nI n) = some (b2 true) := by have := c_some hv; rw [hk] at this; exact this
      have hR := tb7 n hn (wt_wgt (lkl_pos hk))
      obtain ⟨w2, p2, t2, g⟩ := m_sn38 hm hv hN ml hn (p := p) (by omega) 100 N mwo mp mt (by omega) (by omega)
      have g' : f_X8_since_38 N (nI p) (nI n) M_now mo md (nI (dc v)) N (nI 100) (nI 1) (nI 99) mwo mp mt = some (nI (snc v n p 100), w2, p2, t2) := g
      have e1 := c_sn35 (n := n) (p := p) tb2 hv (by omega) (by omega) hR 100 N (by omega) (by omega)
      have hle := snc_le v n p 100
      have hz : ¬ nI n < nI 0 := nI_pos (by omega)
      rw [hk] at em
      by_cases q : snc v n p 100 = 100
      · simp (disch := omega) only [f_X7_since, f_X8_since, bd_s, gd_tt, jn_s, lit32, gd_ix, nI_clamp, nI_add, pk_mul, nI_leI, nI_ltI, nI_eq, b2_0n, ite_f, ↓reduceIte, Bool.false_eq_true, Bool.true_eq_false, Nat.not_lt_zero, isb_b2, c_has, c_isHour, c_isKind, c_isPerson, m_isHour, m_isKind, m_isSheet, m_w, c_rN, c_rN2, cB, cF, cK, cN, cS, cM, cZ, mB, mF, mK, mN, mS, mM, mZ, h1, m_isOne hm hv, ef, em, es, hk, show lkI (some n) = nI n from rfl, hz, e1, g', q, if_neg]
        rw [hk] at tbb
        refine ⟨_, _, rfl, rfl, rfl, ?_⟩; exact ⟨v, e, hv, he, hm, hd, ⟨rfl, hlb, rfl, hls, rfl, hld, rfl, rfl, rfl⟩, Or.inl rfl, fun _ => tbb, hk0, hk1, hk2, (rf_step hf 3 (by decide)), hp, sa, sb, sc, sd⟩
      · have q2 : snc v n p 100 ≤ 99 := by omega
        simp (disch := omega) only [f_X7_since, f_X8_since, bd_s, gd_tt, jn_s, lit32, gd_ix, nI_clamp, nI_add, pk_mul, nI_leI, nI_ltI, nI_eq, b2_0n, ite_f, ↓reduceIte, Bool.false_eq_true, Bool.true_eq_false, Nat.not_lt_zero, isb_b2, c_has, c_isHour, c_isKind, c_isPerson, m_isHour, m_isKind, m_isSheet, m_w, c_rN, c_rN2, cB, cF, cK, cN, cS, cM, cZ, mB, mF, mK, mN, mS, mM, mZ, h1, m_isOne hm hv, ef, em, es, hk, show lkI (some n) = nI n from rfl, hz, e1, g', q, q2]
        rw [hk] at tbb
        refine ⟨_, _, rfl, rfl, rfl, ?_⟩; exact ⟨v, e, hv, he, hm, hd, ⟨rfl, hlb, rfl, hls, rfl, hld, rfl, rfl, rfl⟩, Or.inl rfl, fun _ => tbb, hk0, hk1, hk2, hf, hp, sa, sb, sc, sd⟩
  · have h1 := inr_fp h1
    simp (disch := omega) only [f_X7_since, f_X8_since, bd_s, gd_tt, jn_s, lit32, gd_ix, nI_clamp, nI_add, pk_mul, nI_leI, nI_ltI, nI_eq, b2_0n, ite_f, ↓reduceIte, Bool.false_eq_true, Bool.true_eq_false, Nat.not_lt_zero, isb_b2, c_has, c_isHour, c_isKind, c_isPerson, m_isHour, m_isKind, m_isSheet, m_w, c_rN, c_rN2, cB, cF, cK, cN, cS, cM, cZ, mB, mF, mK, mN, mS, mM, mZ, h1, m_isOne hm hv]
    refine ⟨_, _, rfl, rfl, rfl, ?_⟩; exact ⟨v, e, hv, he, hm, hd, ⟨rfl, hlb, rfl, hls, rfl, hld, rfl, rfl, rfl⟩, hs, ht, hk0, hk1, hk2, (rf_step hf 0 (by decide)), hp, sa, sb, sc, sd⟩
