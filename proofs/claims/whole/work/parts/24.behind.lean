/-! ===== behind, met, lie ===== -/
def mko (w : Nat → Nat) (p : Nat) : Nat := run (fun m => !decide (w m = p)) 8 0
theorem mko_is {s : Nst} (h : Pm s) {p : Nat} (hp : p < 8) : mko s.1 p < 8 ∧ s.1 (mko s.1 p) = p := by
  obtain ⟨m, hm, e⟩ := h.2.2.1 p hp
  have h1 : mko s.1 p < 8 := by
    refine Classical.byContradiction fun q => ?_
    have := run_true (p := fun m => !decide (s.1 m = p)) 8 0 m (by omega) (by unfold mko at q; omega)
    rw [e] at this
    simp at this
  refine ⟨h1, ?_⟩
  show s.1 (run (fun m => !decide (s.1 m = p)) 8 0) = p
  have := run_more (p := fun m => !decide (s.1 m = p)) 8 0 (by unfold mko at h1; omega)
  simpa using this
theorem run_t {p : Nat → Bool} {m k : Nat} (h : p k = true) : run p (m + 1) k = run p m (k + 1) := if_pos h
theorem run_f {p : Nat → Bool} {m k : Nat} (h : p k = false) : run p (m + 1) k = k := if_neg (by rw [h]; decide)
theorem c_mko2 {w : Nat → Nat} {row : Int32} {K : Unit → Option Int32} (h : RW w row) (hw : ∀ m, m < 8 → w m < 8) {p : Nat} (hp : p < 8) : ∀ d f k, k + d = 8 → d < f → run (fun m => !decide (w m = p)) d k < 8 → f_X7_maskOf_2 row (nI p) K f (nI k) = some (nI (run (fun m => !decide (w m = p)) d k))
  | 0, f, k, hk, hf, hr => absurd hr (by show ¬ k < 8; omega)
  | d + 1, f, k, hk, hf, hr => by
    cases f with
    | zero => omega
    | succ f =>
      have hk8 := hw k (by omega)
      unfold f_X7_maskOf_2
      rw [show (8 : Int32) = nI 8 from rfl, if_neg (nI_ge (by omega) (by omega)), c_wearer h (by omega) hk8, bd_s]
      by_cases q : w k = p
      · rw [run_f (by rw [q, decide_eq_true rfl]; rfl), if_pos (by rw [q])]
      · have e1 : run (fun m => !decide (w m = p)) (d + 1) k = run (fun m => !decide (w m = p)) d (k + 1) := run_t (by rw [decide_eq_false q]; rfl)
        rw [e1] at hr ⊢
        rw [if_neg (fun z => q ((nI_eq (by omega) (by omega)).mp z)), nI_1]
        exact c_mko2 h hw hp d f (k + 1) (by omega) (by omega) hr
theorem c_mko {s : Nst} {row : Int32} (h : RW s.1 row) (hs : Pm s) {p N : Nat} (hN : 2000 ≤ N) (hp : p < 8) : f_X7_maskOf N row (nI p) = some (nI (mko s.1 p)) :=
  c_mko2 h hs.1 hp 8 N 0 rfl (by omega) (mko_is hs hp).1
theorem m_mko2 {w : Nat → Nat} {worn : Nat → Int32} (h : ∀ m, m < 8 → worn m = nI (w m)) (hw : ∀ m, m < 8 → w m < 8) {p : Nat} (hp : p < 8) : ∀ d f k, k + d = 8 → d < f → run (fun m => !decide (w m = p)) d k < 8 → f_X8_maskOf_2 (nI p) worn f (nI k) = some (nI (run (fun m => !decide (w m = p)) d k))
  | 0, f, k, hk, hf, hr => absurd hr (by show ¬ k < 8; omega)
  | d + 1, f, k, hk, hf, hr => by
    cases f with
    | zero => omega
    | succ f =>
      have hk8 := hw k (by omega)
      unfold f_X8_maskOf_2
      rw [gd_ix (by omega) (by decide), nI_clamp (by omega), h k (by omega)]
      by_cases q : w k = p
      · rw [run_f (by rw [q, decide_eq_true rfl]; rfl), if_pos (by rw [q])]
      · have e1 : run (fun m => !decide (w m = p)) (d + 1) k = run (fun m => !decide (w m = p)) d (k + 1) := run_t (by rw [decide_eq_false q]; rfl)
        rw [e1] at hr ⊢
        rw [if_neg (fun z => q ((nI_eq (by omega) (by omega)).mp z)), nI_1]
        exact m_mko2 h hw hp d f (k + 1) (by omega) (by omega) hr
theorem m_mko {s : Nst} {worn : Nat → Int32} (h : ∀ m, m < 8 → worn m = nI (s.1 m)) (hs : Pm s) {p N : Nat} (hN : 2000 ≤ N) (hp : p < 8) : f_X8_maskOf N worn (nI p) = some (nI (mko s.1 p)) := by
  unfold f_X8_maskOf
  rw [show f_X8_maskOf_2 (nI p) worn N (0 : Int32) = some (nI (mko s.1 p)) from m_mko2 h hs.1 hp 8 N 0 rfl (by omega) (mko_is hs hp).1, bd_s]
def mkS (v : Nat → Nat) (p h : Nat) : Nat → Nat := orr (fun n => if 0 < wt v n then 2 ^ mko (wr v n h) p else 0)
theorem mkS_s (v : Nat → Nat) (p h k : Nat) : mkS v p h (k + 1) = mkS v p h k ||| (if 0 < wt v k then 2 ^ mko (wr v k h) p else 0) := rfl
theorem mkS_lt {v : Nat → Nat} (hv : Vd v) {p : Nat} (hp : p < 8) (h : Nat) : ∀ k, mkS v p h k < 256
  | 0 => (show (0 : Nat) < 256 by decide)
  | k + 1 => by
    have := (mko_is (Pm_n hv k _ (sts_le v h)) hp).1
    rw [mkS_s]
    refine Nat.or_lt_two_pow (n := 8) (mkS_lt hv hp h k) ?_
    split
    · exact Nat.pow_lt_pow_right (by decide) this
    · decide
theorem c_mk5 {v : Nat → Nat} {stepsAt w rows : Nat → Int32} (hv : Vd v) (hs : ∀ h, h < 100 → stepsAt h = nI (sts v h)) (hw : CW v w) (hR : ∀ n, n < nn v → 0 < wgt v n → RR v rows n (v 3)) {p h N : Nat} (hN : 2000 ≤ N) (hp : p < 8) (hh : h < 100) : ∀ d f k, k + d = nn v → d < f → f_X2_masksOf_5 N (nI p) (nI h) stepsAt w rows (nI (dc v)) f (nI (mkS v p h k)) (nI k) = some (nI (mkS v p h (nn v)))
  | 0, f, k, hk, hf => by
    have h64 := nn_le hv
    cases f with
    | zero => omega
    | succ f =>
      unfold f_X2_masksOf_5
      rw [c_size hv, bd_s, if_pos (nI_le (by omega) (by omega)), show k = nn v by omega]
  | d + 1, f, k, hk, hf => by
    have h64 := nn_le hv
    cases f with
    | zero => omega
    | succ f =>
      have ih := c_mk5 hv hs hw hR hN hp hh d f (k + 1) (by omega) (by omega)
      have hpm := Pm_n hv k _ (sts_le v h)
      have hl : mko (wr v k h) p < 8 := (mko_is hpm hp).1
      unfold f_X2_masksOf_5
      rw [c_size hv, bd_s, if_neg (nI_ge (by omega) (by omega)), c_holds hv hw (by omega), bd_s, ← ih, mkS_s]
      by_cases q : 0 < wt v k
      · have e2 : f_X7_maskOf N (rows (21 * k + sts v h)) (nI p) = some (nI (mko (wr v k h) p)) := c_mko (hR k (by omega) (wt_wgt q) _ (sts_le v h)) hpm hN hp
        rw [decide_eq_true q, if_neg (show ¬ b2 true = 0 by decide), c_row hs hv (by omega) hh, bd_s, e2, bd_s, bd_s, if_pos q, show (1 : Int32) = nI 1 from rfl, show (31 : Int32) = nI 31 from rfl, nI_31 (by omega), nI_1shl (by omega), nI_or, nI_add]
      · rw [decide_eq_false q, if_pos (show b2 false = 0 by decide), bd_s, if_neg q, nI_1, Nat.or_zero]
theorem m_mk32 {v : Nat → Nat} {now : Nat → Int32} (h : RN v now) (hv : Vd v) {N : Nat} (hN : 2000 ≤ N) {order doubts : Nat → Int32} {W : Nat → Int64} (hl : ML v order doubts (nI (dc v))) (hw : MW v W) {pp hh : Nat} (hp : pp < 8) (hh1 : hh < 2 ^ 31) : ∀ d f k (worn : Nat → Int32) (pairs : Int64) (tw : Int32), k + d = nn v → d < f →
    ∃ w p t, f_X8_behind_32 N (nI pp) (nI hh) now order doubts (nI (dc v)) W f (nI (mkS v pp hh k)) (nI k) worn pairs tw = some (nI (mkS v pp hh (nn v)), w, p, t)
  | 0, f, k, worn, pairs, tw, hk, hf => by
    have h64 := nn_le hv
    cases f with
    | zero => omega
    | succ f =>
      refine ⟨worn, pairs, tw, ?_⟩
      unfold f_X8_behind_32
      rw [n_there hv, bd_s, if_pos (nI_le (by omega) (by omega)), show k = nn v by omega]
  | d + 1, f, k, worn, pairs, tw, hk, hf => by
    have h64 := nn_le hv
    have hwk := wt_le hv k
    cases f with
    | zero => omega
    | succ f =>
      obtain ⟨w1, p1, t1, e1, e2⟩ := m_goes h hv hN hl (n := k) (by omega) hh1 worn pairs tw
      obtain ⟨w, p, t, g⟩ := m_mk32 h hv hN hl hw hp hh1 d f (k + 1) w1 p1 t1 (by omega) (by omega)
      refine ⟨w, p, t, ?_⟩
      have hpm := Pm_n hv k _ (sts_le v hh)
      have hl8 : mko (wr v k hh) pp < 8 := (mko_is hpm hp).1
      have ew : f_X8_maskOf N w1 (nI pp) = some (nI (mko (wr v k hh) pp)) := m_mko e2.1 hpm hN hp
      unfold f_X8_behind_32
      rw [n_there hv, bd_s, if_neg (nI_ge (by omega) (by omega)), e1, bd_s, gd_ix (by omega) (by decide), nI_clamp (by omega), hw k (by omega), show (0 : Int64) = lN 0 from rfl, show (0 : Int32) = nI 0 from rfl, ← g, mkS_s]
      dsimp only
      by_cases q : 0 < wt v k
      · rw [if_neg (by rw [lgc_le (by omega)]; omega), ew, bd_s, if_pos q, show (1 : Int32) = nI 1 from rfl, show (31 : Int32) = nI 31 from rfl, nI_31 (by omega), nI_1shl (by omega), bd_s, nI_or, nI_add]
      · rw [if_pos (by rw [lgc_le (by omega)]; omega), bd_s, if_neg q, nI_1, nI_or]
set_option maxHeartbeats 16000000 in
theorem op_behind {N : Nat} (hN : 2000 ≤ N) : Op_behind Rl N := by
  intro C_isKept C_l_bsize C_l_bcells C_l_ssize C_l_scells C_l_dsize C_l_dcells C_l_people C_l_rule C_l_believed C_k_bsize C_k_bcells C_k_ssize C_k_scells C_k_dsize C_k_dcells C_k_people C_k_rule C_k_believed C_d_bsize C_d_bcells C_d_ssize C_d_scells C_d_dsize C_d_dcells C_d_people C_d_rule C_d_believed C_order C_stepsAt C_doubts C_weights C_rows C_metEver C_bowedTo C_isStale C_bowCount C_doubtCount C_seenBows C_likeliest C_mostSayingsSo C_doers C_isTelling C_tbytes C_tlen C_token C_place C_behindIt C_value C_sa_nums C_sa_bits C_sa_len C_sb_nums C_sb_bits C_sb_len C_sc_nums C_sc_bits C_sc_len C_sd_nums C_sd_bits C_sd_len C_findings M_now M_kept M_isKept M_found M_order M_doubts M_doubtMany M_weights M_worn M_pairs M_isTwice M_doer M_doneTo M_doers M_tape M_taped M_begins M_ends M_sort M_value M_isWrong M_items M_itemMany M_bowThen M_doubtThen M_deedThen M_sayingThen M_widths M_sizes M_numbers M_moved a1 a2 hR 
  obtain ⟨v, e, hv, he, hm, hd, hl, hs, ht, hk0, hk1, hk2, hf, hp, sa, sb, sc, sd⟩ := hR
  obtain ⟨rfl, hlb, rfl, hls, rfl, hld, rfl, rfl, rfl⟩ := hl
  have h8 := vd_hi hv
  have h64 := nn_le hv
  by_cases h1 : inr a1 (v 0) = true
  · by_cases h2 : inr a2 100 = true
    · obtain ⟨p, hp8, rfl⟩ := inr_t (by omega) h1
      obtain ⟨h, hh, rfl⟩ := inr_t (by decide) h2
      obtain ⟨o_, s_, d_, w_, r_, m_, b_, k_, n_, q_, l_, x_, ef, tb⟩ := c_look hlb hls hv hN C_order C_stepsAt C_doubts C_weights C_rows C_metEver C_bowedTo C_isStale C_bowCount C_doubtCount C_seenBows C_likeliest C_mostSayingsSo hs ht
      have tbb := tb
      obtain ⟨tb1, tb2, rfl, tb4, rfl, tb6, tb7, tb8, rfl, rfl⟩ := tb
      obtain ⟨mo, md, mw, mwo, mp, mt, em, ml, mW⟩ := m_weigh hm hv hN M_order M_doubts M_doubtMany M_weights M_worn M_pairs M_isTwice
      have e1 : f_X2_masksOf N s_ w_ r_ (nI (dc v)) (nI p) (nI h) = some (nI (mkS v p h (nn v))) := by
        unfold f_X2_masksOf
        rw [show f_X2_masksOf_5 N (nI p) (nI h) s_ w_ r_ (nI (dc v)) N (0 : Int32) (0 : Int32) = some (nI (mkS v p h (nn v))) from c_mk5 hv tb2 tb6 tb7 hN (by omega) hh (nn v) N 0 (by omega) (by omega), bd_s]
      obtain ⟨w2, p2, t2, g⟩ := m_mk32 hm hv hN ml mW (pp := p) (hh := h) (by omega) (by omega) (nn v) N 0 mwo mp mt (by omega) (by omega)
      have g' : f_X8_behind_32 N (nI p) (nI h) M_now mo md (nI (dc v)) mw N (nI 0) (nI 0) mwo mp mt = some (nI (mkS v p h (nn v)), w2, p2, t2) := g
      have hlt := mkS_lt hv (p := p) (by omega) h (nn v)
      rcases onI_or (mkS v p h (nn v)) with ⟨k, hk, hq⟩ | hq
      · have hnm := nI_nm1 (show k < 2 ^ 31 by omega)
        simp (disch := omega) only [f_X7_behind, f_X8_behind, bd_s, gd_tt, jn_s, lit32, gd_ix, nI_clamp, nI_add, pk_mul, nI_leI, nI_ltI, nI_eq, b2_0n, ite_f, ↓reduceIte, Bool.false_eq_true, Bool.true_eq_false, Nat.not_lt_zero, isb_b2, c_has, c_isHour, c_isKind, c_isPerson, m_isHour, m_isKind, m_isSheet, m_w, c_rN, c_rN2, cB, cF, cK, cN, cS, cM, cZ, mB, mF, mK, mN, mS, mM, mZ, h1, h2, m_isOne hm hv, ef, em, e1, g', c_only, m_only, hq, hnm, f_X7_orNone, Nat.zero_le]
        refine ⟨_, _, rfl, rfl, rfl, ?_⟩; exact ⟨v, e, hv, he, hm, hd, ⟨rfl, hlb, rfl, hls, rfl, hld, rfl, rfl, rfl⟩, Or.inl rfl, fun _ => tbb, hk0, hk1, hk2, hf, hp, sa, sb, sc, sd⟩
      · have hz : ¬ nI 0 ≤ -nI 1 := by decide
        simp (disch := omega) only [f_X7_behind, f_X8_behind, bd_s, gd_tt, jn_s, lit32, gd_ix, nI_clamp, nI_add, pk_mul, nI_leI, nI_ltI, nI_eq, b2_0n, ite_f, ↓reduceIte, Bool.false_eq_true, Bool.true_eq_false, Nat.not_lt_zero, isb_b2, c_has, c_isHour, c_isKind, c_isPerson, m_isHour, m_isKind, m_isSheet, m_w, c_rN, c_rN2, cB, cF, cK, cN, cS, cM, cZ, mB, mF, mK, mN, mS, mM, mZ, h1, h2, m_isOne hm hv, ef, em, e1, g', c_only, m_only, hq, hz, f_X7_orNone]
        refine ⟨_, _, rfl, rfl, rfl, ?_⟩; exact ⟨v, e, hv, he, hm, hd, ⟨rfl, hlb, rfl, hls, rfl, hld, rfl, rfl, rfl⟩, Or.inl rfl, fun _ => tbb, hk0, hk1, hk2, (rf_step hf 3 (by decide)), hp, sa, sb, sc, sd⟩
    · have h2 := inr_fp h2
      simp (disch := omega) only [f_X7_behind, f_X8_behind, bd_s, gd_tt, jn_s, lit32, gd_ix, nI_clamp, nI_add, pk_mul, nI_leI, nI_ltI, nI_eq, b2_0n, ite_f, ↓reduceIte, Bool.false_eq_true, Bool.true_eq_false, Nat.not_lt_zero, isb_b2, c_has, c_isHour, c_isKind, c_isPerson, m_isHour, m_isKind, m_isSheet, m_w, c_rN, c_rN2, cB, cF, cK, cN, cS, cM, cZ, mB, mF, mK, mN, mS, mM, mZ, h1, h2, m_isOne hm hv]
      refine ⟨_, _, rfl, rfl, rfl, ?_⟩; exact ⟨v, e, hv, he, hm, hd, ⟨rfl, hlb, rfl, hls, rfl, hld, rfl, rfl, rfl⟩, hs, ht, hk0, hk1, hk2, (rf_step hf 0 (by decide)), hp, sa, sb, sc, sd⟩
  · have h1 := inr_fp h1
    simp (disch := omega) only [f_X7_behind, f_X8_behind, bd_s, gd_tt, jn_s, lit32, gd_ix, nI_clamp, nI_add, pk_mul, nI_leI, nI_ltI, nI_eq, b2_0n, ite_f, ↓reduceIte, Bool.false_eq_true, Bool.true_eq_false, Nat.not_lt_zero, isb_b2, c_has, c_isHour, c_isKind, c_isPerson, m_isHour, m_isKind, m_isSheet, m_w, c_rN, c_rN2, cB, cF, cK, cN, cS, cM, cZ, mB, mF, mK, mN, mS, mM, mZ, h1, m_isOne hm hv]
    refine ⟨_, _, rfl, rfl, rfl, ?_⟩; exact ⟨v, e, hv, he, hm, hd, ⟨rfl, hlb, rfl, hls, rfl, hld, rfl, rfl, rfl⟩, hs, ht, hk0, hk1, hk2, (rf_step hf 0 (by decide)), hp, sa, sb, sc, sd⟩
/-- none but the persons there are bow -/
theorem nst_lo {v : Nat → Nat} (hv : Vd v) (n : Nat) : ∀ k, k ≤ v 3 → (∀ m, m < v 0 → (nst v n k).1 m < v 0) ∧ ∀ x y, (nst v n k).2.1 x y = true → x < v 0 ∧ y < v 0
  | 0, _ => ⟨fun m h => h, fun x y h => by cases h⟩
  | k + 1, hk => by
    obtain ⟨h1, h2⟩ := nst_lo hv n k (by omega)
    unfold nst
    by_cases hm : mad v n (od v k) = true
    · rw [if_pos hm]
      obtain ⟨-, a1, a2, a3, -⟩ := vd_b hv (od v k) (od_lt (by omega))
      refine ⟨fun m hm => ?_, fun x y h => ?_⟩
      · show swp _ _ _ m < _
        by_cases q1 : m = v (6 + 4 * od v k + 1)
        · rw [q1, swp_a]; exact h1 _ a2
        · by_cases q2 : m = v (6 + 4 * od v k + 2)
          · rw [q2, swp_b]; exact h1 _ a1
          · rw [swp_n q1 q2]; exact h1 m hm
      · have h : ((nst v n k).2.1 x y || (decide (x = _) && decide (y = _)) || (decide (x = _) && decide (y = _))) = true := h
        simp only [Bool.or_eq_true, Bool.and_eq_true, decide_eq_true_eq] at h
        rcases h with (h | ⟨rfl, rfl⟩) | ⟨rfl, rfl⟩
        · exact h2 x y h
        · exact ⟨h1 _ a1, h1 _ a2⟩
        · exact ⟨h1 _ a2, h1 _ a1⟩
    · rw [if_neg hm]; exact ⟨h1, h2⟩
theorem metS_lo {v : Nat → Nat} (hv : Vd v) {p q : Nat} : ∀ k, metS v p q k = true → q < v 0
  | 0, h => by cases h
  | k + 1, h => by
    have h : (metS v p q k || (decide (0 < wt v k) && (nst v k (v 3)).2.1 p q)) = true := h
    rw [Bool.or_eq_true, Bool.and_eq_true] at h
    rcases h with h | h
    · exact metS_lo hv k h
    · exact ((nst_lo hv k (v 3) (Nat.le_refl _)).2 p q h.2).2
/-- a set of those met, in nights ahead of k and in night k up to person j -/
def MB (v : Nat → Nat) (p k j x : Nat) : Prop := x < 2 ^ 8 ∧ ∀ q, q < 8 → x.testBit q = (metS v p q k || (decide (q < j) && decide (0 < wt v k) && (nst v k (v 3)).2.1 p q))
theorem m_met42 {v : Nat → Nat} {now : Nat → Int32} (h : RN v now) (hv : Vd v) {W : Nat → Int64} (hw : MW v W) {p n : Nat} (hp : p < 8) (hn : n < nn v) {worn : Nat → Int32} {pairs : Int64} {tw : Int32} (hs : MS (nst v n (v 3)) worn pairs tw) : ∀ d f j x, j + d = v 0 → d < f → MB v p n j x → ∃ y, f_X8_met_42 (nI p) (nI n) now W pairs f (nI x) (nI j) = some (nI y) ∧ MB v p (n + 1) 0 y
  | 0, f, j, x, hj, hf, hb => by
    have h8 := vd_hi hv
    cases f with
    | zero => omega
    | succ f =>
      have hc : v 0 ≤ j := by omega
      refine ⟨x, ?_, hb.1, fun q hq => ?_⟩
      · simp (disch := omega) only [f_X8_met_42, bd_s, gd_tt, jn_s, lit32, gd_ix, nI_clamp, nI_add, pk_mul, nI_leI, nI_ltI, nI_eq, b2_0n, ite_f, ↓reduceIte, Bool.false_eq_true, Bool.true_eq_false, Nat.not_lt_zero, isb_b2, c_has, c_isHour, c_isKind, c_isPerson, m_isHour, m_isKind, m_isSheet, m_w, c_rN, c_rN2, cB, cF, cK, cN, cS, cM, cZ, mB, mF, mK, mN, mS, mM, mZ, rn_at h, hc]
      · rw [hb.2 q hq]
        show _ = (metS v p q n || (decide (0 < wt v n) && (nst v n (v 3)).2.1 p q) || _)
        rw [show decide (q < 0) = false from decide_eq_false (Nat.not_lt_zero _), Bool.false_and, Bool.false_and, Bool.or_false]
        by_cases q2 : q < j
        · rw [decide_eq_true q2, Bool.true_and]
        · have : (nst v n (v 3)).2.1 p q = false := by
            cases hz : (nst v n (v 3)).2.1 p q
            · rfl
            · have := ((nst_lo hv n (v 3) (Nat.le_refl _)).2 p q hz).2; omega
          rw [this]; simp
  | d + 1, f, j, x, hj, hf, hb => by
    have h8 := vd_hi hv
    have h64 := nn_le hv
    have hwk := wt_le hv n
    cases f with
    | zero => omega
    | succ f =>
      have hc : ¬ v 0 ≤ j := by omega
      by_cases q : 0 < wt v n
      · obtain ⟨hsa, ⟨P, rfl, hP, hB⟩, hsb⟩ := hs
        have hpm := Pm_n hv n (v 3) (Nat.le_refl _)
        obtain ⟨lo, hi, hlh, hhi, hbit, hmin, hmax⟩ : ∃ lo hi, lo ≤ hi ∧ hi < 8 ∧ P.testBit (8 * lo + hi) = (nst v n (v 3)).2.1 p j ∧ (if nI p < nI j then nI p else nI j) = nI lo ∧ (if nI j < nI p then nI p else nI j) = nI hi := by
          by_cases q : p < j
          · exact ⟨p, j, by omega, by omega, hB p j (by omega) (by omega), if_pos (nI_lt q (by omega)), if_neg (nI_nlt (by omega) (by omega))⟩
          · refine ⟨j, p, by omega, hp, by rw [hB j p (by omega) hp, hpm.2.2.2.1], if_neg (nI_nlt (by omega) (by omega)), ?_⟩
            by_cases q2 : j < p
            · exact if_pos (nI_lt q2 (by omega))
            · rw [if_neg (nI_nlt (by omega) (by omega))]; congr 1; omega
        have hpw : 2 ^ j < 2 ^ 8 := Nat.pow_lt_pow_right (by decide) (by omega)
        have hb' : MB v p n (j + 1) (x ||| (if (nst v n (v 3)).2.1 p j = true then 2 ^ j else 0)) := by
          refine ⟨Nat.or_lt_two_pow hb.1 (by split; exact hpw; exact Nat.two_pow_pos _), fun z hz => ?_⟩
          rw [Nat.testBit_or, hb.2 z hz]
          by_cases qz : z = j
          · subst qz
            rw [decide_eq_false (Nat.lt_irrefl z), decide_eq_true (Nat.lt_succ_self z), decide_eq_true q]
            cases hq : (nst v n (v 3)).2.1 p z
            · simp
            · simp [Nat.testBit_two_pow_self]
          · have e1 : (if (nst v n (v 3)).2.1 p j = true then 2 ^ j else 0).testBit z = false := by
              split
              · rw [Nat.testBit_two_pow, decide_eq_false (fun w => qz w.symm)]
              · exact Nat.zero_testBit _
            rw [e1, Bool.or_false, show decide (z < j + 1) = decide (z < j) from decide_eq_decide.mpr (by omega)]
        obtain ⟨y, g1, g2⟩ := m_met42 h hv hw hp hn (worn := worn) (tw := tw) ⟨hsa, ⟨P, rfl, hP, hB⟩, hsb⟩ d f (j + 1) _ (by omega) (by omega) hb'
        refine ⟨y, ?_, g2⟩
        have hx : (((lN P >>> lN (8 * lo + hi)) &&& lN 1).toInt32) = b2 (P.testBit (8 * lo + hi)) := by
          rw [lN_shr hP (by omega), lN_and, nat_bit]
          cases P.testBit (8 * lo + hi) <;> rfl
        unfold f_X8_met_42
        rw [← g1]
        rw [show (0 : Int32).toNatClampNeg = 0 from rfl, rn_at h (by omega) (by omega) (by omega), if_neg (nI_ge (by omega) (by omega)), gd_ix (by omega) (by decide), nI_clamp (by omega), hw n hn, show (0 : Int64) = lN 0 from rfl, show (0 : Int32) = nI 0 from rfl, if_neg (by rw [lgc_le (by omega)]; omega), hmin, hmax]
        rw [show (8 : Int32) = nI 8 from rfl, pk_mul, nI_add, nI_l (by omega), show (63 : Int64) = lN 63 from rfl, lN_63 (by omega), show (1 : Int64) = lN 1 from rfl, hx, hbit, show (31 : Int32) = nI 31 from rfl, nI_31 (by omega), nI_1]
        congr 1
        cases (nst v n (v 3)).2.1 p j
        · rw [if_neg (by decide), Nat.or_zero, b2_f, show (0 : Int32) = nI 0 from rfl, nI_shl (by omega) (by simp), nI_or, Nat.zero_shiftLeft, Nat.or_zero]
        · rw [if_pos rfl, b2_t, show (1 : Int32) = nI 1 from rfl, nI_1shl (by omega), nI_or]
      · refine ⟨x, ?_, hb.1, fun z hz => ?_⟩
        · unfold f_X8_met_42
          rw [show (0 : Int32).toNatClampNeg = 0 from rfl, rn_at h (by omega) (by omega) (by omega), if_neg (nI_ge (by omega) (by omega)), gd_ix (by omega) (by decide), nI_clamp (by omega), hw n hn, show (0 : Int64) = lN 0 from rfl, show (0 : Int32) = nI 0 from rfl, if_pos (by rw [lgc_le (by omega)]; omega)]
        · rw [hb.2 z hz, decide_eq_false q]
          show _ = (metS v p z n || (decide (0 < wt v n) && (nst v n (v 3)).2.1 p z) || _)
          rw [decide_eq_false q, decide_eq_false (Nat.not_lt_zero z)]; simp
theorem m_met24 {v : Nat → Nat} {now : Nat → Int32} (h : RN v now) (hv : Vd v) {N : Nat} (hN : 2000 ≤ N) {order doubts : Nat → Int32} {W : Nat → Int64} (hl : ML v order doubts (nI (dc v))) (hw : MW v W) {p : Nat} (hp : p < 8) : ∀ d f k x (worn : Nat → Int32) (pairs : Int64) (tw : Int32), k + d = nn v → d < f → MB v p k 0 x →
    ∃ y w q t, f_X8_met_24 N (nI p) now order doubts (nI (dc v)) W f (nI x) (nI k) worn pairs tw = some (nI y, w, q, t) ∧ MB v p (nn v) 0 y
  | 0, f, k, x, worn, pairs, tw, hk, hf, hb => by
    have h64 := nn_le hv
    cases f with
    | zero => omega
    | succ f =>
      have hk : k = nn v := by omega
      refine ⟨x, worn, pairs, tw, ?_, by rw [← hk]; exact hb⟩
      unfold f_X8_met_24
      rw [n_there hv, bd_s, if_pos (nI_le (by omega) (by omega))]
  | d + 1, f, k, x, worn, pairs, tw, hk, hf, hb => by
    have h64 := nn_le hv
    have h8 := vd_hi hv
    cases f with
    | zero => omega
    | succ f =>
      obtain ⟨w1, p1, t1, e1, e2⟩ := m_goes h hv hN hl (n := k) (by omega) (hour := 99) (by decide) worn pairs tw
      rw [sts_99 hv] at e2
      obtain ⟨y, g1, g2⟩ := m_met42 h hv hw hp (n := k) (by omega) e2 (v 0) N 0 x (by omega) (by omega) hb
      obtain ⟨y2, w, q, t, g3, g4⟩ := m_met24 h hv hN hl hw hp d f (k + 1) y w1 p1 t1 (by omega) (by omega) g2
      refine ⟨y2, w, q, t, ?_, g4⟩
      unfold f_X8_met_24
      rw [n_there hv, bd_s, if_neg (nI_ge (by omega) (by omega)), show (99 : Int32) = nI 99 from rfl, e1, bd_s]
      dsimp only
      rw [show (0 : Int32) = nI 0 from rfl, g1, bd_s, nI_1]
      exact g3
set_option maxHeartbeats 16000000 in
theorem op_met {N : Nat} (hN : 2000 ≤ N) : Op_met Rl N := by
  intro C_isKept C_l_bsize C_l_bcells C_l_ssize C_l_scells C_l_dsize C_l_dcells C_l_people C_l_rule C_l_believed C_k_bsize C_k_bcells C_k_ssize C_k_scells C_k_dsize C_k_dcells C_k_people C_k_rule C_k_believed C_d_bsize C_d_bcells C_d_ssize C_d_scells C_d_dsize C_d_dcells C_d_people C_d_rule C_d_believed C_order C_stepsAt C_doubts C_weights C_rows C_metEver C_bowedTo C_isStale C_bowCount C_doubtCount C_seenBows C_likeliest C_mostSayingsSo C_doers C_isTelling C_tbytes C_tlen C_token C_place C_behindIt C_value C_sa_nums C_sa_bits C_sa_len C_sb_nums C_sb_bits C_sb_len C_sc_nums C_sc_bits C_sc_len C_sd_nums C_sd_bits C_sd_len C_findings M_now M_kept M_isKept M_found M_order M_doubts M_doubtMany M_weights M_worn M_pairs M_isTwice M_doer M_doneTo M_doers M_tape M_taped M_begins M_ends M_sort M_value M_isWrong M_items M_itemMany M_bowThen M_doubtThen M_deedThen M_sayingThen M_widths M_sizes M_numbers M_moved a1 hR 
  obtain ⟨v, e, hv, he, hm, hd, hl, hs, ht, hk0, hk1, hk2, hf, hp, sa, sb, sc, sd⟩ := hR
  obtain ⟨rfl, hlb, rfl, hls, rfl, hld, rfl, rfl, rfl⟩ := hl
  have h8 := vd_hi hv
  have h64 := nn_le hv
  by_cases h1 : inr a1 (v 0) = true
  · obtain ⟨p, hp8, rfl⟩ := inr_t (by omega) h1
    obtain ⟨o_, s_, d_, w_, r_, m_, b_, k_, n_, q_, l_, x_, ef, tb⟩ := c_look hlb hls hv hN C_order C_stepsAt C_doubts C_weights C_rows C_metEver C_bowedTo C_isStale C_bowCount C_doubtCount C_seenBows C_likeliest C_mostSayingsSo hs ht
    have tbb := tb
    obtain ⟨tb1, tb2, rfl, tb4, rfl, tb6, tb7, tb8, rfl, rfl⟩ := tb
    obtain ⟨mo, md, mw, mwo, mp, mt, em, ml, mW⟩ := m_weigh hm hv hN M_order M_doubts M_doubtMany M_weights M_worn M_pairs M_isTwice
    obtain ⟨y, w2, p2, t2, g, hy1, hy2⟩ := m_met24 hm hv hN ml mW (p := p) (by omega) (nn v) N 0 0 mwo mp mt (by omega) (by omega) ⟨by decide, fun q hq => by rw [Nat.zero_testBit, decide_eq_false (Nat.not_lt_zero q)]; rfl⟩
    obtain ⟨e0, c1, c2, c3⟩ := tb8 p (by omega)
    have hye : y = e0 := by
      apply Nat.eq_of_testBit_eq
      intro q
      by_cases hq : q < 8
      · rw [hy2 q hq, c3 q hq, decide_eq_false (Nat.not_lt_zero q)]; simp
      · rw [Nat.testBit_lt_two_pow (Nat.lt_of_lt_of_le hy1 (Nat.pow_le_pow_right (by decide) (by omega))), Nat.testBit_lt_two_pow (Nat.lt_of_lt_of_le (show e0 < 2 ^ 8 from c2) (Nat.pow_le_pow_right (by decide) (by omega)))]
    have e2 : f_X2_metBy m_ (nI p) = some (nI y) := by
      unfold f_X2_metBy
      rw [if_neg (nI_pos (by omega)), if_neg (show ¬ (8 : Int32) ≤ nI p from nI_ge (b := 8) (by omega) (by decide)), gd_ix (by omega) (by decide), nI_clamp (by omega), c1, hye]
    simp (disch := omega) only [f_X7_met, f_X8_met, bd_s, gd_tt, jn_s, lit32, gd_ix, nI_clamp, nI_add, pk_mul, nI_leI, nI_ltI, nI_eq, b2_0n, ite_f, ↓reduceIte, Bool.false_eq_true, Bool.true_eq_false, Nat.not_lt_zero, isb_b2, c_has, c_isHour, c_isKind, c_isPerson, m_isHour, m_isKind, m_isSheet, m_w, c_rN, c_rN2, cB, cF, cK, cN, cS, cM, cZ, mB, mF, mK, mN, mS, mM, mZ, h1, m_isOne hm hv, ef, em, e2, g]
    refine ⟨_, _, rfl, rfl, rfl, ?_⟩; exact ⟨v, e, hv, he, hm, hd, ⟨rfl, hlb, rfl, hls, rfl, hld, rfl, rfl, rfl⟩, Or.inl rfl, fun _ => tbb, hk0, hk1, hk2, hf, hp, sa, sb, sc, sd⟩
  · have h1 := inr_fp h1
    simp (disch := omega) only [f_X7_met, f_X8_met, bd_s, gd_tt, jn_s, lit32, gd_ix, nI_clamp, nI_add, pk_mul, nI_leI, nI_ltI, nI_eq, b2_0n, ite_f, ↓reduceIte, Bool.false_eq_true, Bool.true_eq_false, Nat.not_lt_zero, isb_b2, c_has, c_isHour, c_isKind, c_isPerson, m_isHour, m_isKind, m_isSheet, m_w, c_rN, c_rN2, cB, cF, cK, cN, cS, cM, cZ, mB, mF, mK, mN, mS, mM, mZ, h1, m_isOne hm hv]
    refine ⟨_, _, rfl, rfl, rfl, ?_⟩; exact ⟨v, e, hv, he, hm, hd, ⟨rfl, hlb, rfl, hls, rfl, hld, rfl, rfl, rfl⟩, hs, ht, hk0, hk1, hk2, (rf_step hf 0 (by decide)), hp, sa, sb, sc, sd⟩
theorem m_lie20 {v : Nat → Nat} {now : Nat → Int32} (h : RN v now) (hv : Vd v) {N : Nat} (hN : 2000 ≤ N) {order doubts : Nat → Int32} (hl : ML v order doubts (nI (dc v))) {s : Nat} (hs : s < v 5) : ∀ d f k (worn : Nat → Int32) (pairs : Int64) (tw : Int32), k + d = nn v → d < f →
    ∃ w p t, f_X8_lie_20 N (nI s) now order doubts (nI (dc v)) f (b2 (decide (s + 1 ≤ msf v k))) (nI k) worn pairs tw = some (b2 (decide (s + 1 ≤ msf v (nn v))), w, p, t)
  | 0, f, k, worn, pairs, tw, hk, hf => by
    have h64 := nn_le hv
    cases f with
    | zero => omega
    | succ f =>
      refine ⟨worn, pairs, tw, ?_⟩
      unfold f_X8_lie_20
      rw [n_there hv, bd_s, if_pos (nI_le (by omega) (by omega)), show k = nn v by omega]
  | d + 1, f, k, worn, pairs, tw, hk, hf => by
    have h64 := nn_le hv
    have h5 := vd_5 hv
    have hkn : k < nn v := by omega
    have hw6 := wgt_le hv k
    cases f with
    | zero => omega
    | succ f =>
      have em : msf v (k + 1) = if 0 < wgt v k ∧ barR v k = false then Nat.max (msf v k) (lead v k) else msf v k := rfl
      have fin : ∀ (b : Bool) (w' : Nat → Int32) (p' : Int64) (t' : Int32), b = decide (s + 1 ≤ msf v (k + 1)) → ∃ w p t, f_X8_lie_20 N (nI s) now order doubts (nI (dc v)) f (b2 b) (nI (k + 1)) w' p' t' = some (b2 (decide (s + 1 ≤ msf v (nn v))), w, p, t) := fun b w' p' t' hb => by
        rw [hb]; exact m_lie20 h hv hN hl hs d f (k + 1) w' p' t' (by omega) (by omega)
      by_cases q : s + 1 ≤ msf v k
      · have hq : true = decide (s + 1 ≤ msf v (k + 1)) := by
          rw [decide_eq_true]
          rw [em]; split
          · exact Nat.le_trans q (Nat.le_max_left _ _)
          · exact q
        obtain ⟨w, p, t, g⟩ := fin true worn pairs tw hq
        refine ⟨w, p, t, ?_⟩
        unfold f_X8_lie_20
        rw [← g]
        rw [n_there hv, bd_s, if_neg (nI_ge (by omega) (by omega)), decide_eq_true q, if_neg (show ¬ b2 true = 0 by decide), bd_s, nI_1]
        rfl
      · have hz : decide (s + 1 ≤ msf v k) = false := decide_eq_false q
        by_cases q0 : wgt v k = 0
        · obtain ⟨w, p, t, g⟩ := fin false worn pairs tw (by rw [em, if_neg (by omega), hz])
          refine ⟨w, p, t, ?_⟩
          unfold f_X8_lie_20
          rw [← g]
          rw [n_there hv, bd_s, if_neg (nI_ge (by omega) (by omega)), hz, if_pos (show b2 false = 0 by decide), m_weightOf h hv hN hl.2.2 hkn, bd_s, show (0 : Int64) = lN 0 from rfl, show (0 : Int32) = nI 0 from rfl, if_pos (by rw [lgc_le (by omega)]; exact q0), bd_s, nI_1]
          rfl
        · obtain ⟨w1, p1, t1, e1⟩ := m_breaks h hv hN hl hkn worn pairs tw
          by_cases qb : barR v k = true
          · obtain ⟨w, p, t, g⟩ := fin false w1 p1 t1 (by rw [em, if_neg (by rw [qb]; simp), hz])
            refine ⟨w, p, t, ?_⟩
            unfold f_X8_lie_20
            rw [← g]
            rw [n_there hv, bd_s, if_neg (nI_ge (by omega) (by omega)), hz, if_pos (show b2 false = 0 by decide), m_weightOf h hv hN hl.2.2 hkn, bd_s, show (0 : Int64) = lN 0 from rfl, show (0 : Int32) = nI 0 from rfl, if_neg (by rw [lgc_le (by omega)]; exact q0), e1, bd_s, qb]
            dsimp only
            rw [if_neg (by decide), bd_s, nI_1]
            rfl
          · have qb : barR v k = false := by simpa using qb
            obtain ⟨w2, p2, t2, e2⟩ := m_areSo h hv hN hl hkn (many := s + 1) (by omega) w1 p1 t1
            have hso : allSo v k (s + 1) = decide (s + 1 ≤ msf v (k + 1)) := by
              rw [em, if_pos ⟨by omega, qb⟩, Bool.eq_iff_iff, decide_eq_true_iff, ← lead_iff v k (by omega)]
              show _ ↔ s + 1 ≤ max (msf v k) (lead v k)
              omega
            obtain ⟨w, p, t, g⟩ := fin (allSo v k (s + 1)) w2 p2 t2 hso
            refine ⟨w, p, t, ?_⟩
            unfold f_X8_lie_20
            rw [← g]
            rw [n_there hv, bd_s, if_neg (nI_ge (by omega) (by omega)), hz, if_pos (show b2 false = 0 by decide), m_weightOf h hv hN hl.2.2 hkn, bd_s, show (0 : Int64) = lN 0 from rfl, show (0 : Int32) = nI 0 from rfl, if_neg (by rw [lgc_le (by omega)]; exact q0), e1, bd_s, qb]
            dsimp only
            rw [if_pos (by decide), nI_1, e2, bd_s]
            dsimp only
            rw [nI_1]
            cases allSo v k (s + 1) <;> rfl
theorem m_lie6 {v : Nat → Nat} {now found : Nat → Int32} (h : RN v now) (hv : Vd v) {N : Nat} (hN : 2000 ≤ N) {order doubts : Nat → Int32} (hl : ML v order doubts (nI (dc v))) {K : ((Nat → Int32) × Int64 × Int32) → Option (Int32 × (Nat → Int32) × (Nat → Int32) × (Nat → Int32) × Int32 × (Nat → Int32) × Int64 × Int32)} (hK : msf v (nn v) = v 5 → ∀ x, ∃ w p t, K x = some (-nI 1000000004, fmu found 3, order, doubts, nI (dc v), w, p, t)) : ∀ d f s (worn : Nat → Int32) (pairs : Int64) (tw : Int32), s + d = v 5 → d < f → s ≤ msf v (nn v) →
    ∃ w p t, f_X8_lie_6 N now found order doubts (nI (dc v)) K f (nI s) worn pairs tw = some (if msf v (nn v) < v 5 then nI (msf v (nn v)) else -nI 1000000004, if msf v (nn v) < v 5 then found else fmu found 3, order, doubts, nI (dc v), w, p, t)
  | 0, f, s, worn, pairs, tw, hk, hf, hle => by
    have h5 := vd_5 hv
    have hms := msf_le v (nn v)
    cases f with
    | zero => omega
    | succ f =>
      obtain ⟨w, p, t, e⟩ := hK (by omega) (worn, pairs, tw)
      refine ⟨w, p, t, ?_⟩
      unfold f_X8_lie_6
      rw [show (5 : Int32).toNatClampNeg = 5 from rfl, rn_at h (by omega) (by omega) (by omega), if_pos (nI_le (by omega) (by omega)), e, if_neg (by omega), if_neg (by omega)]
  | d + 1, f, s, worn, pairs, tw, hk, hf, hle => by
    have h5 := vd_5 hv
    have h64 := nn_le hv
    cases f with
    | zero => omega
    | succ f =>
      obtain ⟨w1, p1, t1, e1⟩ := m_lie20 h hv hN hl (s := s) (by omega) (nn v) N 0 worn pairs tw (by omega) (by omega)
      rw [show b2 (decide (s + 1 ≤ msf v 0)) = nI 0 by rw [decide_eq_false (by show ¬ s + 1 ≤ 0; omega)]; rfl] at e1
      by_cases q : s + 1 ≤ msf v (nn v)
      · obtain ⟨w, p, t, g⟩ := m_lie6 h hv hN hl hK d f (s + 1) w1 p1 t1 (by omega) (by omega) q
        refine ⟨w, p, t, ?_⟩
        unfold f_X8_lie_6
        rw [← g]
        rw [show (5 : Int32).toNatClampNeg = 5 from rfl, rn_at h (by omega) (by omega) (by omega), if_neg (nI_ge (by omega) (by omega)), show (0 : Int32) = nI 0 from rfl, e1, bd_s, decide_eq_true q]
        dsimp only
        rw [if_neg (by decide), nI_1]
      · refine ⟨w1, p1, t1, ?_⟩
        unfold f_X8_lie_6
        rw [show (5 : Int32).toNatClampNeg = 5 from rfl, rn_at h (by omega) (by omega) (by omega), if_neg (nI_ge (by omega) (by omega)), show (0 : Int32) = nI 0 from rfl, e1, bd_s, decide_eq_false q]
        dsimp only
        rw [if_pos (by decide), if_pos (by omega), if_pos (by omega), show msf v (nn v) = s by omega]
set_option maxHeartbeats 16000000 in
theorem op_lie {N : Nat} (hN : 2000 ≤ N) : Op_lie Rl N := by
  intro C_isKept C_l_bsize C_l_bcells C_l_ssize C_l_scells C_l_dsize C_l_dcells C_l_people C_l_rule C_l_believed C_k_bsize C_k_bcells C_k_ssize C_k_scells C_k_dsize C_k_dcells C_k_people C_k_rule C_k_believed C_d_bsize C_d_bcells C_d_ssize C_d_scells C_d_dsize C_d_dcells C_d_people C_d_rule C_d_believed C_order C_stepsAt C_doubts C_weights C_rows C_metEver C_bowedTo C_isStale C_bowCount C_doubtCount C_seenBows C_likeliest C_mostSayingsSo C_doers C_isTelling C_tbytes C_tlen C_token C_place C_behindIt C_value C_sa_nums C_sa_bits C_sa_len C_sb_nums C_sb_bits C_sb_len C_sc_nums C_sc_bits C_sc_len C_sd_nums C_sd_bits C_sd_len C_findings M_now M_kept M_isKept M_found M_order M_doubts M_doubtMany M_weights M_worn M_pairs M_isTwice M_doer M_doneTo M_doers M_tape M_taped M_begins M_ends M_sort M_value M_isWrong M_items M_itemMany M_bowThen M_doubtThen M_deedThen M_sayingThen M_widths M_sizes M_numbers M_moved  hR 
  obtain ⟨v, e, hv, he, hm, hd, hl, hs, ht, hk0, hk1, hk2, hf, hp, sa, sb, sc, sd⟩ := hR
  obtain ⟨rfl, hlb, rfl, hls, rfl, hld, rfl, rfl, rfl⟩ := hl
  have h5 := vd_5 hv
  have hms := msf_le v (nn v)
  obtain ⟨o_, s_, d_, w_, r_, m_, b_, k_, n_, q_, l_, x_, ef, tb⟩ := c_look hlb hls hv hN C_order C_stepsAt C_doubts C_weights C_rows C_metEver C_bowedTo C_isStale C_bowCount C_doubtCount C_seenBows C_likeliest C_mostSayingsSo hs ht
  have tbb := tb
  obtain ⟨tb1, tb2, rfl, tb4, rfl, tb6, tb7, tb8, rfl, rfl⟩ := tb
  obtain ⟨mo, md, em, ml⟩ := m_lay hm hv hN M_order M_doubts M_doubtMany
  obtain ⟨w2, p2, t2, g⟩ := m_lie6 (found := M_found) hm hv hN ml (K := fun u_14 => (bd (f_X8_finding M_found (-nI 1000000004)) (fun u_15 => some (u_15.1, u_15.2, mo, md, nI (dc v), u_14.1, u_14.2.1, u_14.2.2)))) (fun _ x => ⟨x.1, x.2.1, x.2.2, rfl⟩) (v 5) N 0 M_worn M_pairs M_isTwice (by omega) (by omega) (Nat.zero_le _)
  by_cases q : msf v (nn v) < v 5
  · have q2 : ¬ v 5 ≤ msf v (nn v) := by omega
    have hnm := nI_nm1 (show msf v (nn v) < 2 ^ 31 by omega)
    rw [if_pos q, if_pos q] at g
    simp (disch := omega) only [f_X7_lie, f_X8_lie, bd_s, lit32, ef, em, f_X2_firstLie, f_X4_size, nI_leI, q2, ↓reduceIte, f_X7_orNone, hnm, g]
    refine ⟨_, _, rfl, rfl, rfl, ?_⟩; exact ⟨v, e, hv, he, hm, hd, ⟨rfl, hlb, rfl, hls, rfl, hld, rfl, rfl, rfl⟩, Or.inl rfl, fun _ => tbb, hk0, hk1, hk2, hf, hp, sa, sb, sc, sd⟩
  · have q2 : v 5 ≤ msf v (nn v) := by omega
    rw [if_neg q, if_neg q] at g
    simp (disch := omega) only [f_X7_lie, f_X8_lie, bd_s, lit32, ef, em, f_X2_firstLie, f_X4_size, nI_leI, q2, ↓reduceIte, f_X7_orNone, g, cN]
    refine ⟨_, _, rfl, rfl, rfl, ?_⟩; exact ⟨v, e, hv, he, hm, hd, ⟨rfl, hlb, rfl, hls, rfl, hld, rfl, rfl, rfl⟩, Or.inl rfl, fun _ => tbb, hk0, hk1, hk2, (rf_step hf 3 (by decide)), hp, sa, sb, sc, sd⟩
