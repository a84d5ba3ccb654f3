/-! ===== read, lays, feed ===== -/
def tlB (nums : Nat → Int64) (w : Nat → Nat) : Nat → Bool
  | 0 => true
  | k + 1 => tlB nums w k && decide (nums k = lN (w k))
theorem tlB_s (nums : Nat → Int64) (w : Nat → Nat) (k : Nat) : tlB nums w (k + 1) = (tlB nums w k && decide (nums k = lN (w k))) := rfl
theorem tlB_f {nums : Nat → Int64} {w : Nat → Nat} {k : Nat} (h : tlB nums w k = false) : ∀ m, k ≤ m → tlB nums w m = false
  | 0, hm => by rw [Nat.le_zero.mp hm] at h; exact h
  | m + 1, hm => by
    by_cases q : k = m + 1
    · rw [← q]; exact h
    · rw [tlB_s, tlB_f h m (by omega)]; rfl
theorem tlB_cg {a b : Nat → Int64} {w : Nat → Nat} : ∀ k, (∀ j, j < k → a j = b j) → tlB a w k = tlB b w k
  | 0, _ => rfl
  | k + 1, h => by rw [tlB_s, tlB_s, tlB_cg k (fun j hj => h j (by omega)), h k (by omega)]
theorem lgc_eq (a b : Int64) : (lg_cmp a b = 0) = (a = b) := propext (lg_cmp_eq a b)
theorem c_tl12 {w : Nat → Nat} {row : Int32} {nums : Nat → Int64} (hR : RW w row) (hw : ∀ j, j < 8 → w j < 8) {m : Nat} (hm : m ≤ 8) : ∀ d f k, k + d = m → d < f → tlB nums w k = true → f_X5_tells_12 row (nI m) nums (fun _ => some (1 : Int32)) f (nI k) = some (b2 (tlB nums w m))
  | 0, f, k, hk, hf, ht => by
    cases f with
    | zero => omega
    | succ f =>
      unfold f_X5_tells_12
      rw [if_pos (nI_le (by omega) (by omega)), show m = k by omega, ht]; rfl
  | d + 1, f, k, hk, hf, ht => by
    cases f with
    | zero => omega
    | succ f =>
      have hl := hw k (by omega)
      unfold f_X5_tells_12
      rw [if_neg (nI_ge (by omega) (by omega)), gd_ix (by omega) (by decide), c_wearer hR (by omega) hl, bd_s, nI_l (by omega), nI_clamp (by omega), nI_1]
      by_cases q : nums k = lN (w k)
      · rw [if_pos (by rw [lgc_eq]; exact q)]
        exact c_tl12 hR hw hm d f (k + 1) (by omega) (by omega) (by rw [tlB_s, ht, decide_eq_true q]; rfl)
      · rw [if_neg (by rw [lgc_eq]; exact q), tlB_f (k := k + 1) (by rw [tlB_s, decide_eq_false q, Bool.and_false]) m (by omega)]; rfl
theorem c_tlAny {row : Int32} {nums : Nat → Int64} {m : Nat} (hm : m ≤ 8) : ∀ d f k, k + d = m → d < f → ∃ x, f_X5_tells_12 row (nI m) nums (fun _ => some (1 : Int32)) f (nI k) = some x
  | 0, f, k, hk, hf => by
    cases f with
    | zero => omega
    | succ f =>
      refine ⟨1, ?_⟩
      unfold f_X5_tells_12
      rw [if_pos (nI_le (by omega) (by omega))]
  | d + 1, f, k, hk, hf => by
    cases f with
    | zero => omega
    | succ f =>
      obtain ⟨x, hx⟩ := c_tlAny (row := row) (nums := nums) hm d f (k + 1) (by omega) (by omega)
      unfold f_X5_tells_12
      rw [if_neg (nI_ge (by omega) (by omega)), gd_ix (by omega) (by decide)]
      unfold f_X7_wearer
      rw [bd_s, nI_1, hx]
      split
      · exact ⟨x, rfl⟩
      · exact ⟨0, rfl⟩
def rdS (v : Nat → Nat) (nums : Nat → Int64) (n h : Nat) : Nat → Nat := smn (fun k => if tlB nums (wr v k h) (nmin (v 0) n) = true then wt v k else 0)
theorem rdS_s (v : Nat → Nat) (nums : Nat → Int64) (n h k : Nat) : rdS v nums n h (k + 1) = rdS v nums n h k + (if tlB nums (wr v k h) (nmin (v 0) n) = true then wt v k else 0) := rfl
theorem c_tells {w : Nat → Nat} {row : Int32} {nums : Nat → Int64} (hR : RW w row) (hw : ∀ j, j < 8 → w j < 8) {n p N : Nat} (hN : 2000 ≤ N) (hn : n ≤ 40) (hp : p ≤ 8) : f_X5_tells N nums (nI n) row (nI p) = some (b2 (tlB nums w (nmin p n))) := by
  have := nmin_le p n
  unfold f_X5_tells
  rw [nI_min (by omega) (by omega)]
  exact c_tl12 hR hw (by omega) (nmin p n) N 0 (by omega) (by omega) rfl
theorem c_tellsAny {row : Int32} {nums : Nat → Int64} {n p N : Nat} (hN : 2000 ≤ N) (hn : n ≤ 40) (hp : p ≤ 8) : ∃ x, f_X5_tells N nums (nI n) row (nI p) = some x := by
  have := nmin_le p n
  unfold f_X5_tells
  rw [nI_min (by omega) (by omega)]
  exact c_tlAny (by omega) (nmin p n) N 0 (by omega) (by omega)
theorem c_rd5 {v : Nat → Nat} {stepsAt w rows : Nat → Int32} {nums : Nat → Int64} (hv : Vd v) (hs : ∀ h, h < 100 → stepsAt h = nI (sts v h)) (hw : CW v w) (hR : ∀ n, n < nn v → 0 < wgt v n → RR v rows n (v 3)) {n h N : Nat} (hN : 2000 ≤ N) (hn : n ≤ 40) (hh : h < 100) : ∀ d f k, k + d = nn v → d < f → f_X2_oddsOfSheet_5 N (nI h) stepsAt w rows (nI (dc v)) (nI (v 0)) nums (nI n) f (lN (rdS v nums n h k)) (nI k) = some (lN (rdS v nums n h (nn v)))
  | 0, f, k, hk, hf => by
    have h64 := nn_le hv
    cases f with
    | zero => omega
    | succ f =>
      unfold f_X2_oddsOfSheet_5
      rw [c_size hv, bd_s, if_pos (nI_le (by omega) (by omega)), show k = nn v by omega]
  | d + 1, f, k, hk, hf => by
    have h64 := nn_le hv
    have h8 := vd_hi hv
    have hwk := wt_le hv k
    cases f with
    | zero => omega
    | succ f =>
      have ih := c_rd5 (nums := nums) hv hs hw hR hN hn hh d f (k + 1) (by omega) (by omega)
      unfold f_X2_oddsOfSheet_5
      rw [c_size hv, bd_s, if_neg (nI_ge (by omega) (by omega)), c_row hs hv (by omega) hh, bd_s, ← ih, rdS_s]
      by_cases q : 0 < wt v k
      · rw [c_tells (hR k (by omega) (wt_wgt q) _ (sts_le v h)) (fun j hj => wr_lt hv k h hj) hN hn h8, bd_s, c_weight hv hw (by omega), bd_s, nI_l (by omega), lN_add, nI_1]
        show bd (if b2 (tlB nums (wr v k h) (nmin (v 0) n)) = 0 then _ else _) _ = _
        cases tlB nums (wr v k h) (nmin (v 0) n)
        · rw [if_pos (by decide), bd_s, if_neg (by decide), Nat.add_zero (rdS v nums n h k)]
        · rw [if_neg (by decide), bd_s, if_pos rfl]
      · obtain ⟨x, hx⟩ := c_tellsAny (row := rows (21 * k + sts v h)) (nums := nums) hN hn h8
        rw [hx, bd_s, c_weight hv hw (by omega), bd_s, nI_l (by omega), lN_add, nI_1, show wt v k = 0 by omega]
        rw [show (if tlB nums (wr v k h) (nmin (v 0) n) = true then 0 else 0) = 0 by split <;> rfl, Nat.add_zero (rdS v nums n h k)]
        split <;> rfl
theorem m_rd51 {v : Nat → Nat} {now worn S : Nat → Int32} {Q nums : Nat → Int64} (h0 : RN v now) (hv : Vd v) {w : Nat → Nat} {s n : Nat} (hs : s < 4) (hS : S s = nI n) (hn : n ≤ 40) (hQ : ∀ j, j < n → Q (40 * s + j) = nums j) (hw : ∀ j, j < 8 → worn j = nI (w j) ∧ w j < 8) : ∀ d f k, k + d = nmin (v 0) n → d < f → f_X8_read_51 (nI s) now worn S Q f (b2 (tlB nums w k)) (nI k) = some (b2 (tlB nums w (nmin (v 0) n)))
  | 0, f, k, hk, hf => by
    have h8 := vd_hi hv
    have hm := nmin_le (v 0) n
    cases f with
    | zero => omega
    | succ f =>
      unfold f_X8_read_51
      rw [gd_ix hs (by decide), nI_clamp (by omega), hS, show (0 : Int32).toNatClampNeg = 0 from rfl, rn_at h0 (by omega) (by omega) (by omega), show nmin (v 0) n = k by omega]
      by_cases q : n ≤ k
      · rw [if_pos (nI_le q (by omega))]
      · have : v 0 ≤ k := by unfold nmin at hk; split at hk <;> omega
        rw [if_neg (nI_ge (by omega) (by omega)), if_pos (nI_le this (by omega))]
  | d + 1, f, k, hk, hf => by
    have h8 := vd_hi hv
    have hm := nmin_le (v 0) n
    cases f with
    | zero => omega
    | succ f =>
      obtain ⟨w1, w2⟩ := hw k (by omega)
      have ih := m_rd51 h0 hv hs hS hn hQ hw d f (k + 1) (by omega) (by omega)
      unfold f_X8_read_51
      rw [gd_ix hs (by decide), nI_clamp (by omega), hS, show (0 : Int32).toNatClampNeg = 0 from rfl, rn_at h0 (by omega) (by omega) (by omega), if_neg (nI_ge (by omega) (by omega)), if_neg (nI_ge (by omega) (by omega)), show (40 : Int32) = nI 40 from rfl, pk_mul, nI_add, gd_ix (by omega) (by decide), gd_ix (by omega) (by decide), nI_clamp (by omega), nI_clamp (by omega), hQ k (by omega), w1, nI_l (by omega), ← ih, tlB_s, nI_1]
      cases tlB nums w k
      · rw [if_pos (by decide), bd_s]; rfl
      · rw [if_neg (by decide)]
        by_cases q : nums k = lN (w k)
        · rw [if_pos (by rw [lgc_eq]; exact q), bd_s, decide_eq_true q]; rfl
        · rw [if_neg (by rw [lgc_eq]; exact q), bd_s, decide_eq_false q]; rfl
theorem m_rd29 {v : Nat → Nat} {now S : Nat → Int32} {Q nums : Nat → Int64} (h0 : RN v now) (hv : Vd v) {N : Nat} (hN : 2000 ≤ N) {order doubts : Nat → Int32} {W : Nat → Int64} (hl : ML v order doubts (nI (dc v))) (hw : MW v W) {s n hh : Nat} (hs : s < 4) (hS : S s = nI n) (hn : n ≤ 40) (hQ : ∀ j, j < n → Q (40 * s + j) = nums j) (hh1 : hh < 100) : ∀ d f k (worn : Nat → Int32) (pairs : Int64) (tw : Int32), k + d = nn v → d < f →
    ∃ w p t, f_X8_read_29 N (nI s) (nI hh) now order doubts (nI (dc v)) W S Q f (lN (rdS v nums n hh k)) (nI k) worn pairs tw = some (lN (rdS v nums n hh (nn v)), w, p, t)
  | 0, f, k, worn, pairs, tw, hk, hf => by
    have h64 := nn_le hv
    cases f with
    | zero => omega
    | succ f =>
      refine ⟨worn, pairs, tw, ?_⟩
      unfold f_X8_read_29
      rw [n_there hv, bd_s, if_pos (nI_le (by omega) (by omega)), show k = nn v by omega]
  | d + 1, f, k, worn, pairs, tw, hk, hf => by
    have h64 := nn_le hv
    have h8 := vd_hi hv
    have hm := nmin_le (v 0) n
    have hwk := wt_le hv k
    cases f with
    | zero => omega
    | succ f =>
      obtain ⟨w1, p1, t1, e1, e2⟩ := m_goes h0 hv hN hl (n := k) (by omega) (hour := hh) (by omega) worn pairs tw
      obtain ⟨w, p, t, g⟩ := m_rd29 h0 hv hN hl hw hs hS hn hQ hh1 d f (k + 1) w1 p1 t1 (by omega) (by omega)
      refine ⟨w, p, t, ?_⟩
      have e3 : f_X8_read_51 (nI s) now w1 S Q N (nI 1) (nI 0) = some (b2 (tlB nums (wr v k hh) (nmin (v 0) n))) := m_rd51 h0 hv hs hS hn hQ (fun j hj => ⟨e2.1 j hj, wr_lt hv k hh hj⟩) (nmin (v 0) n) N 0 (by omega) (by omega)
      unfold f_X8_read_29
      rw [n_there hv, bd_s, if_neg (nI_ge (by omega) (by omega)), e1, bd_s]
      dsimp only
      rw [show (0 : Int32) = nI 0 from rfl, show (1 : Int32) = nI 1 from rfl, e3, bd_s, gd_ix (by omega) (by decide), nI_clamp (by omega), hw k (by omega), ← g, rdS_s, nI_add]
      cases tlB nums (wr v k hh) (nmin (v 0) n)
      · rw [if_pos (by decide), bd_s, if_neg (by decide), show (0 : Int64) = lN 0 from rfl, lN_add]
      · rw [if_neg (by decide), bd_s, if_pos rfl, lN_add]
set_option maxHeartbeats 16000000 in
theorem op_read {N : Nat} (hN : 2000 ≤ N) : Op_read Rl N := by
  intro C_isKept C_l_bsize C_l_bcells C_l_ssize C_l_scells C_l_dsize C_l_dcells C_l_people C_l_rule C_l_believed C_k_bsize C_k_bcells C_k_ssize C_k_scells C_k_dsize C_k_dcells C_k_people C_k_rule C_k_believed C_d_bsize C_d_bcells C_d_ssize C_d_scells C_d_dsize C_d_dcells C_d_people C_d_rule C_d_believed C_order C_stepsAt C_doubts C_weights C_rows C_metEver C_bowedTo C_isStale C_bowCount C_doubtCount C_seenBows C_likeliest C_mostSayingsSo C_doers C_isTelling C_tbytes C_tlen C_token C_place C_behindIt C_value C_sa_nums C_sa_bits C_sa_len C_sb_nums C_sb_bits C_sb_len C_sc_nums C_sc_bits C_sc_len C_sd_nums C_sd_bits C_sd_len C_findings M_now M_kept M_isKept M_found M_order M_doubts M_doubtMany M_weights M_worn M_pairs M_isTwice M_doer M_doneTo M_doers M_tape M_taped M_begins M_ends M_sort M_value M_isWrong M_items M_itemMany M_bowThen M_doubtThen M_deedThen M_sayingThen M_widths M_sizes M_numbers M_moved a1 a2 hR 
  obtain ⟨v, e, hv, he, hm, hd, hl, hs, ht, hk0, hk1, hk2, hf, hp, sa, sb, sc, sd⟩ := hR
  have h8 := vd_hi hv
  have h64 := nn_le hv
  by_cases h1 : inr a1 4 = true
  · obtain ⟨s, hs4, rfl⟩ := inr_t (by decide) h1
    have hs4' : s = 0 ∨ s = 1 ∨ s = 2 ∨ s = 3 := by omega
    rcases hs4' with rfl | rfl | rfl | rfl
    · have hS := sa
      obtain ⟨w, n, q1, q2, q3, q4, q5, q6, q7, q8⟩ := hS
      have hw := rs_w q2
      have r1 := c_refa (b0 := C_sa_bits) (b1 := C_sb_bits) (b2' := C_sc_bits) (b3 := C_sd_bits) q4 hw a2
      have r2 := m_ref (hour := 0) hs4 q5 hw a2
      by_cases qw : w = 0
      · rw [if_pos qw] at r1 r2
        have hz : ¬ -nI 1000000006 = nI 0 := by decide
        simp (disch := omega) only [f_X7_read, f_X8_read, bd_s, gd_tt, jn_s, lit32, gd_ix, nI_clamp, nI_add, pk_mul, nI_leI, nI_ltI, nI_eq, b2_0n, ite_f, ↓reduceIte, Bool.false_eq_true, Bool.true_eq_false, Nat.not_lt_zero, isb_b2, c_has, c_isHour, c_isKind, c_isPerson, m_isHour, m_isKind, m_isSheet, m_w, c_rN, c_rN2, cB, cF, cK, cN, cS, cM, cZ, mB, mF, mK, mN, mS, mM, mZ, r1, r2, hz]
        refine ⟨_, _, rfl, rfl, rfl, ?_⟩; exact ⟨v, e, hv, he, hm, hd, hl, hs, ht, hk0, hk1, hk2, (rf_step hf 5 (by decide)), hp, sa, sb, sc, sd⟩
      · rw [if_neg qw] at r1 r2
        by_cases h2 : inr a2 100 = true
        · obtain ⟨h, hh, rfl⟩ := inr_t (by decide) h2
          rw [if_pos h2] at r1 r2
          obtain ⟨rfl, hlb, rfl, hls, rfl, hld, rfl, rfl, rfl⟩ := hl
          obtain ⟨o_, s_, d_, w_, r_, m_, b_, k_, n_, q_, l_, x_, ef, tb⟩ := c_look hlb hls hv hN C_order C_stepsAt C_doubts C_weights C_rows C_metEver C_bowedTo C_isStale C_bowCount C_doubtCount C_seenBows C_likeliest C_mostSayingsSo hs ht
          have tbb := tb
          obtain ⟨tb1, tb2, rfl, tb4, rfl, tb6, tb7, tb8, rfl, rfl⟩ := tb
          obtain ⟨mo, md, mw, mwo, mp, mt, em, ml, mW⟩ := m_weigh hm hv hN M_order M_doubts M_doubtMany M_weights M_worn M_pairs M_isTwice
          obtain ⟨w2, p2, t2, g⟩ := m_rd29 (nums := C_sa_nums) hm hv hN ml mW hs4 q7 q1 q8 hh (nn v) N 0 mwo mp mt (by omega) (by omega)
          have g' : f_X8_read_29 N (nI 0) (nI h) M_now mo md (nI (dc v)) mw M_sizes M_numbers N (lN 0) (nI 0) mwo mp mt = some (lN (rdS v C_sa_nums n h (nn v)), w2, p2, t2) := g
          have e1 : f_X2_oddsOfSheet N s_ w_ r_ (nI (dc v)) (nI (v 0)) C_sa_nums C_sa_len (nI h) = some (lN (rdS v C_sa_nums n h (nn v))) := by
            rw [q6]
            unfold f_X2_oddsOfSheet
            rw [show f_X2_oddsOfSheet_5 N (nI h) s_ w_ r_ (nI (dc v)) (nI (v 0)) C_sa_nums (nI n) N (0 : Int64) (0 : Int32) = some (lN (rdS v C_sa_nums n h (nn v))) from c_rd5 hv tb2 tb6 tb7 hN q1 hh (nn v) N 0 (by omega) (by omega), bd_s]
          simp (disch := omega) only [f_X7_read, f_X8_read, bd_s, lit32, litL, nI_eq, ↓reduceIte, r1, r2, ef, em, e1, g', if_neg]
          refine ⟨_, _, rfl, rfl, rfl, ?_⟩; exact ⟨v, e, hv, he, hm, hd, ⟨rfl, hlb, rfl, hls, rfl, hld, rfl, rfl, rfl⟩, Or.inl rfl, fun _ => tbb, hk0, hk1, hk2, hf, hp, sa, sb, sc, sd⟩
        · have h2 := inr_out h2
          rw [h2] at r1 r2
          have hz : ¬ -nI 1000000001 = nI 0 := by decide
          simp (disch := omega) only [f_X7_read, f_X8_read, bd_s, gd_tt, jn_s, lit32, gd_ix, nI_clamp, nI_add, pk_mul, nI_leI, nI_ltI, nI_eq, b2_0n, ite_f, ↓reduceIte, Bool.false_eq_true, Bool.true_eq_false, Nat.not_lt_zero, isb_b2, c_has, c_isHour, c_isKind, c_isPerson, m_isHour, m_isKind, m_isSheet, m_w, c_rN, c_rN2, cB, cF, cK, cN, cS, cM, cZ, mB, mF, mK, mN, mS, mM, mZ, r1, r2, hz]
          refine ⟨_, _, rfl, rfl, rfl, ?_⟩; exact ⟨v, e, hv, he, hm, hd, hl, hs, ht, hk0, hk1, hk2, (rf_step hf 0 (by decide)), hp, sa, sb, sc, sd⟩
    · have hS := sb
      obtain ⟨w, n, q1, q2, q3, q4, q5, q6, q7, q8⟩ := hS
      have hw := rs_w q2
      have r1 := c_refb (b0 := C_sa_bits) (b1 := C_sb_bits) (b2' := C_sc_bits) (b3 := C_sd_bits) q4 hw a2
      have r2 := m_ref (hour := 0) hs4 q5 hw a2
      by_cases qw : w = 0
      · rw [if_pos qw] at r1 r2
        have hz : ¬ -nI 1000000006 = nI 0 := by decide
        simp (disch := omega) only [f_X7_read, f_X8_read, bd_s, gd_tt, jn_s, lit32, gd_ix, nI_clamp, nI_add, pk_mul, nI_leI, nI_ltI, nI_eq, b2_0n, ite_f, ↓reduceIte, Bool.false_eq_true, Bool.true_eq_false, Nat.not_lt_zero, isb_b2, c_has, c_isHour, c_isKind, c_isPerson, m_isHour, m_isKind, m_isSheet, m_w, c_rN, c_rN2, cB, cF, cK, cN, cS, cM, cZ, mB, mF, mK, mN, mS, mM, mZ, r1, r2, hz]
        refine ⟨_, _, rfl, rfl, rfl, ?_⟩; exact ⟨v, e, hv, he, hm, hd, hl, hs, ht, hk0, hk1, hk2, (rf_step hf 5 (by decide)), hp, sa, sb, sc, sd⟩
      · rw [if_neg qw] at r1 r2
        by_cases h2 : inr a2 100 = true
        · obtain ⟨h, hh, rfl⟩ := inr_t (by decide) h2
          rw [if_pos h2] at r1 r2
          obtain ⟨rfl, hlb, rfl, hls, rfl, hld, rfl, rfl, rfl⟩ := hl
          obtain ⟨o_, s_, d_, w_, r_, m_, b_, k_, n_, q_, l_, x_, ef, tb⟩ := c_look hlb hls hv hN C_order C_stepsAt C_doubts C_weights C_rows C_metEver C_bowedTo C_isStale C_bowCount C_doubtCount C_seenBows C_likeliest C_mostSayingsSo hs ht
          have tbb := tb
          obtain ⟨tb1, tb2, rfl, tb4, rfl, tb6, tb7, tb8, rfl, rfl⟩ := tb
          obtain ⟨mo, md, mw, mwo, mp, mt, em, ml, mW⟩ := m_weigh hm hv hN M_order M_doubts M_doubtMany M_weights M_worn M_pairs M_isTwice
          obtain ⟨w2, p2, t2, g⟩ := m_rd29 (nums := C_sb_nums) hm hv hN ml mW hs4 q7 q1 q8 hh (nn v) N 0 mwo mp mt (by omega) (by omega)
          have g' : f_X8_read_29 N (nI 1) (nI h) M_now mo md (nI (dc v)) mw M_sizes M_numbers N (lN 0) (nI 0) mwo mp mt = some (lN (rdS v C_sb_nums n h (nn v)), w2, p2, t2) := g
          have e1 : f_X2_oddsOfSheet N s_ w_ r_ (nI (dc v)) (nI (v 0)) C_sb_nums C_sb_len (nI h) = some (lN (rdS v C_sb_nums n h (nn v))) := by
            rw [q6]
            unfold f_X2_oddsOfSheet
            rw [show f_X2_oddsOfSheet_5 N (nI h) s_ w_ r_ (nI (dc v)) (nI (v 0)) C_sb_nums (nI n) N (0 : Int64) (0 : Int32) = some (lN (rdS v C_sb_nums n h (nn v))) from c_rd5 hv tb2 tb6 tb7 hN q1 hh (nn v) N 0 (by omega) (by omega), bd_s]
          simp (disch := omega) only [f_X7_read, f_X8_read, bd_s, lit32, litL, nI_eq, ↓reduceIte, r1, r2, ef, em, e1, g', if_neg]
          refine ⟨_, _, rfl, rfl, rfl, ?_⟩; exact ⟨v, e, hv, he, hm, hd, ⟨rfl, hlb, rfl, hls, rfl, hld, rfl, rfl, rfl⟩, Or.inl rfl, fun _ => tbb, hk0, hk1, hk2, hf, hp, sa, sb, sc, sd⟩
        · have h2 := inr_out h2
          rw [h2] at r1 r2
          have hz : ¬ -nI 1000000001 = nI 0 := by decide
          simp (disch := omega) only [f_X7_read, f_X8_read, bd_s, gd_tt, jn_s, lit32, gd_ix, nI_clamp, nI_add, pk_mul, nI_leI, nI_ltI, nI_eq, b2_0n, ite_f, ↓reduceIte, Bool.false_eq_true, Bool.true_eq_false, Nat.not_lt_zero, isb_b2, c_has, c_isHour, c_isKind, c_isPerson, m_isHour, m_isKind, m_isSheet, m_w, c_rN, c_rN2, cB, cF, cK, cN, cS, cM, cZ, mB, mF, mK, mN, mS, mM, mZ, r1, r2, hz]
          refine ⟨_, _, rfl, rfl, rfl, ?_⟩; exact ⟨v, e, hv, he, hm, hd, hl, hs, ht, hk0, hk1, hk2, (rf_step hf 0 (by decide)), hp, sa, sb, sc, sd⟩
    · have hS := sc
      obtain ⟨w, n, q1, q2, q3, q4, q5, q6, q7, q8⟩ := hS
      have hw := rs_w q2
      have r1 := c_refc (b0 := C_sa_bits) (b1 := C_sb_bits) (b2' := C_sc_bits) (b3 := C_sd_bits) q4 hw a2
      have r2 := m_ref (hour := 0) hs4 q5 hw a2
      by_cases qw : w = 0
      · rw [if_pos qw] at r1 r2
        have hz : ¬ -nI 1000000006 = nI 0 := by decide
        simp (disch := omega) only [f_X7_read, f_X8_read, bd_s, gd_tt, jn_s, lit32, gd_ix, nI_clamp, nI_add, pk_mul, nI_leI, nI_ltI, nI_eq, b2_0n, ite_f, ↓reduceIte, Bool.false_eq_true, Bool.true_eq_false, Nat.not_lt_zero, isb_b2, c_has, c_isHour, c_isKind, c_isPerson, m_isHour, m_isKind, m_isSheet, m_w, c_rN, c_rN2, cB, cF, cK, cN, cS, cM, cZ, mB, mF, mK, mN, mS, mM, mZ, r1, r2, hz]
        refine ⟨_, _, rfl, rfl, rfl, ?_⟩; exact ⟨v, e, hv, he, hm, hd, hl, hs, ht, hk0, hk1, hk2, (rf_step hf 5 (by decide)), hp, sa, sb, sc, sd⟩
      · rw [if_neg qw] at r1 r2
        by_cases h2 : inr a2 100 = true
        · obtain ⟨h, hh, rfl⟩ := inr_t (by decide) h2
          rw [if_pos h2] at r1 r2
          obtain ⟨rfl, hlb, rfl, hls, rfl, hld, rfl, rfl, rfl⟩ := hl
          obtain ⟨o_, s_, d_, w_, r_, m_, b_, k_, n_, q_, l_, x_, ef, tb⟩ := c_look hlb hls hv hN C_order C_stepsAt C_doubts C_weights C_rows C_metEver C_bowedTo C_isStale C_bowCount C_doubtCount C_seenBows C_likeliest C_mostSayingsSo hs ht
          have tbb := tb
          obtain ⟨tb1, tb2, rfl, tb4, rfl, tb6, tb7, tb8, rfl, rfl⟩ := tb
          obtain ⟨mo, md, mw, mwo, mp, mt, em, ml, mW⟩ := m_weigh hm hv hN M_order M_doubts M_doubtMany M_weights M_worn M_pairs M_isTwice
          obtain ⟨w2, p2, t2, g⟩ := m_rd29 (nums := C_sc_nums) hm hv hN ml mW hs4 q7 q1 q8 hh (nn v) N 0 mwo mp mt (by omega) (by omega)
          have g' : f_X8_read_29 N (nI 2) (nI h) M_now mo md (nI (dc v)) mw M_sizes M_numbers N (lN 0) (nI 0) mwo mp mt = some (lN (rdS v C_sc_nums n h (nn v)), w2, p2, t2) := g
          have e1 : f_X2_oddsOfSheet N s_ w_ r_ (nI (dc v)) (nI (v 0)) C_sc_nums C_sc_len (nI h) = some (lN (rdS v C_sc_nums n h (nn v))) := by
            rw [q6]
            unfold f_X2_oddsOfSheet
            rw [show f_X2_oddsOfSheet_5 N (nI h) s_ w_ r_ (nI (dc v)) (nI (v 0)) C_sc_nums (nI n) N (0 : Int64) (0 : Int32) = some (lN (rdS v C_sc_nums n h (nn v))) from c_rd5 hv tb2 tb6 tb7 hN q1 hh (nn v) N 0 (by omega) (by omega), bd_s]
          simp (disch := omega) only [f_X7_read, f_X8_read, bd_s, lit32, litL, nI_eq, ↓reduceIte, r1, r2, ef, em, e1, g', if_neg]
          refine ⟨_, _, rfl, rfl, rfl, ?_⟩; exact ⟨v, e, hv, he, hm, hd, ⟨rfl, hlb, rfl, hls, rfl, hld, rfl, rfl, rfl⟩, Or.inl rfl, fun _ => tbb, hk0, hk1, hk2, hf, hp, sa, sb, sc, sd⟩
        · have h2 := inr_out h2
          rw [h2] at r1 r2
          have hz : ¬ -nI 1000000001 = nI 0 := by decide
          simp (disch := omega) only [f_X7_read, f_X8_read, bd_s, gd_tt, jn_s, lit32, gd_ix, nI_clamp, nI_add, pk_mul, nI_leI, nI_ltI, nI_eq, b2_0n, ite_f, ↓reduceIte, Bool.false_eq_true, Bool.true_eq_false, Nat.not_lt_zero, isb_b2, c_has, c_isHour, c_isKind, c_isPerson, m_isHour, m_isKind, m_isSheet, m_w, c_rN, c_rN2, cB, cF, cK, cN, cS, cM, cZ, mB, mF, mK, mN, mS, mM, mZ, r1, r2, hz]
          refine ⟨_, _, rfl, rfl, rfl, ?_⟩; exact ⟨v, e, hv, he, hm, hd, hl, hs, ht, hk0, hk1, hk2, (rf_step hf 0 (by decide)), hp, sa, sb, sc, sd⟩
    · have hS := sd
      obtain ⟨w, n, q1, q2, q3, q4, q5, q6, q7, q8⟩ := hS
      have hw := rs_w q2
      have r1 := c_refd (b0 := C_sa_bits) (b1 := C_sb_bits) (b2' := C_sc_bits) (b3 := C_sd_bits) q4 hw a2
      have r2 := m_ref (hour := 0) hs4 q5 hw a2
      by_cases qw : w = 0
      · rw [if_pos qw] at r1 r2
        have hz : ¬ -nI 1000000006 = nI 0 := by decide
        simp (disch := omega) only [f_X7_read, f_X8_read, bd_s, gd_tt, jn_s, lit32, gd_ix, nI_clamp, nI_add, pk_mul, nI_leI, nI_ltI, nI_eq, b2_0n, ite_f, ↓reduceIte, Bool.false_eq_true, Bool.true_eq_false, Nat.not_lt_zero, isb_b2, c_has, c_isHour, c_isKind, c_isPerson, m_isHour, m_isKind, m_isSheet, m_w, c_rN, c_rN2, cB, cF, cK, cN, cS, cM, cZ, mB, mF, mK, mN, mS, mM, mZ, r1, r2, hz]
        refine ⟨_, _, rfl, rfl, rfl, ?_⟩; exact ⟨v, e, hv, he, hm, hd, hl, hs, ht, hk0, hk1, hk2, (rf_step hf 5 (by decide)), hp, sa, sb, sc, sd⟩
      · rw [if_neg qw] at r1 r2
        by_cases h2 : inr a2 100 = true
        · obtain ⟨h, hh, rfl⟩ := inr_t (by decide) h2
          rw [if_pos h2] at r1 r2
          obtain ⟨rfl, hlb, rfl, hls, rfl, hld, rfl, rfl, rfl⟩ := hl
          obtain ⟨o_, s_, d_, w_, r_, m_, b_, k_, n_, q_, l_, x_, ef, tb⟩ := c_look hlb hls hv hN C_order C_stepsAt C_doubts C_weights C_rows C_metEver C_bowedTo C_isStale C_bowCount C_doubtCount C_seenBows C_likeliest C_mostSayingsSo hs ht
          have tbb := tb
          obtain ⟨tb1, tb2, rfl, tb4, rfl, tb6, tb7, tb8, rfl, rfl⟩ := tb
          obtain ⟨mo, md, mw, mwo, mp, mt, em, ml, mW⟩ := m_weigh hm hv hN M_order M_doubts M_doubtMany M_weights M_worn M_pairs M_isTwice
          obtain ⟨w2, p2, t2, g⟩ := m_rd29 (nums := C_sd_nums) hm hv hN ml mW hs4 q7 q1 q8 hh (nn v) N 0 mwo mp mt (by omega) (by omega)
          have g' : f_X8_read_29 N (nI 3) (nI h) M_now mo md (nI (dc v)) mw M_sizes M_numbers N (lN 0) (nI 0) mwo mp mt = some (lN (rdS v C_sd_nums n h (nn v)), w2, p2, t2) := g
          have e1 : f_X2_oddsOfSheet N s_ w_ r_ (nI (dc v)) (nI (v 0)) C_sd_nums C_sd_len (nI h) = some (lN (rdS v C_sd_nums n h (nn v))) := by
            rw [q6]
            unfold f_X2_oddsOfSheet
            rw [show f_X2_oddsOfSheet_5 N (nI h) s_ w_ r_ (nI (dc v)) (nI (v 0)) C_sd_nums (nI n) N (0 : Int64) (0 : Int32) = some (lN (rdS v C_sd_nums n h (nn v))) from c_rd5 hv tb2 tb6 tb7 hN q1 hh (nn v) N 0 (by omega) (by omega), bd_s]
          simp (disch := omega) only [f_X7_read, f_X8_read, bd_s, lit32, litL, nI_eq, ↓reduceIte, r1, r2, ef, em, e1, g', if_neg]
          refine ⟨_, _, rfl, rfl, rfl, ?_⟩; exact ⟨v, e, hv, he, hm, hd, ⟨rfl, hlb, rfl, hls, rfl, hld, rfl, rfl, rfl⟩, Or.inl rfl, fun _ => tbb, hk0, hk1, hk2, hf, hp, sa, sb, sc, sd⟩
        · have h2 := inr_out h2
          rw [h2] at r1 r2
          have hz : ¬ -nI 1000000001 = nI 0 := by decide
          simp (disch := omega) only [f_X7_read, f_X8_read, bd_s, gd_tt, jn_s, lit32, gd_ix, nI_clamp, nI_add, pk_mul, nI_leI, nI_ltI, nI_eq, b2_0n, ite_f, ↓reduceIte, Bool.false_eq_true, Bool.true_eq_false, Nat.not_lt_zero, isb_b2, c_has, c_isHour, c_isKind, c_isPerson, m_isHour, m_isKind, m_isSheet, m_w, c_rN, c_rN2, cB, cF, cK, cN, cS, cM, cZ, mB, mF, mK, mN, mS, mM, mZ, r1, r2, hz]
          refine ⟨_, _, rfl, rfl, rfl, ?_⟩; exact ⟨v, e, hv, he, hm, hd, hl, hs, ht, hk0, hk1, hk2, (rf_step hf 0 (by decide)), hp, sa, sb, sc, sd⟩
  · have n0 : ¬ a1 = nI 0 := fun z => by rw [z] at h1; exact h1 (by decide)
    have n1 : ¬ a1 = nI 1 := fun z => by rw [z] at h1; exact h1 (by decide)
    have n2 : ¬ a1 = nI 2 := fun z => by rw [z] at h1; exact h1 (by decide)
    have n3 : ¬ a1 = nI 3 := fun z => by rw [z] at h1; exact h1 (by decide)
    have h1 := inr_out h1
    have hz : ¬ -nI 1000000001 = nI 0 := by decide
    simp (disch := omega) only [f_X7_read, f_X8_read, f_X7_findingOfSheetAndHour, f_X8_refuses, bd_s, gd_tt, jn_s, lit32, gd_ix, nI_clamp, nI_add, pk_mul, nI_leI, nI_ltI, nI_eq, b2_0n, ite_f, ↓reduceIte, Bool.false_eq_true, Bool.true_eq_false, Nat.not_lt_zero, isb_b2, c_has, c_isHour, c_isKind, c_isPerson, m_isHour, m_isKind, m_isSheet, m_w, c_rN, c_rN2, cB, cF, cK, cN, cS, cM, cZ, mB, mF, mK, mN, mS, mM, mZ, h1, n0, n1, n2, n3, hz]
    refine ⟨_, _, rfl, rfl, rfl, ?_⟩; exact ⟨v, e, hv, he, hm, hd, hl, hs, ht, hk0, hk1, hk2, (rf_step hf 0 (by decide)), hp, sa, sb, sc, sd⟩
