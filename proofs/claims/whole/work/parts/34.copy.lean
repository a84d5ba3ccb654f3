/-! ===== copy ===== -/
theorem c_hasRun {L : Nat} (hL : L ≤ 40) (a b : Int32) : f_X5_hasRun (nI L) a b = some (b2 (decide (0 ≤ b.toInt ∧ b.toInt ≤ L ∧ 0 ≤ a.toInt ∧ a.toInt + b.toInt ≤ L))) := by
  have z0 : (0 : Int32).toInt = 0 := rfl
  have zL := nI_toInt (n := L) (by omega)
  unfold f_X5_hasRun
  by_cases q1 : b < 0
  · rw [if_pos q1, decide_eq_false (by rw [i32_lt, z0] at q1; omega)]; rfl
  · rw [if_neg q1]
    rw [i32_lt, z0] at q1
    by_cases q2 : nI L < b
    · rw [if_pos q2, decide_eq_false (by rw [i32_lt, zL] at q2; omega)]; rfl
    · rw [if_neg q2]
      rw [i32_lt, zL] at q2
      by_cases q3 : a < 0
      · rw [if_pos q3, decide_eq_false (by rw [i32_lt, z0] at q3; omega)]; rfl
      · rw [if_neg q3]
        rw [i32_lt, z0] at q3
        obtain ⟨m, hm, rfl⟩ : ∃ m, m < 41 ∧ b = nI m := inr_t (by decide) (inr_iff.mpr (by omega))
        rw [nI_toInt (by omega)] at q2
        have zs : (nI L - nI m).toInt = (L : Int) - m := pk_sub_toInt (by omega) (by omega)
        rw [nI_toInt (by omega)]
        by_cases q4 : nI L - nI m < a
        · rw [if_pos q4, decide_eq_false (by rw [i32_lt, zs] at q4; omega)]; rfl
        · rw [if_neg q4, decide_eq_true (by rw [i32_lt, zs] at q4; omega)]; rfl
theorem m_run {α : Type} {n1 n2 : Nat} (h1 : n1 ≤ 40) (h2 : n2 ≤ 40) (a2 a4 a5 : Int32) (X Y : α) :
    (if a2 < nI 0 then X else (if a4 < nI 0 then X else (if a5 < nI 0 then X else (if nI 0 < lg_cmp (a2.toInt64 + a5.toInt64) (lN n1) then X else (if lg_cmp (a4.toInt64 + a5.toInt64) (lN n2) ≤ nI 0 then Y else X))))) =
    (if decide (0 ≤ a5.toInt ∧ a5.toInt ≤ n1 ∧ 0 ≤ a2.toInt ∧ a2.toInt + a5.toInt ≤ n1) = true then (if decide (0 ≤ a5.toInt ∧ a5.toInt ≤ n2 ∧ 0 ≤ a4.toInt ∧ a4.toInt + a5.toInt ≤ n2) = true then Y else X) else X) := by
  have z0 : (nI 0).toInt = 0 := rfl
  by_cases q2 : a2 < nI 0
  · rw [if_pos q2, if_neg (by rw [decide_eq_true_iff]; rw [i32_lt, z0] at q2; omega)]
  · rw [if_neg q2]
    by_cases q4 : a4 < nI 0
    · rw [if_pos q4]
      have : decide (0 ≤ a5.toInt ∧ a5.toInt ≤ n2 ∧ 0 ≤ a4.toInt ∧ a4.toInt + a5.toInt ≤ n2) = false := decide_eq_false (by rw [i32_lt, z0] at q4; omega)
      rw [this]
      split <;> rfl
    · rw [if_neg q4]
      by_cases q5 : a5 < nI 0
      · rw [if_pos q5, if_neg (by rw [decide_eq_true_iff]; rw [i32_lt, z0] at q5; omega)]
      · rw [if_neg q5]
        obtain ⟨x, hx, rfl⟩ := nI_of (x := a2) q2
        obtain ⟨y, hy, rfl⟩ := nI_of (x := a4) q4
        obtain ⟨m, hm, rfl⟩ := nI_of (x := a5) q5
        rw [nI_l hx, nI_l hy, nI_l hm, lN_add, lN_add, nI_toInt hx, nI_toInt hy, nI_toInt hm]
        by_cases g1 : x + m ≤ n1
        · have d1 : decide (0 ≤ (m : Int) ∧ (m : Int) ≤ n1 ∧ 0 ≤ (x : Int) ∧ (x : Int) + m ≤ n1) = true := decide_eq_true (by omega)
          rw [if_neg (fun z => by have := (pk_lLT (by omega) (by omega)).mp ((lg_cmp_gt _ _).mp z); omega), d1, if_pos (c := true = true) rfl]
          by_cases g2 : y + m ≤ n2
          · have d2 : decide (0 ≤ (m : Int) ∧ (m : Int) ≤ n2 ∧ 0 ≤ (y : Int) ∧ (y : Int) + m ≤ n2) = true := decide_eq_true (by omega)
            rw [if_pos (show lg_cmp (lN (y + m)) (lN n2) ≤ nI 0 from (lg_cmp_le _ _).mpr ((pk_lLE (by omega) (by omega)).mpr g2)), d2, if_pos rfl]
          · have d2 : decide (0 ≤ (m : Int) ∧ (m : Int) ≤ n2 ∧ 0 ≤ (y : Int) ∧ (y : Int) + m ≤ n2) = false := decide_eq_false (by omega)
            rw [if_neg (show ¬ lg_cmp (lN (y + m)) (lN n2) ≤ nI 0 from fun z => by have := (pk_lLE (by omega) (by omega)).mp ((lg_cmp_le _ _).mp z); omega), d2, if_neg (by decide)]
        · have d1 : decide (0 ≤ (m : Int) ∧ (m : Int) ≤ n1 ∧ 0 ≤ (x : Int) ∧ (x : Int) + m ≤ n1) = false := decide_eq_false (by omega)
          rw [if_pos (show nI 0 < lg_cmp (lN (x + m)) (lN n1) from (lg_cmp_gt _ _).mpr ((pk_lLT (by omega) (by omega)).mpr (by omega))), d1, if_neg (by decide)]
theorem cpg_ok {x y m : Nat} (hx : x + m ≤ 40) (hy : y + m ≤ 40) : cpg (nI x) (nI y) (nI m) 40 40 = true := by
  unfold cpg
  rw [nI_clamp (by omega), nI_clamp (by omega), nI_clamp (by omega)]
  exact decide_eq_true ⟨nI_pos (by omega), nI_pos (by omega), nI_pos (by omega), hx, hy⟩
theorem c_take {n1 n2 x y m : Nat} (h1 : n1 ≤ 40) (h2 : n2 ≤ 40) (hx : x + m ≤ n1) (hy : y + m ≤ n2) (nums onums : Nat → Int64) : f_X5_takeRun nums (nI n2) onums (nI n1) (nI x) (nI y) (nI m) = some (va_cpy onums nums x y m) := by
  unfold f_X5_takeRun
  rw [c_hasRun h1, c_hasRun h2, nI_toInt (by omega), nI_toInt (by omega), nI_toInt (by omega), decide_eq_true (by omega), bd_s, if_neg (by decide), decide_eq_true (by omega), bd_s, if_neg (by decide), cpg_ok (by omega) (by omega), nI_clamp (by omega), nI_clamp (by omega), nI_clamp (by omega)]
  rfl
theorem c_takeSelf {n1 x y m : Nat} (h1 : n1 ≤ 40) (hx : x + m ≤ n1) (hy : y + m ≤ n1) (nums : Nat → Int64) : f_X5_takeRunSelf nums (nI n1) (nI x) (nI y) (nI m) = some (va_cpy nums nums x y m) := by
  unfold f_X5_takeRunSelf
  rw [c_hasRun h1, c_hasRun h1, nI_toInt (by omega), nI_toInt (by omega), nI_toInt (by omega), decide_eq_true (by omega), bd_s, if_neg (by decide), decide_eq_true (by omega), bd_s, if_neg (by decide), cpg_ok (by omega) (by omega), nI_clamp (by omega), nI_clamp (by omega), nI_clamp (by omega)]
  rfl
theorem m_cp128 {s x m : Nat} {Q : Nat → Int64} (hs : s < 4) (hx : x + m ≤ 40) : ∀ d f k (M : Nat → Int64), k + d = m → d < f → (∀ j, j < k → M j = Q (40 * s + x + j)) → ∃ r, f_X8_copy_128 (nI s) (nI x) (nI m) Q f (nI k) M = some r ∧ ∀ j, j < m → r j = Q (40 * s + x + j)
  | 0, f, k, M, hk, hf, h => by
    cases f with
    | zero => omega
    | succ f =>
      refine ⟨M, ?_, fun j hj => h j (by omega)⟩
      unfold f_X8_copy_128
      rw [if_pos (nI_le (by omega) (by omega))]
  | d + 1, f, k, M, hk, hf, h => by
    cases f with
    | zero => omega
    | succ f =>
      obtain ⟨r, g1, g2⟩ := m_cp128 hs hx d f (k + 1) (vp_updL M k (Q (40 * s + x + k))) (by omega) (by omega) (fun j hj => by
        by_cases e : j = k
        · rw [e, pk_uLs]
        · rw [pk_uLn e]; exact h j (by omega))
      refine ⟨r, ?_, g2⟩
      unfold f_X8_copy_128
      rw [if_neg (nI_ge (by omega) (by omega)), show (40 : Int32) = nI 40 from rfl, pk_mul, nI_add, nI_add, gd_ix (by omega) (by decide), gd_ix (by omega) (by decide), nI_clamp (by omega), nI_clamp (by omega), nI_1]
      exact g1
theorem m_cp165 {t y m : Nat} {M : Nat → Int64} (hs : t < 4) (hy : y + m ≤ 40) : ∀ d f k (Q : Nat → Int64), k + d = m → d < f → ∃ r, f_X8_copy_165 (nI t) (nI y) (nI m) M f (nI k) Q = some r ∧ (∀ j, k ≤ j → j < m → r (40 * t + y + j) = M j) ∧ ∀ i, (i < 40 * t + y + k ∨ 40 * t + y + m ≤ i) → r i = Q i
  | 0, f, k, Q, hk, hf => by
    cases f with
    | zero => omega
    | succ f =>
      refine ⟨Q, ?_, fun j h1 h2 => by omega, fun i _ => rfl⟩
      unfold f_X8_copy_165
      rw [if_pos (nI_le (by omega) (by omega))]
  | d + 1, f, k, Q, hk, hf => by
    cases f with
    | zero => omega
    | succ f =>
      obtain ⟨r, g1, g2, g3⟩ := m_cp165 (M := M) hs hy d f (k + 1) (vp_updL Q (40 * t + y + k) (M k)) (by omega) (by omega)
      refine ⟨r, ?_, fun j h1 h2 => ?_, fun i hi => ?_⟩
      · unfold f_X8_copy_165
        rw [if_neg (nI_ge (by omega) (by omega)), gd_ix (by omega) (by decide), show (40 : Int32) = nI 40 from rfl, pk_mul, nI_add, nI_add, gd_ix (by omega) (by decide), nI_clamp (by omega), nI_clamp (by omega), nI_1]
        exact g1
      · by_cases e : j = k
        · rw [e, g3 _ (by omega), pk_uLs]
        · exact g2 j (by omega) h2
      · rw [g3 i (by omega), pk_uLn (by omega)]
theorem m_cpy4 {s t w w' n n' N : Nat} {found W S : Nat → Int32} {Q M : Nat → Int64} (hs : s < 4) (ht : t < 4) (hW : W s = nI w) (hW' : W t = nI w') (hS : S s = nI n) (hS' : S t = nI n') (hw : w < 2 ^ 31) (hw' : w' < 2 ^ 31) (hn : n ≤ 40) (hn' : n' ≤ 40) (a2 a4 a5 : Int32) : f_X8_copy N found W S Q M (nI s) a2 (nI t) a4 a5 =
    (if w = 0 then some (-nI 1000000006, fmu found 5, Q, M) else (if w' = 0 then some (-nI 1000000006, fmu found 5, Q, M) else (if w = w' then
      (if decide (0 ≤ a5.toInt ∧ a5.toInt ≤ n ∧ 0 ≤ a2.toInt ∧ a2.toInt + a5.toInt ≤ n) = true then (if decide (0 ≤ a5.toInt ∧ a5.toInt ≤ n' ∧ 0 ≤ a4.toInt ∧ a4.toInt + a5.toInt ≤ n') = true then (bd (f_X8_copy_128 (nI s) a2 a5 Q N (nI 0) M) (fun u_24 => (bd (f_X8_copy_165 (nI t) a4 a5 u_24 N (nI 0) Q) (fun u_28 => some (a5, found, u_28, u_24))))) else some (-nI 1000000001, fmu found 0, Q, M)) else some (-nI 1000000001, fmu found 0, Q, M))
      else some (-nI 1000000003, fmu found 2, Q, M)))) := by
  unfold f_X8_copy
  rw [m_isSheet, inr_nI (by omega), decide_eq_true hs, bd_s, if_neg (show ¬ b2 true = 0 by decide), m_isSheet, inr_nI (by omega), decide_eq_true ht, bd_s, if_neg (show ¬ b2 true = 0 by decide), gd_ix hs (by decide), gd_ix ht (by decide), nI_clamp (by omega), nI_clamp (by omega), hW, hW', hS, hS', nI_l (by omega), nI_l (by omega)]
  by_cases q : w = 0
  · rw [if_pos (show nI w = (0 : Int32) by rw [q]; rfl), if_pos q]; rfl
  · rw [if_neg (show ¬ nI w = (0 : Int32) from fun z => q ((nI_eq (b := 0) hw (by decide)).mp z)), if_neg q]
    by_cases q' : w' = 0
    · rw [if_pos (show nI w' = (0 : Int32) by rw [q']; rfl), if_pos q']; rfl
    · rw [if_neg (show ¬ nI w' = (0 : Int32) from fun z => q' ((nI_eq (b := 0) hw' (by decide)).mp z)), if_neg q']
      by_cases qq : w = w'
      · rw [if_pos (by rw [qq]), if_pos qq]
        exact m_run hn hn' a2 a4 a5 _ _
      · rw [if_neg (fun z => qq ((nI_eq hw hw').mp z)), if_neg qq]; rfl
set_option maxHeartbeats 16000000 in
theorem op_copy {N : Nat} (hN : 2000 ≤ N) : Op_copy Rl N := by
  intro C_isKept C_l_bsize C_l_bcells C_l_ssize C_l_scells C_l_dsize C_l_dcells C_l_people C_l_rule C_l_believed C_k_bsize C_k_bcells C_k_ssize C_k_scells C_k_dsize C_k_dcells C_k_people C_k_rule C_k_believed C_d_bsize C_d_bcells C_d_ssize C_d_scells C_d_dsize C_d_dcells C_d_people C_d_rule C_d_believed C_order C_stepsAt C_doubts C_weights C_rows C_metEver C_bowedTo C_isStale C_bowCount C_doubtCount C_seenBows C_likeliest C_mostSayingsSo C_doers C_isTelling C_tbytes C_tlen C_token C_place C_behindIt C_value C_sa_nums C_sa_bits C_sa_len C_sb_nums C_sb_bits C_sb_len C_sc_nums C_sc_bits C_sc_len C_sd_nums C_sd_bits C_sd_len C_findings M_now M_kept M_isKept M_found M_order M_doubts M_doubtMany M_weights M_worn M_pairs M_isTwice M_doer M_doneTo M_doers M_tape M_taped M_begins M_ends M_sort M_value M_isWrong M_items M_itemMany M_bowThen M_doubtThen M_deedThen M_sayingThen M_widths M_sizes M_numbers M_moved a1 a2 a3 a4 a5 hR 
  obtain ⟨v, e, hv, he, hm, hd, hl, hs, ht, hk0, hk1, hk2, hf, hp, sa, sb, sc, sd⟩ := hR
  by_cases h1 : inr a1 4 = true
  · by_cases h3 : inr a3 4 = true
    · obtain ⟨s, hs4, rfl⟩ := inr_t (by decide) h1
      obtain ⟨t, ht4, rfl⟩ := inr_t (by decide) h3
      have hs4' : s = 0 ∨ s = 1 ∨ s = 2 ∨ s = 3 := by omega
      have ht4' : t = 0 ∨ t = 1 ∨ t = 2 ∨ t = 3 := by omega
      rcases hs4' with rfl | rfl | rfl | rfl <;> rcases ht4' with rfl | rfl | rfl | rfl
      · have hS := sa
        have hT := sa
        obtain ⟨w, n, q1, q2, q3, q4, q5, q6, q7, q8⟩ := hS
        obtain ⟨w', n', p1, p2, p3, p4, p5, p6, p7, p8⟩ := hT
        obtain rfl : n = n' := (nI_eq (by omega) (by omega)).mp (q6.symm.trans p6)
        obtain rfl : w = w' := (nI_eq (rs_w q2) (rs_w p2)).mp (q4.symm.trans p4)
        have hw := rs_w q2
        have hw' := rs_w p2
        have cm : f_X5_isMissing C_sa_bits = some (b2 (decide (w = 0))) := by rw [q4]; exact c_miss w hw
        have c1 : f_X5_hasRun C_sa_len a2 a5 = some (b2 (decide (0 ≤ a5.toInt ∧ a5.toInt ≤ n ∧ 0 ≤ a2.toInt ∧ a2.toInt + a5.toInt ≤ n))) := by rw [q6]; exact c_hasRun q1 a2 a5
        have c2 := c_hasRun p1 a4 a5
        rw [← p6] at c2
        rw [m_cpy4 (w := w) hs4 ht4 q5 p5 q7 p7 hw hw' q1 p1, cp_aa, cm, bd_s]
        by_cases qw : w = 0
        · rw [if_pos qw, decide_eq_true qw, if_neg (show ¬ b2 true = 0 by decide), show (-1000000006 : Int32) = -nI 1000000006 from rfl, cM, bd_s]
          refine ⟨_, _, rfl, rfl, rfl, ?_⟩; exact ⟨v, e, hv, he, hm, hd, hl, hs, ht, hk0, hk1, hk2, (rf_step hf 5 (by decide)), hp, sa, sb, sc, sd⟩
        · rw [if_neg qw, decide_eq_false qw, if_pos (show b2 false = 0 by decide), bd_s]
          rw [if_neg qw, if_pos (show b2 false = 0 by decide), show f_X5_bits C_sa_bits = some C_sa_bits from rfl, bd_s, bd_s, if_pos rfl, if_pos rfl, c1, bd_s]
          by_cases g1 : 0 ≤ a5.toInt ∧ a5.toInt ≤ n ∧ 0 ≤ a2.toInt ∧ a2.toInt + a5.toInt ≤ n
          rotate_left
          · rw [decide_eq_false g1, if_pos (show b2 false = 0 by decide), if_neg (show ¬ false = true by decide), show (-1000000001 : Int32) = -nI 1000000001 from rfl, cB, bd_s]
            refine ⟨_, _, rfl, rfl, rfl, ?_⟩; exact ⟨v, e, hv, he, hm, hd, hl, hs, ht, hk0, hk1, hk2, (rf_step hf 0 (by decide)), hp, sa, sb, sc, sd⟩
          rw [decide_eq_true g1, if_neg (show ¬ b2 true = 0 by decide), if_pos (show true = true from rfl), c2, bd_s]
          by_cases g2 : 0 ≤ a5.toInt ∧ a5.toInt ≤ n ∧ 0 ≤ a4.toInt ∧ a4.toInt + a5.toInt ≤ n
          rotate_left
          · rw [decide_eq_false g2, if_pos (show b2 false = 0 by decide), if_neg (show ¬ false = true by decide), show (-1000000001 : Int32) = -nI 1000000001 from rfl, cB, bd_s]
            refine ⟨_, _, rfl, rfl, rfl, ?_⟩; exact ⟨v, e, hv, he, hm, hd, hl, hs, ht, hk0, hk1, hk2, (rf_step hf 0 (by decide)), hp, sa, sb, sc, sd⟩
          rw [decide_eq_true g2, if_neg (show ¬ b2 true = 0 by decide), if_pos (show true = true from rfl)]
          obtain ⟨x, hx, rfl⟩ : ∃ x, x < 41 ∧ a2 = nI x := inr_t (by decide) (inr_iff.mpr (by omega))
          obtain ⟨y, hy, rfl⟩ : ∃ y, y < 41 ∧ a4 = nI y := inr_t (by decide) (inr_iff.mpr (by omega))
          obtain ⟨m, hmm, rfl⟩ : ∃ m, m < 41 ∧ a5 = nI m := inr_t (by decide) (inr_iff.mpr (by omega))
          have g1' := g1
          have g2' := g2
          rw [nI_toInt (by omega), nI_toInt (by omega)] at g1' g2'
          have hxm : x + m ≤ n := by omega
          have hym : y + m ≤ n := by omega
          obtain ⟨r1, f1, f2⟩ := m_cp128 (Q := M_numbers) (s := 0) (x := x) (m := m) (by decide) (by omega) m N 0 M_moved (by omega) (by omega) (fun j hj => absurd hj (Nat.not_lt_zero _))
          obtain ⟨r2, f3, f4, f5⟩ := m_cp165 (M := r1) (t := 0) (y := y) (m := m) (by decide) (by omega) m N 0 M_numbers (by omega) (by omega)
          have tk := (show f_X5_takeRunSelf C_sa_nums C_sa_len (nI x) (nI y) (nI m) = some (va_cpy C_sa_nums C_sa_nums x y m) from by rw [q6]; exact c_takeSelf q1 hxm (by omega) _)
          rw [tk, bd_s, f1, bd_s, f3, bd_s]
          refine ⟨_, _, rfl, rfl, rfl, ?_⟩
          have hNn : RS 0 (va_cpy C_sa_nums C_sa_nums x y m) C_sa_bits C_sa_len M_widths M_sizes r2 := ⟨_, n, p1, p2, p3, p4, p5, p6, p7, fun z hz => by
            by_cases qz : y ≤ z ∧ z < y + m
            · have a1 := f4 (z - y) (Nat.zero_le _) (by omega)
              have a2 := f2 (z - y) (by omega)
              have a3 := q8 (x + (z - y)) (by omega)
              rw [show 40 * 0 + y + (z - y) = 40 * 0 + z by omega] at a1
              rw [show 40 * 0 + x + (z - y) = 40 * 0 + (x + (z - y)) by omega] at a2
              rw [pk_cpy_in qz.1 qz.2, a1, a2, a3]
            · rw [pk_cpy_out (by omega), f5 _ (by omega)]; exact p8 z hz⟩
          exact ⟨v, e, hv, he, hm, hd, hl, hs, ht, hk0, hk1, hk2, hf, hp, hNn, (rs_oth sb rfl rfl (fun j hj => f5 _ (by omega))), (rs_oth sc rfl rfl (fun j hj => f5 _ (by omega))), (rs_oth sd rfl rfl (fun j hj => f5 _ (by omega)))⟩
      · have hS := sa
        have hT := sb
        obtain ⟨w, n, q1, q2, q3, q4, q5, q6, q7, q8⟩ := hS
        obtain ⟨w', n', p1, p2, p3, p4, p5, p6, p7, p8⟩ := hT
        skip
        have hw := rs_w q2
        have hw' := rs_w p2
        have cm : f_X5_isMissing C_sa_bits = some (b2 (decide (w = 0))) := by rw [q4]; exact c_miss w hw
        have cm' : f_X5_isMissing C_sb_bits = some (b2 (decide (w' = 0))) := by rw [p4]; exact c_miss w' hw'
        have c1 : f_X5_hasRun C_sa_len a2 a5 = some (b2 (decide (0 ≤ a5.toInt ∧ a5.toInt ≤ n ∧ 0 ≤ a2.toInt ∧ a2.toInt + a5.toInt ≤ n))) := by rw [q6]; exact c_hasRun q1 a2 a5
        have c2 := c_hasRun p1 a4 a5
        rw [← p6] at c2
        rw [m_cpy4 (w := w) hs4 ht4 q5 p5 q7 p7 hw hw' q1 p1, cp_ab, cm, bd_s]
        by_cases qw : w = 0
        · rw [if_pos qw, decide_eq_true qw, if_neg (show ¬ b2 true = 0 by decide), show (-1000000006 : Int32) = -nI 1000000006 from rfl, cM, bd_s]
          refine ⟨_, _, rfl, rfl, rfl, ?_⟩; exact ⟨v, e, hv, he, hm, hd, hl, hs, ht, hk0, hk1, hk2, (rf_step hf 5 (by decide)), hp, sa, sb, sc, sd⟩
        · rw [if_neg qw, decide_eq_false qw, if_pos (show b2 false = 0 by decide), cm', bd_s]
          by_cases pw : w' = 0
          · rw [if_pos pw, decide_eq_true pw, if_neg (show ¬ b2 true = 0 by decide), show (-1000000006 : Int32) = -nI 1000000006 from rfl, cM, bd_s]
            refine ⟨_, _, rfl, rfl, rfl, ?_⟩; exact ⟨v, e, hv, he, hm, hd, hl, hs, ht, hk0, hk1, hk2, (rf_step hf 5 (by decide)), hp, sa, sb, sc, sd⟩
          rw [if_neg pw, decide_eq_false pw, if_pos (show b2 false = 0 by decide), show f_X5_bits C_sa_bits = some C_sa_bits from rfl, bd_s, show f_X5_bits C_sb_bits = some C_sb_bits from rfl, bd_s]
          by_cases ww : w = w'
          rotate_left
          · rw [if_neg ww, if_neg (show ¬ C_sa_bits = C_sb_bits from fun z => by rw [q4, p4] at z; exact ww ((nI_eq hw hw').mp z)), show (-1000000003 : Int32) = -nI 1000000003 from rfl, cK, bd_s]
            refine ⟨_, _, rfl, rfl, rfl, ?_⟩; exact ⟨v, e, hv, he, hm, hd, hl, hs, ht, hk0, hk1, hk2, (rf_step hf 2 (by decide)), hp, sa, sb, sc, sd⟩
          rw [if_pos ww, if_pos (show C_sa_bits = C_sb_bits by rw [q4, p4, ww]), c1, bd_s]
          by_cases g1 : 0 ≤ a5.toInt ∧ a5.toInt ≤ n ∧ 0 ≤ a2.toInt ∧ a2.toInt + a5.toInt ≤ n
          rotate_left
          · rw [decide_eq_false g1, if_pos (show b2 false = 0 by decide), if_neg (show ¬ false = true by decide), show (-1000000001 : Int32) = -nI 1000000001 from rfl, cB, bd_s]
            refine ⟨_, _, rfl, rfl, rfl, ?_⟩; exact ⟨v, e, hv, he, hm, hd, hl, hs, ht, hk0, hk1, hk2, (rf_step hf 0 (by decide)), hp, sa, sb, sc, sd⟩
          rw [decide_eq_true g1, if_neg (show ¬ b2 true = 0 by decide), if_pos (show true = true from rfl), c2, bd_s]
          by_cases g2 : 0 ≤ a5.toInt ∧ a5.toInt ≤ n' ∧ 0 ≤ a4.toInt ∧ a4.toInt + a5.toInt ≤ n'
          rotate_left
          · rw [decide_eq_false g2, if_pos (show b2 false = 0 by decide), if_neg (show ¬ false = true by decide), show (-1000000001 : Int32) = -nI 1000000001 from rfl, cB, bd_s]
            refine ⟨_, _, rfl, rfl, rfl, ?_⟩; exact ⟨v, e, hv, he, hm, hd, hl, hs, ht, hk0, hk1, hk2, (rf_step hf 0 (by decide)), hp, sa, sb, sc, sd⟩
          rw [decide_eq_true g2, if_neg (show ¬ b2 true = 0 by decide), if_pos (show true = true from rfl)]
          obtain ⟨x, hx, rfl⟩ : ∃ x, x < 41 ∧ a2 = nI x := inr_t (by decide) (inr_iff.mpr (by omega))
          obtain ⟨y, hy, rfl⟩ : ∃ y, y < 41 ∧ a4 = nI y := inr_t (by decide) (inr_iff.mpr (by omega))
          obtain ⟨m, hmm, rfl⟩ : ∃ m, m < 41 ∧ a5 = nI m := inr_t (by decide) (inr_iff.mpr (by omega))
          have g1' := g1
          have g2' := g2
          rw [nI_toInt (by omega), nI_toInt (by omega)] at g1' g2'
          have hxm : x + m ≤ n := by omega
          have hym : y + m ≤ n' := by omega
          obtain ⟨r1, f1, f2⟩ := m_cp128 (Q := M_numbers) (s := 0) (x := x) (m := m) (by decide) (by omega) m N 0 M_moved (by omega) (by omega) (fun j hj => absurd hj (Nat.not_lt_zero _))
          obtain ⟨r2, f3, f4, f5⟩ := m_cp165 (M := r1) (t := 1) (y := y) (m := m) (by decide) (by omega) m N 0 M_numbers (by omega) (by omega)
          have tk := (show f_X5_takeRun C_sb_nums C_sb_len C_sa_nums C_sa_len (nI x) (nI y) (nI m) = some (va_cpy C_sa_nums C_sb_nums x y m) from by rw [p6, q6]; exact c_take q1 p1 hxm hym _ _)
          rw [tk, bd_s, f1, bd_s, f3, bd_s]
          refine ⟨_, _, rfl, rfl, rfl, ?_⟩
          have hNn : RS 1 (va_cpy C_sa_nums C_sb_nums x y m) C_sb_bits C_sb_len M_widths M_sizes r2 := ⟨_, n', p1, p2, p3, p4, p5, p6, p7, fun z hz => by
            by_cases qz : y ≤ z ∧ z < y + m
            · have a1 := f4 (z - y) (Nat.zero_le _) (by omega)
              have a2 := f2 (z - y) (by omega)
              have a3 := q8 (x + (z - y)) (by omega)
              rw [show 40 * 1 + y + (z - y) = 40 * 1 + z by omega] at a1
              rw [show 40 * 0 + x + (z - y) = 40 * 0 + (x + (z - y)) by omega] at a2
              rw [pk_cpy_in qz.1 qz.2, a1, a2, a3]
            · rw [pk_cpy_out (by omega), f5 _ (by omega)]; exact p8 z hz⟩
          exact ⟨v, e, hv, he, hm, hd, hl, hs, ht, hk0, hk1, hk2, hf, hp, (rs_oth sa rfl rfl (fun j hj => f5 _ (by omega))), hNn, (rs_oth sc rfl rfl (fun j hj => f5 _ (by omega))), (rs_oth sd rfl rfl (fun j hj => f5 _ (by omega)))⟩
      · have hS := sa
        have hT := sc
        obtain ⟨w, n, q1, q2, q3, q4, q5, q6, q7, q8⟩ := hS
        obtain ⟨w', n', p1, p2, p3, p4, p5, p6, p7, p8⟩ := hT
        skip
        have hw := rs_w q2
        have hw' := rs_w p2
        have cm : f_X5_isMissing C_sa_bits = some (b2 (decide (w = 0))) := by rw [q4]; exact c_miss w hw
        have cm' : f_X5_isMissing C_sc_bits = some (b2 (decide (w' = 0))) := by rw [p4]; exact c_miss w' hw'
        have c1 : f_X5_hasRun C_sa_len a2 a5 = some (b2 (decide (0 ≤ a5.toInt ∧ a5.toInt ≤ n ∧ 0 ≤ a2.toInt ∧ a2.toInt + a5.toInt ≤ n))) := by rw [q6]; exact c_hasRun q1 a2 a5
        have c2 := c_hasRun p1 a4 a5
        rw [← p6] at c2
        rw [m_cpy4 (w := w) hs4 ht4 q5 p5 q7 p7 hw hw' q1 p1, cp_ac, cm, bd_s]
        by_cases qw : w = 0
        · rw [if_pos qw, decide_eq_true qw, if_neg (show ¬ b2 true = 0 by decide), show (-1000000006 : Int32) = -nI 1000000006 from rfl, cM, bd_s]
          refine ⟨_, _, rfl, rfl, rfl, ?_⟩; exact ⟨v, e, hv, he, hm, hd, hl, hs, ht, hk0, hk1, hk2, (rf_step hf 5 (by decide)), hp, sa, sb, sc, sd⟩
        · rw [if_neg qw, decide_eq_false qw, if_pos (show b2 false = 0 by decide), cm', bd_s]
          by_cases pw : w' = 0
          · rw [if_pos pw, decide_eq_true pw, if_neg (show ¬ b2 true = 0 by decide), show (-1000000006 : Int32) = -nI 1000000006 from rfl, cM, bd_s]
            refine ⟨_, _, rfl, rfl, rfl, ?_⟩; exact ⟨v, e, hv, he, hm, hd, hl, hs, ht, hk0, hk1, hk2, (rf_step hf 5 (by decide)), hp, sa, sb, sc, sd⟩
          rw [if_neg pw, decide_eq_false pw, if_pos (show b2 false = 0 by decide), show f_X5_bits C_sa_bits = some C_sa_bits from rfl, bd_s, show f_X5_bits C_sc_bits = some C_sc_bits from rfl, bd_s]
          by_cases ww : w = w'
          rotate_left
          · rw [if_neg ww, if_neg (show ¬ C_sa_bits = C_sc_bits from fun z => by rw [q4, p4] at z; exact ww ((nI_eq hw hw').mp z)), show (-1000000003 : Int32) = -nI 1000000003 from rfl, cK, bd_s]
            refine ⟨_, _, rfl, rfl, rfl, ?_⟩; exact ⟨v, e, hv, he, hm, hd, hl, hs, ht, hk0, hk1, hk2, (rf_step hf 2 (by decide)), hp, sa, sb, sc, sd⟩
          rw [if_pos ww, if_pos (show C_sa_bits = C_sc_bits by rw [q4, p4, ww]), c1, bd_s]
          by_cases g1 : 0 ≤ a5.toInt ∧ a5.toInt ≤ n ∧ 0 ≤ a2.toInt ∧ a2.toInt + a5.toInt ≤ n
          rotate_left
          · rw [decide_eq_false g1, if_pos (show b2 false = 0 by decide), if_neg (show ¬ false = true by decide), show (-1000000001 : Int32) = -nI 1000000001 from rfl, cB, bd_s]
            refine ⟨_, _, rfl, rfl, rfl, ?_⟩; exact ⟨v, e, hv, he, hm, hd, hl, hs, ht, hk0, hk1, hk2, (rf_step hf 0 (by decide)), hp, sa, sb, sc, sd⟩
          rw [decide_eq_true g1, if_neg (show ¬ b2 true = 0 by decide), if_pos (show true = true from rfl), c2, bd_s]
          by_cases g2 : 0 ≤ a5.toInt ∧ a5.toInt ≤ n' ∧ 0 ≤ a4.toInt ∧ a4.toInt + a5.toInt ≤ n'
          rotate_left
          · rw [decide_eq_false g2, if_pos (show b2 false = 0 by decide), if_neg (show ¬ false = true by decide), show (-1000000001 : Int32) = -nI 1000000001 from rfl, cB, bd_s]
            refine ⟨_, _, rfl, rfl, rfl, ?_⟩; exact ⟨v, e, hv, he, hm, hd, hl, hs, ht, hk0, hk1, hk2, (rf_step hf 0 (by decide)), hp, sa, sb, sc, sd⟩
          rw [decide_eq_true g2, if_neg (show ¬ b2 true = 0 by decide), if_pos (show true = true from rfl)]
          obtain ⟨x, hx, rfl⟩ : ∃ x, x < 41 ∧ a2 = nI x := inr_t (by decide) (inr_iff.mpr (by omega))
          obtain ⟨y, hy, rfl⟩ : ∃ y, y < 41 ∧ a4 = nI y := inr_t (by decide) (inr_iff.mpr (by omega))
          obtain ⟨m, hmm, rfl⟩ : ∃ m, m < 41 ∧ a5 = nI m := inr_t (by decide) (inr_iff.mpr (by omega))
          have g1' := g1
          have g2' := g2
          rw [nI_toInt (by omega), nI_toInt (by omega)] at g1' g2'
          have hxm : x + m ≤ n := by omega
          have hym : y + m ≤ n' := by omega
          obtain ⟨r1, f1, f2⟩ := m_cp128 (Q := M_numbers) (s := 0) (x := x) (m := m) (by decide) (by omega) m N 0 M_moved (by omega) (by omega) (fun j hj => absurd hj (Nat.not_lt_zero _))
          obtain ⟨r2, f3, f4, f5⟩ := m_cp165 (M := r1) (t := 2) (y := y) (m := m) (by decide) (by omega) m N 0 M_numbers (by omega) (by omega)
          have tk := (show f_X5_takeRun C_sc_nums C_sc_len C_sa_nums C_sa_len (nI x) (nI y) (nI m) = some (va_cpy C_sa_nums C_sc_nums x y m) from by rw [p6, q6]; exact c_take q1 p1 hxm hym _ _)
          rw [tk, bd_s, f1, bd_s, f3, bd_s]
          refine ⟨_, _, rfl, rfl, rfl, ?_⟩
          have hNn : RS 2 (va_cpy C_sa_nums C_sc_nums x y m) C_sc_bits C_sc_len M_widths M_sizes r2 := ⟨_, n', p1, p2, p3, p4, p5, p6, p7, fun z hz => by
            by_cases qz : y ≤ z ∧ z < y + m
            · have a1 := f4 (z - y) (Nat.zero_le _) (by omega)
              have a2 := f2 (z - y) (by omega)
              have a3 := q8 (x + (z - y)) (by omega)
              rw [show 40 * 2 + y + (z - y) = 40 * 2 + z by omega] at a1
              rw [show 40 * 0 + x + (z - y) = 40 * 0 + (x + (z - y)) by omega] at a2
              rw [pk_cpy_in qz.1 qz.2, a1, a2, a3]
            · rw [pk_cpy_out (by omega), f5 _ (by omega)]; exact p8 z hz⟩
          exact ⟨v, e, hv, he, hm, hd, hl, hs, ht, hk0, hk1, hk2, hf, hp, (rs_oth sa rfl rfl (fun j hj => f5 _ (by omega))), (rs_oth sb rfl rfl (fun j hj => f5 _ (by omega))), hNn, (rs_oth sd rfl rfl (fun j hj => f5 _ (by omega)))⟩
      · have hS := sa
        have hT := sd
        obtain ⟨w, n, q1, q2, q3, q4, q5, q6, q7, q8⟩ := hS
        obtain ⟨w', n', p1, p2, p3, p4, p5, p6, p7, p8⟩ := hT
        skip
        have hw := rs_w q2
        have hw' := rs_w p2
        have cm : f_X5_isMissing C_sa_bits = some (b2 (decide (w = 0))) := by rw [q4]; exact c_miss w hw
        have cm' : f_X5_isMissing C_sd_bits = some (b2 (decide (w' = 0))) := by rw [p4]; exact c_miss w' hw'
        have c1 : f_X5_hasRun C_sa_len a2 a5 = some (b2 (decide (0 ≤ a5.toInt ∧ a5.toInt ≤ n ∧ 0 ≤ a2.toInt ∧ a2.toInt + a5.toInt ≤ n))) := by rw [q6]; exact c_hasRun q1 a2 a5
        have c2 := c_hasRun p1 a4 a5
        rw [← p6] at c2
        rw [m_cpy4 (w := w) hs4 ht4 q5 p5 q7 p7 hw hw' q1 p1, cp_ad, cm, bd_s]
        by_cases qw : w = 0
        · rw [if_pos qw, decide_eq_true qw, if_neg (show ¬ b2 true = 0 by decide), show (-1000000006 : Int32) = -nI 1000000006 from rfl, cM, bd_s]
          refine ⟨_, _, rfl, rfl, rfl, ?_⟩; exact ⟨v, e, hv, he, hm, hd, hl, hs, ht, hk0, hk1, hk2, (rf_step hf 5 (by decide)), hp, sa, sb, sc, sd⟩
        · rw [if_neg qw, decide_eq_false qw, if_pos (show b2 false = 0 by decide), cm', bd_s]
          by_cases pw : w' = 0
          · rw [if_pos pw, decide_eq_true pw, if_neg (show ¬ b2 true = 0 by decide), show (-1000000006 : Int32) = -nI 1000000006 from rfl, cM, bd_s]
            refine ⟨_, _, rfl, rfl, rfl, ?_⟩; exact ⟨v, e, hv, he, hm, hd, hl, hs, ht, hk0, hk1, hk2, (rf_step hf 5 (by decide)), hp, sa, sb, sc, sd⟩
          rw [if_neg pw, decide_eq_false pw, if_pos (show b2 false = 0 by decide), show f_X5_bits C_sa_bits = some C_sa_bits from rfl, bd_s, show f_X5_bits C_sd_bits = some C_sd_bits from rfl, bd_s]
          by_cases ww : w = w'
          rotate_left
          · rw [if_neg ww, if_neg (show ¬ C_sa_bits = C_sd_bits from fun z => by rw [q4, p4] at z; exact ww ((nI_eq hw hw').mp z)), show (-1000000003 : Int32) = -nI 1000000003 from rfl, cK, bd_s]
            refine ⟨_, _, rfl, rfl, rfl, ?_⟩; exact ⟨v, e, hv, he, hm, hd, hl, hs, ht, hk0, hk1, hk2, (rf_step hf 2 (by decide)), hp, sa, sb, sc, sd⟩
          rw [if_pos ww, if_pos (show C_sa_bits = C_sd_bits by rw [q4, p4, ww]), c1, bd_s]
          by_cases g1 : 0 ≤ a5.toInt ∧ a5.toInt ≤ n ∧ 0 ≤ a2.toInt ∧ a2.toInt + a5.toInt ≤ n
          rotate_left
          · rw [decide_eq_false g1, if_pos (show b2 false = 0 by decide), if_neg (show ¬ false = true by decide), show (-1000000001 : Int32) = -nI 1000000001 from rfl, cB, bd_s]
            refine ⟨_, _, rfl, rfl, rfl, ?_⟩; exact ⟨v, e, hv, he, hm, hd, hl, hs, ht, hk0, hk1, hk2, (rf_step hf 0 (by decide)), hp, sa, sb, sc, sd⟩
          rw [decide_eq_true g1, if_neg (show ¬ b2 true = 0 by decide), if_pos (show true = true from rfl), c2, bd_s]
          by_cases g2 : 0 ≤ a5.toInt ∧ a5.toInt ≤ n' ∧ 0 ≤ a4.toInt ∧ a4.toInt + a5.toInt ≤ n'
          rotate_left
          · rw [decide_eq_false g2, if_pos (show b2 false = 0 by decide), if_neg (show ¬ false = true by decide), show (-1000000001 : Int32) = -nI 1000000001 from rfl, cB, bd_s]
            refine ⟨_, _, rfl, rfl, rfl, ?_⟩; exact ⟨v, e, hv, he, hm, hd, hl, hs, ht, hk0, hk1, hk2, (rf_step hf 0 (by decide)), hp, sa, sb, sc, sd⟩
          rw [decide_eq_true g2, if_neg (show ¬ b2 true = 0 by decide), if_pos (show true = true from rfl)]
          obtain ⟨x, hx, rfl⟩ : ∃ x, x < 41 ∧ a2 = nI x := inr_t (by decide) (inr_iff.mpr (by omega))
          obtain ⟨y, hy, rfl⟩ : ∃ y, y < 41 ∧ a4 = nI y := inr_t (by decide) (inr_iff.mpr (by omega))
          obtain ⟨m, hmm, rfl⟩ : ∃ m, m < 41 ∧ a5 = nI m := inr_t (by decide) (inr_iff.mpr (by omega))
          have g1' := g1
          have g2' := g2
          rw [nI_toInt (by omega), nI_toInt (by omega)] at g1' g2'
          have hxm : x + m ≤ n := by omega
          have hym : y + m ≤ n' := by omega
          obtain ⟨r1, f1, f2⟩ := m_cp128 (Q := M_numbers) (s := 0) (x := x) (m := m) (by decide) (by omega) m N 0 M_moved (by omega) (by omega) (fun j hj => absurd hj (Nat.not_lt_zero _))
          obtain ⟨r2, f3, f4, f5⟩ := m_cp165 (M := r1) (t := 3) (y := y) (m := m) (by decide) (by omega) m N 0 M_numbers (by omega) (by omega)
          have tk := (show f_X5_takeRun C_sd_nums C_sd_len C_sa_nums C_sa_len (nI x) (nI y) (nI m) = some (va_cpy C_sa_nums C_sd_nums x y m) from by rw [p6, q6]; exact c_take q1 p1 hxm hym _ _)
          rw [tk, bd_s, f1, bd_s, f3, bd_s]
          refine ⟨_, _, rfl, rfl, rfl, ?_⟩
          have hNn : RS 3 (va_cpy C_sa_nums C_sd_nums x y m) C_sd_bits C_sd_len M_widths M_sizes r2 := ⟨_, n', p1, p2, p3, p4, p5, p6, p7, fun z hz => by
            by_cases qz : y ≤ z ∧ z < y + m
            · have a1 := f4 (z - y) (Nat.zero_le _) (by omega)
              have a2 := f2 (z - y) (by omega)
              have a3 := q8 (x + (z - y)) (by omega)
              rw [show 40 * 3 + y + (z - y) = 40 * 3 + z by omega] at a1
              rw [show 40 * 0 + x + (z - y) = 40 * 0 + (x + (z - y)) by omega] at a2
              rw [pk_cpy_in qz.1 qz.2, a1, a2, a3]
            · rw [pk_cpy_out (by omega), f5 _ (by omega)]; exact p8 z hz⟩
          exact ⟨v, e, hv, he, hm, hd, hl, hs, ht, hk0, hk1, hk2, hf, hp, (rs_oth sa rfl rfl (fun j hj => f5 _ (by omega))), (rs_oth sb rfl rfl (fun j hj => f5 _ (by omega))), (rs_oth sc rfl rfl (fun j hj => f5 _ (by omega))), hNn⟩
      · have hS := sb
        have hT := sa
        obtain ⟨w, n, q1, q2, q3, q4, q5, q6, q7, q8⟩ := hS
        obtain ⟨w', n', p1, p2, p3, p4, p5, p6, p7, p8⟩ := hT
        skip
        have hw := rs_w q2
        have hw' := rs_w p2
        have cm : f_X5_isMissing C_sb_bits = some (b2 (decide (w = 0))) := by rw [q4]; exact c_miss w hw
        have cm' : f_X5_isMissing C_sa_bits = some (b2 (decide (w' = 0))) := by rw [p4]; exact c_miss w' hw'
        have c1 : f_X5_hasRun C_sb_len a2 a5 = some (b2 (decide (0 ≤ a5.toInt ∧ a5.toInt ≤ n ∧ 0 ≤ a2.toInt ∧ a2.toInt + a5.toInt ≤ n))) := by rw [q6]; exact c_hasRun q1 a2 a5
        have c2 := c_hasRun p1 a4 a5
        rw [← p6] at c2
        rw [m_cpy4 (w := w) hs4 ht4 q5 p5 q7 p7 hw hw' q1 p1, cp_ba, cm, bd_s]
        by_cases qw : w = 0
        · rw [if_pos qw, decide_eq_true qw, if_neg (show ¬ b2 true = 0 by decide), show (-1000000006 : Int32) = -nI 1000000006 from rfl, cM, bd_s]
          refine ⟨_, _, rfl, rfl, rfl, ?_⟩; exact ⟨v, e, hv, he, hm, hd, hl, hs, ht, hk0, hk1, hk2, (rf_step hf 5 (by decide)), hp, sa, sb, sc, sd⟩
        · rw [if_neg qw, decide_eq_false qw, if_pos (show b2 false = 0 by decide), cm', bd_s]
          by_cases pw : w' = 0
          · rw [if_pos pw, decide_eq_true pw, if_neg (show ¬ b2 true = 0 by decide), show (-1000000006 : Int32) = -nI 1000000006 from rfl, cM, bd_s]
            refine ⟨_, _, rfl, rfl, rfl, ?_⟩; exact ⟨v, e, hv, he, hm, hd, hl, hs, ht, hk0, hk1, hk2, (rf_step hf 5 (by decide)), hp, sa, sb, sc, sd⟩
          rw [if_neg pw, decide_eq_false pw, if_pos (show b2 false = 0 by decide), show f_X5_bits C_sb_bits = some C_sb_bits from rfl, bd_s, show f_X5_bits C_sa_bits = some C_sa_bits from rfl, bd_s]
          by_cases ww : w = w'
          rotate_left
          · rw [if_neg ww, if_neg (show ¬ C_sb_bits = C_sa_bits from fun z => by rw [q4, p4] at z; exact ww ((nI_eq hw hw').mp z)), show (-1000000003 : Int32) = -nI 1000000003 from rfl, cK, bd_s]
            refine ⟨_, _, rfl, rfl, rfl, ?_⟩; exact ⟨v, e, hv, he, hm, hd, hl, hs, ht, hk0, hk1, hk2, (rf_step hf 2 (by decide)), hp, sa, sb, sc, sd⟩
          rw [if_pos ww, if_pos (show C_sb_bits = C_sa_bits by rw [q4, p4, ww]), c1, bd_s]
          by_cases g1 : 0 ≤ a5.toInt ∧ a5.toInt ≤ n ∧ 0 ≤ a2.toInt ∧ a2.toInt + a5.toInt ≤ n
          rotate_left
          · rw [decide_eq_false g1, if_pos (show b2 false = 0 by decide), if_neg (show ¬ false = true by decide), show (-1000000001 : Int32) = -nI 1000000001 from rfl, cB, bd_s]
            refine ⟨_, _, rfl, rfl, rfl, ?_⟩; exact ⟨v, e, hv, he, hm, hd, hl, hs, ht, hk0, hk1, hk2, (rf_step hf 0 (by decide)), hp, sa, sb, sc, sd⟩
          rw [decide_eq_true g1, if_neg (show ¬ b2 true = 0 by decide), if_pos (show true = true from rfl), c2, bd_s]
          by_cases g2 : 0 ≤ a5.toInt ∧ a5.toInt ≤ n' ∧ 0 ≤ a4.toInt ∧ a4.toInt + a5.toInt ≤ n'
          rotate_left
          · rw [decide_eq_false g2, if_pos (show b2 false = 0 by decide), if_neg (show ¬ false = true by decide), show (-1000000001 : Int32) = -nI 1000000001 from rfl, cB, bd_s]
            refine ⟨_, _, rfl, rfl, rfl, ?_⟩; exact ⟨v, e, hv, he, hm, hd, hl, hs, ht, hk0, hk1, hk2, (rf_step hf 0 (by decide)), hp, sa, sb, sc, sd⟩
          rw [decide_eq_true g2, if_neg (show ¬ b2 true = 0 by decide), if_pos (show true = true from rfl)]
          obtain ⟨x, hx, rfl⟩ : ∃ x, x < 41 ∧ a2 = nI x := inr_t (by decide) (inr_iff.mpr (by omega))
          obtain ⟨y, hy, rfl⟩ : ∃ y, y < 41 ∧ a4 = nI y := inr_t (by decide) (inr_iff.mpr (by omega))
          obtain ⟨m, hmm, rfl⟩ : ∃ m, m < 41 ∧ a5 = nI m := inr_t (by decide) (inr_iff.mpr (by omega))
          have g1' := g1
          have g2' := g2
          rw [nI_toInt (by omega), nI_toInt (by omega)] at g1' g2'
          have hxm : x + m ≤ n := by omega
          have hym : y + m ≤ n' := by omega
          obtain ⟨r1, f1, f2⟩ := m_cp128 (Q := M_numbers) (s := 1) (x := x) (m := m) (by decide) (by omega) m N 0 M_moved (by omega) (by omega) (fun j hj => absurd hj (Nat.not_lt_zero _))
          obtain ⟨r2, f3, f4, f5⟩ := m_cp165 (M := r1) (t := 0) (y := y) (m := m) (by decide) (by omega) m N 0 M_numbers (by omega) (by omega)
          have tk := (show f_X5_takeRun C_sa_nums C_sa_len C_sb_nums C_sb_len (nI x) (nI y) (nI m) = some (va_cpy C_sb_nums C_sa_nums x y m) from by rw [p6, q6]; exact c_take q1 p1 hxm hym _ _)
          rw [tk, bd_s, f1, bd_s, f3, bd_s]
          refine ⟨_, _, rfl, rfl, rfl, ?_⟩
          have hNn : RS 0 (va_cpy C_sb_nums C_sa_nums x y m) C_sa_bits C_sa_len M_widths M_sizes r2 := ⟨_, n', p1, p2, p3, p4, p5, p6, p7, fun z hz => by
            by_cases qz : y ≤ z ∧ z < y + m
            · have a1 := f4 (z - y) (Nat.zero_le _) (by omega)
              have a2 := f2 (z - y) (by omega)
              have a3 := q8 (x + (z - y)) (by omega)
              rw [show 40 * 0 + y + (z - y) = 40 * 0 + z by omega] at a1
              rw [show 40 * 1 + x + (z - y) = 40 * 1 + (x + (z - y)) by omega] at a2
              rw [pk_cpy_in qz.1 qz.2, a1, a2, a3]
            · rw [pk_cpy_out (by omega), f5 _ (by omega)]; exact p8 z hz⟩
          exact ⟨v, e, hv, he, hm, hd, hl, hs, ht, hk0, hk1, hk2, hf, hp, hNn, (rs_oth sb rfl rfl (fun j hj => f5 _ (by omega))), (rs_oth sc rfl rfl (fun j hj => f5 _ (by omega))), (rs_oth sd rfl rfl (fun j hj => f5 _ (by omega)))⟩
      · have hS := sb
        have hT := sb
        obtain ⟨w, n, q1, q2, q3, q4, q5, q6, q7, q8⟩ := hS
        obtain ⟨w', n', p1, p2, p3, p4, p5, p6, p7, p8⟩ := hT
        obtain rfl : n = n' := (nI_eq (by omega) (by omega)).mp (q6.symm.trans p6)
        obtain rfl : w = w' := (nI_eq (rs_w q2) (rs_w p2)).mp (q4.symm.trans p4)
        have hw := rs_w q2
        have hw' := rs_w p2
        have cm : f_X5_isMissing C_sb_bits = some (b2 (decide (w = 0))) := by rw [q4]; exact c_miss w hw
        have c1 : f_X5_hasRun C_sb_len a2 a5 = some (b2 (decide (0 ≤ a5.toInt ∧ a5.toInt ≤ n ∧ 0 ≤ a2.toInt ∧ a2.toInt + a5.toInt ≤ n))) := by rw [q6]; exact c_hasRun q1 a2 a5
        have c2 := c_hasRun p1 a4 a5
        rw [← p6] at c2
        rw [m_cpy4 (w := w) hs4 ht4 q5 p5 q7 p7 hw hw' q1 p1, cp_bb, cm, bd_s]
        by_cases qw : w = 0
        · rw [if_pos qw, decide_eq_true qw, if_neg (show ¬ b2 true = 0 by decide), show (-1000000006 : Int32) = -nI 1000000006 from rfl, cM, bd_s]
          refine ⟨_, _, rfl, rfl, rfl, ?_⟩; exact ⟨v, e, hv, he, hm, hd, hl, hs, ht, hk0, hk1, hk2, (rf_step hf 5 (by decide)), hp, sa, sb, sc, sd⟩
        · rw [if_neg qw, decide_eq_false qw, if_pos (show b2 false = 0 by decide), bd_s]
          rw [if_neg qw, if_pos (show b2 false = 0 by decide), show f_X5_bits C_sb_bits = some C_sb_bits from rfl, bd_s, bd_s, if_pos rfl, if_pos rfl, c1, bd_s]
          by_cases g1 : 0 ≤ a5.toInt ∧ a5.toInt ≤ n ∧ 0 ≤ a2.toInt ∧ a2.toInt + a5.toInt ≤ n
          rotate_left
          · rw [decide_eq_false g1, if_pos (show b2 false = 0 by decide), if_neg (show ¬ false = true by decide), show (-1000000001 : Int32) = -nI 1000000001 from rfl, cB, bd_s]
            refine ⟨_, _, rfl, rfl, rfl, ?_⟩; exact ⟨v, e, hv, he, hm, hd, hl, hs, ht, hk0, hk1, hk2, (rf_step hf 0 (by decide)), hp, sa, sb, sc, sd⟩
          rw [decide_eq_true g1, if_neg (show ¬ b2 true = 0 by decide), if_pos (show true = true from rfl), c2, bd_s]
          by_cases g2 : 0 ≤ a5.toInt ∧ a5.toInt ≤ n ∧ 0 ≤ a4.toInt ∧ a4.toInt + a5.toInt ≤ n
          rotate_left
          · rw [decide_eq_false g2, if_pos (show b2 false = 0 by decide), if_neg (show ¬ false = true by decide), show (-1000000001 : Int32) = -nI 1000000001 from rfl, cB, bd_s]
            refine ⟨_, _, rfl, rfl, rfl, ?_⟩; exact ⟨v, e, hv, he, hm, hd, hl, hs, ht, hk0, hk1, hk2, (rf_step hf 0 (by decide)), hp, sa, sb, sc, sd⟩
          rw [decide_eq_true g2, if_neg (show ¬ b2 true = 0 by decide), if_pos (show true = true from rfl)]
          obtain ⟨x, hx, rfl⟩ : ∃ x, x < 41 ∧ a2 = nI x := inr_t (by decide) (inr_iff.mpr (by omega))
          obtain ⟨y, hy, rfl⟩ : ∃ y, y < 41 ∧ a4 = nI y := inr_t (by decide) (inr_iff.mpr (by omega))
          obtain ⟨m, hmm, rfl⟩ : ∃ m, m < 41 ∧ a5 = nI m := inr_t (by decide) (inr_iff.mpr (by omega))
          have g1' := g1
          have g2' := g2
          rw [nI_toInt (by omega), nI_toInt (by omega)] at g1' g2'
          have hxm : x + m ≤ n := by omega
          have hym : y + m ≤ n := by omega
          obtain ⟨r1, f1, f2⟩ := m_cp128 (Q := M_numbers) (s := 1) (x := x) (m := m) (by decide) (by omega) m N 0 M_moved (by omega) (by omega) (fun j hj => absurd hj (Nat.not_lt_zero _))
          obtain ⟨r2, f3, f4, f5⟩ := m_cp165 (M := r1) (t := 1) (y := y) (m := m) (by decide) (by omega) m N 0 M_numbers (by omega) (by omega)
          have tk := (show f_X5_takeRunSelf C_sb_nums C_sb_len (nI x) (nI y) (nI m) = some (va_cpy C_sb_nums C_sb_nums x y m) from by rw [q6]; exact c_takeSelf q1 hxm (by omega) _)
          rw [tk, bd_s, f1, bd_s, f3, bd_s]
          refine ⟨_, _, rfl, rfl, rfl, ?_⟩
          have hNn : RS 1 (va_cpy C_sb_nums C_sb_nums x y m) C_sb_bits C_sb_len M_widths M_sizes r2 := ⟨_, n, p1, p2, p3, p4, p5, p6, p7, fun z hz => by
            by_cases qz : y ≤ z ∧ z < y + m
            · have a1 := f4 (z - y) (Nat.zero_le _) (by omega)
              have a2 := f2 (z - y) (by omega)
              have a3 := q8 (x + (z - y)) (by omega)
              rw [show 40 * 1 + y + (z - y) = 40 * 1 + z by omega] at a1
              rw [show 40 * 1 + x + (z - y) = 40 * 1 + (x + (z - y)) by omega] at a2
              rw [pk_cpy_in qz.1 qz.2, a1, a2, a3]
            · rw [pk_cpy_out (by omega), f5 _ (by omega)]; exact p8 z hz⟩
          exact ⟨v, e, hv, he, hm, hd, hl, hs, ht, hk0, hk1, hk2, hf, hp, (rs_oth sa rfl rfl (fun j hj => f5 _ (by omega))), hNn, (rs_oth sc rfl rfl (fun j hj => f5 _ (by omega))), (rs_oth sd rfl rfl (fun j hj => f5 _ (by omega)))⟩
      · have hS := sb
        have hT := sc
        obtain ⟨w, n, q1, q2, q3, q4, q5, q6, q7, q8⟩ := hS
        obtain ⟨w', n', p1, p2, p3, p4, p5, p6, p7, p8⟩ := hT
        skip
        have hw := rs_w q2
        have hw' := rs_w p2
        have cm : f_X5_isMissing C_sb_bits = some (b2 (decide (w = 0))) := by rw [q4]; exact c_miss w hw
        have cm' : f_X5_isMissing C_sc_bits = some (b2 (decide (w' = 0))) := by rw [p4]; exact c_miss w' hw'
        have c1 : f_X5_hasRun C_sb_len a2 a5 = some (b2 (decide (0 ≤ a5.toInt ∧ a5.toInt ≤ n ∧ 0 ≤ a2.toInt ∧ a2.toInt + a5.toInt ≤ n))) := by rw [q6]; exact c_hasRun q1 a2 a5
        have c2 := c_hasRun p1 a4 a5
        rw [← p6] at c2
        rw [m_cpy4 (w := w) hs4 ht4 q5 p5 q7 p7 hw hw' q1 p1, cp_bc, cm, bd_s]
        by_cases qw : w = 0
        · rw [if_pos qw, decide_eq_true qw, if_neg (show ¬ b2 true = 0 by decide), show (-1000000006 : Int32) = -nI 1000000006 from rfl, cM, bd_s]
          refine ⟨_, _, rfl, rfl, rfl, ?_⟩; exact ⟨v, e, hv, he, hm, hd, hl, hs, ht, hk0, hk1, hk2, (rf_step hf 5 (by decide)), hp, sa, sb, sc, sd⟩
        · rw [if_neg qw, decide_eq_false qw, if_pos (show b2 false = 0 by decide), cm', bd_s]
          by_cases pw : w' = 0
          · rw [if_pos pw, decide_eq_true pw, if_neg (show ¬ b2 true = 0 by decide), show (-1000000006 : Int32) = -nI 1000000006 from rfl, cM, bd_s]
            refine ⟨_, _, rfl, rfl, rfl, ?_⟩; exact ⟨v, e, hv, he, hm, hd, hl, hs, ht, hk0, hk1, hk2, (rf_step hf 5 (by decide)), hp, sa, sb, sc, sd⟩
          rw [if_neg pw, decide_eq_false pw, if_pos (show b2 false = 0 by decide), show f_X5_bits C_sb_bits = some C_sb_bits from rfl, bd_s, show f_X5_bits C_sc_bits = some C_sc_bits from rfl, bd_s]
          by_cases ww : w = w'
          rotate_left
          · rw [if_neg ww, if_neg (show ¬ C_sb_bits = C_sc_bits from fun z => by rw [q4, p4] at z; exact ww ((nI_eq hw hw').mp z)), show (-1000000003 : Int32) = -nI 1000000003 from rfl, cK, bd_s]
            refine ⟨_, _, rfl, rfl, rfl, ?_⟩; exact ⟨v, e, hv, he, hm, hd, hl, hs, ht, hk0, hk1, hk2, (rf_step hf 2 (by decide)), hp, sa, sb, sc, sd⟩
          rw [if_pos ww, if_pos (show C_sb_bits = C_sc_bits by rw [q4, p4, ww]), c1, bd_s]
          by_cases g1 : 0 ≤ a5.toInt ∧ a5.toInt ≤ n ∧ 0 ≤ a2.toInt ∧ a2.toInt + a5.toInt ≤ n
          rotate_left
          · rw [decide_eq_false g1, if_pos (show b2 false = 0 by decide), if_neg (show ¬ false = true by decide), show (-1000000001 : Int32) = -nI 1000000001 from rfl, cB, bd_s]
            refine ⟨_, _, rfl, rfl, rfl, ?_⟩; exact ⟨v, e, hv, he, hm, hd, hl, hs, ht, hk0, hk1, hk2, (rf_step hf 0 (by decide)), hp, sa, sb, sc, sd⟩
          rw [decide_eq_true g1, if_neg (show ¬ b2 true = 0 by decide), if_pos (show true = true from rfl), c2, bd_s]
          by_cases g2 : 0 ≤ a5.toInt ∧ a5.toInt ≤ n' ∧ 0 ≤ a4.toInt ∧ a4.toInt + a5.toInt ≤ n'
          rotate_left
          · rw [decide_eq_false g2, if_pos (show b2 false = 0 by decide), if_neg (show ¬ false = true by decide), show (-1000000001 : Int32) = -nI 1000000001 from rfl, cB, bd_s]
            refine ⟨_, _, rfl, rfl, rfl, ?_⟩; exact ⟨v, e, hv, he, hm, hd, hl, hs, ht, hk0, hk1, hk2, (rf_step hf 0 (by decide)), hp, sa, sb, sc, sd⟩
          rw [decide_eq_true g2, if_neg (show ¬ b2 true = 0 by decide), if_pos (show true = true from rfl)]
          obtain ⟨x, hx, rfl⟩ : ∃ x, x < 41 ∧ a2 = nI x := inr_t (by decide) (inr_iff.mpr (by omega))
          obtain ⟨y, hy, rfl⟩ : ∃ y, y < 41 ∧ a4 = nI y := inr_t (by decide) (inr_iff.mpr (by omega))
          obtain ⟨m, hmm, rfl⟩ : ∃ m, m < 41 ∧ a5 = nI m := inr_t (by decide) (inr_iff.mpr (by omega))
          have g1' := g1
          have g2' := g2
          rw [nI_toInt (by omega), nI_toInt (by omega)] at g1' g2'
          have hxm : x + m ≤ n := by omega
          have hym : y + m ≤ n' := by omega
          obtain ⟨r1, f1, f2⟩ := m_cp128 (Q := M_numbers) (s := 1) (x := x) (m := m) (by decide) (by omega) m N 0 M_moved (by omega) (by omega) (fun j hj => absurd hj (Nat.not_lt_zero _))
          obtain ⟨r2, f3, f4, f5⟩ := m_cp165 (M := r1) (t := 2) (y := y) (m := m) (by decide) (by omega) m N 0 M_numbers (by omega) (by omega)
          have tk := (show f_X5_takeRun C_sc_nums C_sc_len C_sb_nums C_sb_len (nI x) (nI y) (nI m) = some (va_cpy C_sb_nums C_sc_nums x y m) from by rw [p6, q6]; exact c_take q1 p1 hxm hym _ _)
          rw [tk, bd_s, f1, bd_s, f3, bd_s]
          refine ⟨_, _, rfl, rfl, rfl, ?_⟩
          have hNn : RS 2 (va_cpy C_sb_nums C_sc_nums x y m) C_sc_bits C_sc_len M_widths M_sizes r2 := ⟨_, n', p1, p2, p3, p4, p5, p6, p7, fun z hz => by
            by_cases qz : y ≤ z ∧ z < y + m
            · have a1 := f4 (z - y) (Nat.zero_le _) (by omega)
              have a2 := f2 (z - y) (by omega)
              have a3 := q8 (x + (z - y)) (by omega)
              rw [show 40 * 2 + y + (z - y) = 40 * 2 + z by omega] at a1
              rw [show 40 * 1 + x + (z - y) = 40 * 1 + (x + (z - y)) by omega] at a2
              rw [pk_cpy_in qz.1 qz.2, a1, a2, a3]
            · rw [pk_cpy_out (by omega), f5 _ (by omega)]; exact p8 z hz⟩
          exact ⟨v, e, hv, he, hm, hd, hl, hs, ht, hk0, hk1, hk2, hf, hp, (rs_oth sa rfl rfl (fun j hj => f5 _ (by omega))), (rs_oth sb rfl rfl (fun j hj => f5 _ (by omega))), hNn, (rs_oth sd rfl rfl (fun j hj => f5 _ (by omega)))⟩
      · have hS := sb
        have hT := sd
        obtain ⟨w, n, q1, q2, q3, q4, q5, q6, q7, q8⟩ := hS
        obtain ⟨w', n', p1, p2, p3, p4, p5, p6, p7, p8⟩ := hT
        skip
        have hw := rs_w q2
        have hw' := rs_w p2
        have cm : f_X5_isMissing C_sb_bits = some (b2 (decide (w = 0))) := by rw [q4]; exact c_miss w hw
        have cm' : f_X5_isMissing C_sd_bits = some (b2 (decide (w' = 0))) := by rw [p4]; exact c_miss w' hw'
        have c1 : f_X5_hasRun C_sb_len a2 a5 = some (b2 (decide (0 ≤ a5.toInt ∧ a5.toInt ≤ n ∧ 0 ≤ a2.toInt ∧ a2.toInt + a5.toInt ≤ n))) := by rw [q6]; exact c_hasRun q1 a2 a5
        have c2 := c_hasRun p1 a4 a5
        rw [← p6] at c2
        rw [m_cpy4 (w := w) hs4 ht4 q5 p5 q7 p7 hw hw' q1 p1, cp_bd, cm, bd_s]
        by_cases qw : w = 0
        · rw [if_pos qw, decide_eq_true qw, if_neg (show ¬ b2 true = 0 by decide), show (-1000000006 : Int32) = -nI 1000000006 from rfl, cM, bd_s]
          refine ⟨_, _, rfl, rfl, rfl, ?_⟩; exact ⟨v, e, hv, he, hm, hd, hl, hs, ht, hk0, hk1, hk2, (rf_step hf 5 (by decide)), hp, sa, sb, sc, sd⟩
        · rw [if_neg qw, decide_eq_false qw, if_pos (show b2 false = 0 by decide), cm', bd_s]
          by_cases pw : w' = 0
          · rw [if_pos pw, decide_eq_true pw, if_neg (show ¬ b2 true = 0 by decide), show (-1000000006 : Int32) = -nI 1000000006 from rfl, cM, bd_s]
            refine ⟨_, _, rfl, rfl, rfl, ?_⟩; exact ⟨v, e, hv, he, hm, hd, hl, hs, ht, hk0, hk1, hk2, (rf_step hf 5 (by decide)), hp, sa, sb, sc, sd⟩
          rw [if_neg pw, decide_eq_false pw, if_pos (show b2 false = 0 by decide), show f_X5_bits C_sb_bits = some C_sb_bits from rfl, bd_s, show f_X5_bits C_sd_bits = some C_sd_bits from rfl, bd_s]
          by_cases ww : w = w'
          rotate_left
          · rw [if_neg ww, if_neg (show ¬ C_sb_bits = C_sd_bits from fun z => by rw [q4, p4] at z; exact ww ((nI_eq hw hw').mp z)), show (-1000000003 : Int32) = -nI 1000000003 from rfl, cK, bd_s]
            refine ⟨_, _, rfl, rfl, rfl, ?_⟩; exact ⟨v, e, hv, he, hm, hd, hl, hs, ht, hk0, hk1, hk2, (rf_step hf 2 (by decide)), hp, sa, sb, sc, sd⟩
          rw [if_pos ww, if_pos (show C_sb_bits = C_sd_bits by rw [q4, p4, ww]), c1, bd_s]
          by_cases g1 : 0 ≤ a5.toInt ∧ a5.toInt ≤ n ∧ 0 ≤ a2.toInt ∧ a2.toInt + a5.toInt ≤ n
          rotate_left
          · rw [decide_eq_false g1, if_pos (show b2 false = 0 by decide), if_neg (show ¬ false = true by decide), show (-1000000001 : Int32) = -nI 1000000001 from rfl, cB, bd_s]
            refine ⟨_, _, rfl, rfl, rfl, ?_⟩; exact ⟨v, e, hv, he, hm, hd, hl, hs, ht, hk0, hk1, hk2, (rf_step hf 0 (by decide)), hp, sa, sb, sc, sd⟩
          rw [decide_eq_true g1, if_neg (show ¬ b2 true = 0 by decide), if_pos (show true = true from rfl), c2, bd_s]
          by_cases g2 : 0 ≤ a5.toInt ∧ a5.toInt ≤ n' ∧ 0 ≤ a4.toInt ∧ a4.toInt + a5.toInt ≤ n'
          rotate_left
          · rw [decide_eq_false g2, if_pos (show b2 false = 0 by decide), if_neg (show ¬ false = true by decide), show (-1000000001 : Int32) = -nI 1000000001 from rfl, cB, bd_s]
            refine ⟨_, _, rfl, rfl, rfl, ?_⟩; exact ⟨v, e, hv, he, hm, hd, hl, hs, ht, hk0, hk1, hk2, (rf_step hf 0 (by decide)), hp, sa, sb, sc, sd⟩
          rw [decide_eq_true g2, if_neg (show ¬ b2 true = 0 by decide), if_pos (show true = true from rfl)]
          obtain ⟨x, hx, rfl⟩ : ∃ x, x < 41 ∧ a2 = nI x := inr_t (by decide) (inr_iff.mpr (by omega))
          obtain ⟨y, hy, rfl⟩ : ∃ y, y < 41 ∧ a4 = nI y := inr_t (by decide) (inr_iff.mpr (by omega))
          obtain ⟨m, hmm, rfl⟩ : ∃ m, m < 41 ∧ a5 = nI m := inr_t (by decide) (inr_iff.mpr (by omega))
          have g1' := g1
          have g2' := g2
          rw [nI_toInt (by omega), nI_toInt (by omega)] at g1' g2'
          have hxm : x + m ≤ n := by omega
          have hym : y + m ≤ n' := by omega
          obtain ⟨r1, f1, f2⟩ := m_cp128 (Q := M_numbers) (s := 1) (x := x) (m := m) (by decide) (by omega) m N 0 M_moved (by omega) (by omega) (fun j hj => absurd hj (Nat.not_lt_zero _))
          obtain ⟨r2, f3, f4, f5⟩ := m_cp165 (M := r1) (t := 3) (y := y) (m := m) (by decide) (by omega) m N 0 M_numbers (by omega) (by omega)
          have tk := (show f_X5_takeRun C_sd_nums C_sd_len C_sb_nums C_sb_len (nI x) (nI y) (nI m) = some (va_cpy C_sb_nums C_sd_nums x y m) from by rw [p6, q6]; exact c_take q1 p1 hxm hym _ _)
          rw [tk, bd_s, f1, bd_s, f3, bd_s]
          refine ⟨_, _, rfl, rfl, rfl, ?_⟩
          have hNn : RS 3 (va_cpy C_sb_nums C_sd_nums x y m) C_sd_bits C_sd_len M_widths M_sizes r2 := ⟨_, n', p1, p2, p3, p4, p5, p6, p7, fun z hz => by
            by_cases qz : y ≤ z ∧ z < y + m
            · have a1 := f4 (z - y) (Nat.zero_le _) (by omega)
              have a2 := f2 (z - y) (by omega)
              have a3 := q8 (x + (z - y)) (by omega)
              rw [show 40 * 3 + y + (z - y) = 40 * 3 + z by omega] at a1
              rw [show 40 * 1 + x + (z - y) = 40 * 1 + (x + (z - y)) by omega] at a2
              rw [pk_cpy_in qz.1 qz.2, a1, a2, a3]
            · rw [pk_cpy_out (by omega), f5 _ (by omega)]; exact p8 z hz⟩
          exact ⟨v, e, hv, he, hm, hd, hl, hs, ht, hk0, hk1, hk2, hf, hp, (rs_oth sa rfl rfl (fun j hj => f5 _ (by omega))), (rs_oth sb rfl rfl (fun j hj => f5 _ (by omega))), (rs_oth sc rfl rfl (fun j hj => f5 _ (by omega))), hNn⟩
      · have hS := sc
        have hT := sa
        obtain ⟨w, n, q1, q2, q3, q4, q5, q6, q7, q8⟩ := hS
        obtain ⟨w', n', p1, p2, p3, p4, p5, p6, p7, p8⟩ := hT
        skip
        have hw := rs_w q2
        have hw' := rs_w p2
        have cm : f_X5_isMissing C_sc_bits = some (b2 (decide (w = 0))) := by rw [q4]; exact c_miss w hw
        have cm' : f_X5_isMissing C_sa_bits = some (b2 (decide (w' = 0))) := by rw [p4]; exact c_miss w' hw'
        have c1 : f_X5_hasRun C_sc_len a2 a5 = some (b2 (decide (0 ≤ a5.toInt ∧ a5.toInt ≤ n ∧ 0 ≤ a2.toInt ∧ a2.toInt + a5.toInt ≤ n))) := by rw [q6]; exact c_hasRun q1 a2 a5
        have c2 := c_hasRun p1 a4 a5
        rw [← p6] at c2
        rw [m_cpy4 (w := w) hs4 ht4 q5 p5 q7 p7 hw hw' q1 p1, cp_ca, cm, bd_s]
        by_cases qw : w = 0
        · rw [if_pos qw, decide_eq_true qw, if_neg (show ¬ b2 true = 0 by decide), show (-1000000006 : Int32) = -nI 1000000006 from rfl, cM, bd_s]
          refine ⟨_, _, rfl, rfl, rfl, ?_⟩; exact ⟨v, e, hv, he, hm, hd, hl, hs, ht, hk0, hk1, hk2, (rf_step hf 5 (by decide)), hp, sa, sb, sc, sd⟩
        · rw [if_neg qw, decide_eq_false qw, if_pos (show b2 false = 0 by decide), cm', bd_s]
          by_cases pw : w' = 0
          · rw [if_pos pw, decide_eq_true pw, if_neg (show ¬ b2 true = 0 by decide), show (-1000000006 : Int32) = -nI 1000000006 from rfl, cM, bd_s]
            refine ⟨_, _, rfl, rfl, rfl, ?_⟩; exact ⟨v, e, hv, he, hm, hd, hl, hs, ht, hk0, hk1, hk2, (rf_step hf 5 (by decide)), hp, sa, sb, sc, sd⟩
          rw [if_neg pw, decide_eq_false pw, if_pos (show b2 false = 0 by decide), show f_X5_bits C_sc_bits = some C_sc_bits from rfl, bd_s, show f_X5_bits C_sa_bits = some C_sa_bits from rfl, bd_s]
          by_cases ww : w = w'
          rotate_left
          · rw [if_neg ww, if_neg (show ¬ C_sc_bits = C_sa_bits from fun z => by rw [q4, p4] at z; exact ww ((nI_eq hw hw').mp z)), show (-1000000003 : Int32) = -nI 1000000003 from rfl, cK, bd_s]
            refine ⟨_, _, rfl, rfl, rfl, ?_⟩; exact ⟨v, e, hv, he, hm, hd, hl, hs, ht, hk0, hk1, hk2, (rf_step hf 2 (by decide)), hp, sa, sb, sc, sd⟩
          rw [if_pos ww, if_pos (show C_sc_bits = C_sa_bits by rw [q4, p4, ww]), c1, bd_s]
          by_cases g1 : 0 ≤ a5.toInt ∧ a5.toInt ≤ n ∧ 0 ≤ a2.toInt ∧ a2.toInt + a5.toInt ≤ n
          rotate_left
          · rw [decide_eq_false g1, if_pos (show b2 false = 0 by decide), if_neg (show ¬ false = true by decide), show (-1000000001 : Int32) = -nI 1000000001 from rfl, cB, bd_s]
            refine ⟨_, _, rfl, rfl, rfl, ?_⟩; exact ⟨v, e, hv, he, hm, hd, hl, hs, ht, hk0, hk1, hk2, (rf_step hf 0 (by decide)), hp, sa, sb, sc, sd⟩
          rw [decide_eq_true g1, if_neg (show ¬ b2 true = 0 by decide), if_pos (show true = true from rfl), c2, bd_s]
          by_cases g2 : 0 ≤ a5.toInt ∧ a5.toInt ≤ n' ∧ 0 ≤ a4.toInt ∧ a4.toInt + a5.toInt ≤ n'
          rotate_left
          · rw [decide_eq_false g2, if_pos (show b2 false = 0 by decide), if_neg (show ¬ false = true by decide), show (-1000000001 : Int32) = -nI 1000000001 from rfl, cB, bd_s]
            refine ⟨_, _, rfl, rfl, rfl, ?_⟩; exact ⟨v, e, hv, he, hm, hd, hl, hs, ht, hk0, hk1, hk2, (rf_step hf 0 (by decide)), hp, sa, sb, sc, sd⟩
          rw [decide_eq_true g2, if_neg (show ¬ b2 true = 0 by decide), if_pos (show true = true from rfl)]
          obtain ⟨x, hx, rfl⟩ : ∃ x, x < 41 ∧ a2 = nI x := inr_t (by decide) (inr_iff.mpr (by omega))
          obtain ⟨y, hy, rfl⟩ : ∃ y, y < 41 ∧ a4 = nI y := inr_t (by decide) (inr_iff.mpr (by omega))
          obtain ⟨m, hmm, rfl⟩ : ∃ m, m < 41 ∧ a5 = nI m := inr_t (by decide) (inr_iff.mpr (by omega))
          have g1' := g1
          have g2' := g2
          rw [nI_toInt (by omega), nI_toInt (by omega)] at g1' g2'
          have hxm : x + m ≤ n := by omega
          have hym : y + m ≤ n' := by omega
          obtain ⟨r1, f1, f2⟩ := m_cp128 (Q := M_numbers) (s := 2) (x := x) (m := m) (by decide) (by omega) m N 0 M_moved (by omega) (by omega) (fun j hj => absurd hj (Nat.not_lt_zero _))
          obtain ⟨r2, f3, f4, f5⟩ := m_cp165 (M := r1) (t := 0) (y := y) (m := m) (by decide) (by omega) m N 0 M_numbers (by omega) (by omega)
          have tk := (show f_X5_takeRun C_sa_nums C_sa_len C_sc_nums C_sc_len (nI x) (nI y) (nI m) = some (va_cpy C_sc_nums C_sa_nums x y m) from by rw [p6, q6]; exact c_take q1 p1 hxm hym _ _)
          rw [tk, bd_s, f1, bd_s, f3, bd_s]
          refine ⟨_, _, rfl, rfl, rfl, ?_⟩
          have hNn : RS 0 (va_cpy C_sc_nums C_sa_nums x y m) C_sa_bits C_sa_len M_widths M_sizes r2 := ⟨_, n', p1, p2, p3, p4, p5, p6, p7, fun z hz => by
            by_cases qz : y ≤ z ∧ z < y + m
            · have a1 := f4 (z - y) (Nat.zero_le _) (by omega)
              have a2 := f2 (z - y) (by omega)
              have a3 := q8 (x + (z - y)) (by omega)
              rw [show 40 * 0 + y + (z - y) = 40 * 0 + z by omega] at a1
              rw [show 40 * 2 + x + (z - y) = 40 * 2 + (x + (z - y)) by omega] at a2
              rw [pk_cpy_in qz.1 qz.2, a1, a2, a3]
            · rw [pk_cpy_out (by omega), f5 _ (by omega)]; exact p8 z hz⟩
          exact ⟨v, e, hv, he, hm, hd, hl, hs, ht, hk0, hk1, hk2, hf, hp, hNn, (rs_oth sb rfl rfl (fun j hj => f5 _ (by omega))), (rs_oth sc rfl rfl (fun j hj => f5 _ (by omega))), (rs_oth sd rfl rfl (fun j hj => f5 _ (by omega)))⟩
      · have hS := sc
        have hT := sb
        obtain ⟨w, n, q1, q2, q3, q4, q5, q6, q7, q8⟩ := hS
        obtain ⟨w', n', p1, p2, p3, p4, p5, p6, p7, p8⟩ := hT
        skip
        have hw := rs_w q2
        have hw' := rs_w p2
        have cm : f_X5_isMissing C_sc_bits = some (b2 (decide (w = 0))) := by rw [q4]; exact c_miss w hw
        have cm' : f_X5_isMissing C_sb_bits = some (b2 (decide (w' = 0))) := by rw [p4]; exact c_miss w' hw'
        have c1 : f_X5_hasRun C_sc_len a2 a5 = some (b2 (decide (0 ≤ a5.toInt ∧ a5.toInt ≤ n ∧ 0 ≤ a2.toInt ∧ a2.toInt + a5.toInt ≤ n))) := by rw [q6]; exact c_hasRun q1 a2 a5
        have c2 := c_hasRun p1 a4 a5
        rw [← p6] at c2
        rw [m_cpy4 (w := w) hs4 ht4 q5 p5 q7 p7 hw hw' q1 p1, cp_cb, cm, bd_s]
        by_cases qw : w = 0
        · rw [if_pos qw, decide_eq_true qw, if_neg (show ¬ b2 true = 0 by decide), show (-1000000006 : Int32) = -nI 1000000006 from rfl, cM, bd_s]
          refine ⟨_, _, rfl, rfl, rfl, ?_⟩; exact ⟨v, e, hv, he, hm, hd, hl, hs, ht, hk0, hk1, hk2, (rf_step hf 5 (by decide)), hp, sa, sb, sc, sd⟩
        · rw [if_neg qw, decide_eq_false qw, if_pos (show b2 false = 0 by decide), cm', bd_s]
          by_cases pw : w' = 0
          · rw [if_pos pw, decide_eq_true pw, if_neg (show ¬ b2 true = 0 by decide), show (-1000000006 : Int32) = -nI 1000000006 from rfl, cM, bd_s]
            refine ⟨_, _, rfl, rfl, rfl, ?_⟩; exact ⟨v, e, hv, he, hm, hd, hl, hs, ht, hk0, hk1, hk2, (rf_step hf 5 (by decide)), hp, sa, sb, sc, sd⟩
          rw [if_neg pw, decide_eq_false pw, if_pos (show b2 false = 0 by decide), show f_X5_bits C_sc_bits = some C_sc_bits from rfl, bd_s, show f_X5_bits C_sb_bits = some C_sb_bits from rfl, bd_s]
          by_cases ww : w = w'
          rotate_left
          · rw [if_neg ww, if_neg (show ¬ C_sc_bits = C_sb_bits from fun z => by rw [q4, p4] at z; exact ww ((nI_eq hw hw').mp z)), show (-1000000003 : Int32) = -nI 1000000003 from rfl, cK, bd_s]
            refine ⟨_, _, rfl, rfl, rfl, ?_⟩; exact ⟨v, e, hv, he, hm, hd, hl, hs, ht, hk0, hk1, hk2, (rf_step hf 2 (by decide)), hp, sa, sb, sc, sd⟩
          rw [if_pos ww, if_pos (show C_sc_bits = C_sb_bits by rw [q4, p4, ww]), c1, bd_s]
          by_cases g1 : 0 ≤ a5.toInt ∧ a5.toInt ≤ n ∧ 0 ≤ a2.toInt ∧ a2.toInt + a5.toInt ≤ n
          rotate_left
          · rw [decide_eq_false g1, if_pos (show b2 false = 0 by decide), if_neg (show ¬ false = true by decide), show (-1000000001 : Int32) = -nI 1000000001 from rfl, cB, bd_s]
            refine ⟨_, _, rfl, rfl, rfl, ?_⟩; exact ⟨v, e, hv, he, hm, hd, hl, hs, ht, hk0, hk1, hk2, (rf_step hf 0 (by decide)), hp, sa, sb, sc, sd⟩
          rw [decide_eq_true g1, if_neg (show ¬ b2 true = 0 by decide), if_pos (show true = true from rfl), c2, bd_s]
          by_cases g2 : 0 ≤ a5.toInt ∧ a5.toInt ≤ n' ∧ 0 ≤ a4.toInt ∧ a4.toInt + a5.toInt ≤ n'
          rotate_left
          · rw [decide_eq_false g2, if_pos (show b2 false = 0 by decide), if_neg (show ¬ false = true by decide), show (-1000000001 : Int32) = -nI 1000000001 from rfl, cB, bd_s]
            refine ⟨_, _, rfl, rfl, rfl, ?_⟩; exact ⟨v, e, hv, he, hm, hd, hl, hs, ht, hk0, hk1, hk2, (rf_step hf 0 (by decide)), hp, sa, sb, sc, sd⟩
          rw [decide_eq_true g2, if_neg (show ¬ b2 true = 0 by decide), if_pos (show true = true from rfl)]
          obtain ⟨x, hx, rfl⟩ : ∃ x, x < 41 ∧ a2 = nI x := inr_t (by decide) (inr_iff.mpr (by omega))
          obtain ⟨y, hy, rfl⟩ : ∃ y, y < 41 ∧ a4 = nI y := inr_t (by decide) (inr_iff.mpr (by omega))
          obtain ⟨m, hmm, rfl⟩ : ∃ m, m < 41 ∧ a5 = nI m := inr_t (by decide) (inr_iff.mpr (by omega))
          have g1' := g1
          have g2' := g2
          rw [nI_toInt (by omega), nI_toInt (by omega)] at g1' g2'
          have hxm : x + m ≤ n := by omega
          have hym : y + m ≤ n' := by omega
          obtain ⟨r1, f1, f2⟩ := m_cp128 (Q := M_numbers) (s := 2) (x := x) (m := m) (by decide) (by omega) m N 0 M_moved (by omega) (by omega) (fun j hj => absurd hj (Nat.not_lt_zero _))
          obtain ⟨r2, f3, f4, f5⟩ := m_cp165 (M := r1) (t := 1) (y := y) (m := m) (by decide) (by omega) m N 0 M_numbers (by omega) (by omega)
          have tk := (show f_X5_takeRun C_sb_nums C_sb_len C_sc_nums C_sc_len (nI x) (nI y) (nI m) = some (va_cpy C_sc_nums C_sb_nums x y m) from by rw [p6, q6]; exact c_take q1 p1 hxm hym _ _)
          rw [tk, bd_s, f1, bd_s, f3, bd_s]
          refine ⟨_, _, rfl, rfl, rfl, ?_⟩
          have hNn : RS 1 (va_cpy C_sc_nums C_sb_nums x y m) C_sb_bits C_sb_len M_widths M_sizes r2 := ⟨_, n', p1, p2, p3, p4, p5, p6, p7, fun z hz => by
            by_cases qz : y ≤ z ∧ z < y + m
            · have a1 := f4 (z - y) (Nat.zero_le _) (by omega)
              have a2 := f2 (z - y) (by omega)
              have a3 := q8 (x + (z - y)) (by omega)
              rw [show 40 * 1 + y + (z - y) = 40 * 1 + z by omega] at a1
              rw [show 40 * 2 + x + (z - y) = 40 * 2 + (x + (z - y)) by omega] at a2
              rw [pk_cpy_in qz.1 qz.2, a1, a2, a3]
            · rw [pk_cpy_out (by omega), f5 _ (by omega)]; exact p8 z hz⟩
          exact ⟨v, e, hv, he, hm, hd, hl, hs, ht, hk0, hk1, hk2, hf, hp, (rs_oth sa rfl rfl (fun j hj => f5 _ (by omega))), hNn, (rs_oth sc rfl rfl (fun j hj => f5 _ (by omega))), (rs_oth sd rfl rfl (fun j hj => f5 _ (by omega)))⟩
      · have hS := sc
        have hT := sc
        obtain ⟨w, n, q1, q2, q3, q4, q5, q6, q7, q8⟩ := hS
        obtain ⟨w', n', p1, p2, p3, p4, p5, p6, p7, p8⟩ := hT
        obtain rfl : n = n' := (nI_eq (by omega) (by omega)).mp (q6.symm.trans p6)
        obtain rfl : w = w' := (nI_eq (rs_w q2) (rs_w p2)).mp (q4.symm.trans p4)
        have hw := rs_w q2
        have hw' := rs_w p2
        have cm : f_X5_isMissing C_sc_bits = some (b2 (decide (w = 0))) := by rw [q4]; exact c_miss w hw
        have c1 : f_X5_hasRun C_sc_len a2 a5 = some (b2 (decide (0 ≤ a5.toInt ∧ a5.toInt ≤ n ∧ 0 ≤ a2.toInt ∧ a2.toInt + a5.toInt ≤ n))) := by rw [q6]; exact c_hasRun q1 a2 a5
        have c2 := c_hasRun p1 a4 a5
        rw [← p6] at c2
        rw [m_cpy4 (w := w) hs4 ht4 q5 p5 q7 p7 hw hw' q1 p1, cp_cc, cm, bd_s]
        by_cases qw : w = 0
        · rw [if_pos qw, decide_eq_true qw, if_neg (show ¬ b2 true = 0 by decide), show (-1000000006 : Int32) = -nI 1000000006 from rfl, cM, bd_s]
          refine ⟨_, _, rfl, rfl, rfl, ?_⟩; exact ⟨v, e, hv, he, hm, hd, hl, hs, ht, hk0, hk1, hk2, (rf_step hf 5 (by decide)), hp, sa, sb, sc, sd⟩
        · rw [if_neg qw, decide_eq_false qw, if_pos (show b2 false = 0 by decide), bd_s]
          rw [if_neg qw, if_pos (show b2 false = 0 by decide), show f_X5_bits C_sc_bits = some C_sc_bits from rfl, bd_s, bd_s, if_pos rfl, if_pos rfl, c1, bd_s]
          by_cases g1 : 0 ≤ a5.toInt ∧ a5.toInt ≤ n ∧ 0 ≤ a2.toInt ∧ a2.toInt + a5.toInt ≤ n
          rotate_left
          · rw [decide_eq_false g1, if_pos (show b2 false = 0 by decide), if_neg (show ¬ false = true by decide), show (-1000000001 : Int32) = -nI 1000000001 from rfl, cB, bd_s]
            refine ⟨_, _, rfl, rfl, rfl, ?_⟩; exact ⟨v, e, hv, he, hm, hd, hl, hs, ht, hk0, hk1, hk2, (rf_step hf 0 (by decide)), hp, sa, sb, sc, sd⟩
          rw [decide_eq_true g1, if_neg (show ¬ b2 true = 0 by decide), if_pos (show true = true from rfl), c2, bd_s]
          by_cases g2 : 0 ≤ a5.toInt ∧ a5.toInt ≤ n ∧ 0 ≤ a4.toInt ∧ a4.toInt + a5.toInt ≤ n
          rotate_left
          · rw [decide_eq_false g2, if_pos (show b2 false = 0 by decide), if_neg (show ¬ false = true by decide), show (-1000000001 : Int32) = -nI 1000000001 from rfl, cB, bd_s]
            refine ⟨_, _, rfl, rfl, rfl, ?_⟩; exact ⟨v, e, hv, he, hm, hd, hl, hs, ht, hk0, hk1, hk2, (rf_step hf 0 (by decide)), hp, sa, sb, sc, sd⟩
          rw [decide_eq_true g2, if_neg (show ¬ b2 true = 0 by decide), if_pos (show true = true from rfl)]
          obtain ⟨x, hx, rfl⟩ : ∃ x, x < 41 ∧ a2 = nI x := inr_t (by decide) (inr_iff.mpr (by omega))
          obtain ⟨y, hy, rfl⟩ : ∃ y, y < 41 ∧ a4 = nI y := inr_t (by decide) (inr_iff.mpr (by omega))
          obtain ⟨m, hmm, rfl⟩ : ∃ m, m < 41 ∧ a5 = nI m := inr_t (by decide) (inr_iff.mpr (by omega))
          have g1' := g1
          have g2' := g2
          rw [nI_toInt (by omega), nI_toInt (by omega)] at g1' g2'
          have hxm : x + m ≤ n := by omega
          have hym : y + m ≤ n := by omega
          obtain ⟨r1, f1, f2⟩ := m_cp128 (Q := M_numbers) (s := 2) (x := x) (m := m) (by decide) (by omega) m N 0 M_moved (by omega) (by omega) (fun j hj => absurd hj (Nat.not_lt_zero _))
          obtain ⟨r2, f3, f4, f5⟩ := m_cp165 (M := r1) (t := 2) (y := y) (m := m) (by decide) (by omega) m N 0 M_numbers (by omega) (by omega)
          have tk := (show f_X5_takeRunSelf C_sc_nums C_sc_len (nI x) (nI y) (nI m) = some (va_cpy C_sc_nums C_sc_nums x y m) from by rw [q6]; exact c_takeSelf q1 hxm (by omega) _)
          rw [tk, bd_s, f1, bd_s, f3, bd_s]
          refine ⟨_, _, rfl, rfl, rfl, ?_⟩
          have hNn : RS 2 (va_cpy C_sc_nums C_sc_nums x y m) C_sc_bits C_sc_len M_widths M_sizes r2 := ⟨_, n, p1, p2, p3, p4, p5, p6, p7, fun z hz => by
            by_cases qz : y ≤ z ∧ z < y + m
            · have a1 := f4 (z - y) (Nat.zero_le _) (by omega)
              have a2 := f2 (z - y) (by omega)
              have a3 := q8 (x + (z - y)) (by omega)
              rw [show 40 * 2 + y + (z - y) = 40 * 2 + z by omega] at a1
              rw [show 40 * 2 + x + (z - y) = 40 * 2 + (x + (z - y)) by omega] at a2
              rw [pk_cpy_in qz.1 qz.2, a1, a2, a3]
            · rw [pk_cpy_out (by omega), f5 _ (by omega)]; exact p8 z hz⟩
          exact ⟨v, e, hv, he, hm, hd, hl, hs, ht, hk0, hk1, hk2, hf, hp, (rs_oth sa rfl rfl (fun j hj => f5 _ (by omega))), (rs_oth sb rfl rfl (fun j hj => f5 _ (by omega))), hNn, (rs_oth sd rfl rfl (fun j hj => f5 _ (by omega)))⟩
      · have hS := sc
        have hT := sd
        obtain ⟨w, n, q1, q2, q3, q4, q5, q6, q7, q8⟩ := hS
        obtain ⟨w', n', p1, p2, p3, p4, p5, p6, p7, p8⟩ := hT
        skip
        have hw := rs_w q2
        have hw' := rs_w p2
        have cm : f_X5_isMissing C_sc_bits = some (b2 (decide (w = 0))) := by rw [q4]; exact c_miss w hw
        have cm' : f_X5_isMissing C_sd_bits = some (b2 (decide (w' = 0))) := by rw [p4]; exact c_miss w' hw'
        have c1 : f_X5_hasRun C_sc_len a2 a5 = some (b2 (decide (0 ≤ a5.toInt ∧ a5.toInt ≤ n ∧ 0 ≤ a2.toInt ∧ a2.toInt + a5.toInt ≤ n))) := by rw [q6]; exact c_hasRun q1 a2 a5
        have c2 := c_hasRun p1 a4 a5
        rw [← p6] at c2
        rw [m_cpy4 (w := w) hs4 ht4 q5 p5 q7 p7 hw hw' q1 p1, cp_cd, cm, bd_s]
        by_cases qw : w = 0
        · rw [if_pos qw, decide_eq_true qw, if_neg (show ¬ b2 true = 0 by decide), show (-1000000006 : Int32) = -nI 1000000006 from rfl, cM, bd_s]
          refine ⟨_, _, rfl, rfl, rfl, ?_⟩; exact ⟨v, e, hv, he, hm, hd, hl, hs, ht, hk0, hk1, hk2, (rf_step hf 5 (by decide)), hp, sa, sb, sc, sd⟩
        · rw [if_neg qw, decide_eq_false qw, if_pos (show b2 false = 0 by decide), cm', bd_s]
          by_cases pw : w' = 0
          · rw [if_pos pw, decide_eq_true pw, if_neg (show ¬ b2 true = 0 by decide), show (-1000000006 : Int32) = -nI 1000000006 from rfl, cM, bd_s]
            refine ⟨_, _, rfl, rfl, rfl, ?_⟩; exact ⟨v, e, hv, he, hm, hd, hl, hs, ht, hk0, hk1, hk2, (rf_step hf 5 (by decide)), hp, sa, sb, sc, sd⟩
          rw [if_neg pw, decide_eq_false pw, if_pos (show b2 false = 0 by decide), show f_X5_bits C_sc_bits = some C_sc_bits from rfl, bd_s, show f_X5_bits C_sd_bits = some C_sd_bits from rfl, bd_s]
          by_cases ww : w = w'
          rotate_left
          · rw [if_neg ww, if_neg (show ¬ C_sc_bits = C_sd_bits from fun z => by rw [q4, p4] at z; exact ww ((nI_eq hw hw').mp z)), show (-1000000003 : Int32) = -nI 1000000003 from rfl, cK, bd_s]
            refine ⟨_, _, rfl, rfl, rfl, ?_⟩; exact ⟨v, e, hv, he, hm, hd, hl, hs, ht, hk0, hk1, hk2, (rf_step hf 2 (by decide)), hp, sa, sb, sc, sd⟩
          rw [if_pos ww, if_pos (show C_sc_bits = C_sd_bits by rw [q4, p4, ww]), c1, bd_s]
          by_cases g1 : 0 ≤ a5.toInt ∧ a5.toInt ≤ n ∧ 0 ≤ a2.toInt ∧ a2.toInt + a5.toInt ≤ n
          rotate_left
          · rw [decide_eq_false g1, if_pos (show b2 false = 0 by decide), if_neg (show ¬ false = true by decide), show (-1000000001 : Int32) = -nI 1000000001 from rfl, cB, bd_s]
            refine ⟨_, _, rfl, rfl, rfl, ?_⟩; exact ⟨v, e, hv, he, hm, hd, hl, hs, ht, hk0, hk1, hk2, (rf_step hf 0 (by decide)), hp, sa, sb, sc, sd⟩
          rw [decide_eq_true g1, if_neg (show ¬ b2 true = 0 by decide), if_pos (show true = true from rfl), c2, bd_s]
          by_cases g2 : 0 ≤ a5.toInt ∧ a5.toInt ≤ n' ∧ 0 ≤ a4.toInt ∧ a4.toInt + a5.toInt ≤ n'
          rotate_left
          · rw [decide_eq_false g2, if_pos (show b2 false = 0 by decide), if_neg (show ¬ false = true by decide), show (-1000000001 : Int32) = -nI 1000000001 from rfl, cB, bd_s]
            refine ⟨_, _, rfl, rfl, rfl, ?_⟩; exact ⟨v, e, hv, he, hm, hd, hl, hs, ht, hk0, hk1, hk2, (rf_step hf 0 (by decide)), hp, sa, sb, sc, sd⟩
          rw [decide_eq_true g2, if_neg (show ¬ b2 true = 0 by decide), if_pos (show true = true from rfl)]
          obtain ⟨x, hx, rfl⟩ : ∃ x, x < 41 ∧ a2 = nI x := inr_t (by decide) (inr_iff.mpr (by omega))
          obtain ⟨y, hy, rfl⟩ : ∃ y, y < 41 ∧ a4 = nI y := inr_t (by decide) (inr_iff.mpr (by omega))
          obtain ⟨m, hmm, rfl⟩ : ∃ m, m < 41 ∧ a5 = nI m := inr_t (by decide) (inr_iff.mpr (by omega))
          have g1' := g1
          have g2' := g2
          rw [nI_toInt (by omega), nI_toInt (by omega)] at g1' g2'
          have hxm : x + m ≤ n := by omega
          have hym : y + m ≤ n' := by omega
          obtain ⟨r1, f1, f2⟩ := m_cp128 (Q := M_numbers) (s := 2) (x := x) (m := m) (by decide) (by omega) m N 0 M_moved (by omega) (by omega) (fun j hj => absurd hj (Nat.not_lt_zero _))
          obtain ⟨r2, f3, f4, f5⟩ := m_cp165 (M := r1) (t := 3) (y := y) (m := m) (by decide) (by omega) m N 0 M_numbers (by omega) (by omega)
          have tk := (show f_X5_takeRun C_sd_nums C_sd_len C_sc_nums C_sc_len (nI x) (nI y) (nI m) = some (va_cpy C_sc_nums C_sd_nums x y m) from by rw [p6, q6]; exact c_take q1 p1 hxm hym _ _)
          rw [tk, bd_s, f1, bd_s, f3, bd_s]
          refine ⟨_, _, rfl, rfl, rfl, ?_⟩
          have hNn : RS 3 (va_cpy C_sc_nums C_sd_nums x y m) C_sd_bits C_sd_len M_widths M_sizes r2 := ⟨_, n', p1, p2, p3, p4, p5, p6, p7, fun z hz => by
            by_cases qz : y ≤ z ∧ z < y + m
            · have a1 := f4 (z - y) (Nat.zero_le _) (by omega)
              have a2 := f2 (z - y) (by omega)
              have a3 := q8 (x + (z - y)) (by omega)
              rw [show 40 * 3 + y + (z - y) = 40 * 3 + z by omega] at a1
              rw [show 40 * 2 + x + (z - y) = 40 * 2 + (x + (z - y)) by omega] at a2
              rw [pk_cpy_in qz.1 qz.2, a1, a2, a3]
            · rw [pk_cpy_out (by omega), f5 _ (by omega)]; exact p8 z hz⟩
          exact ⟨v, e, hv, he, hm, hd, hl, hs, ht, hk0, hk1, hk2, hf, hp, (rs_oth sa rfl rfl (fun j hj => f5 _ (by omega))), (rs_oth sb rfl rfl (fun j hj => f5 _ (by omega))), (rs_oth sc rfl rfl (fun j hj => f5 _ (by omega))), hNn⟩
      · have hS := sd
        have hT := sa
        obtain ⟨w, n, q1, q2, q3, q4, q5, q6, q7, q8⟩ := hS
        obtain ⟨w', n', p1, p2, p3, p4, p5, p6, p7, p8⟩ := hT
        skip
        have hw := rs_w q2
        have hw' := rs_w p2
        have cm : f_X5_isMissing C_sd_bits = some (b2 (decide (w = 0))) := by rw [q4]; exact c_miss w hw
        have cm' : f_X5_isMissing C_sa_bits = some (b2 (decide (w' = 0))) := by rw [p4]; exact c_miss w' hw'
        have c1 : f_X5_hasRun C_sd_len a2 a5 = some (b2 (decide (0 ≤ a5.toInt ∧ a5.toInt ≤ n ∧ 0 ≤ a2.toInt ∧ a2.toInt + a5.toInt ≤ n))) := by rw [q6]; exact c_hasRun q1 a2 a5
        have c2 := c_hasRun p1 a4 a5
        rw [← p6] at c2
        rw [m_cpy4 (w := w) hs4 ht4 q5 p5 q7 p7 hw hw' q1 p1, cp_da, cm, bd_s]
        by_cases qw : w = 0
        · rw [if_pos qw, decide_eq_true qw, if_neg (show ¬ b2 true = 0 by decide), show (-1000000006 : Int32) = -nI 1000000006 from rfl, cM, bd_s]
          refine ⟨_, _, rfl, rfl, rfl, ?_⟩; exact ⟨v, e, hv, he, hm, hd, hl, hs, ht, hk0, hk1, hk2, (rf_step hf 5 (by decide)), hp, sa, sb, sc, sd⟩
        · rw [if_neg qw, decide_eq_false qw, if_pos (show b2 false = 0 by decide), cm', bd_s]
          by_cases pw : w' = 0
          · rw [if_pos pw, decide_eq_true pw, if_neg (show ¬ b2 true = 0 by decide), show (-1000000006 : Int32) = -nI 1000000006 from rfl, cM, bd_s]
            refine ⟨_, _, rfl, rfl, rfl, ?_⟩; exact ⟨v, e, hv, he, hm, hd, hl, hs, ht, hk0, hk1, hk2, (rf_step hf 5 (by decide)), hp, sa, sb, sc, sd⟩
          rw [if_neg pw, decide_eq_false pw, if_pos (show b2 false = 0 by decide), show f_X5_bits C_sd_bits = some C_sd_bits from rfl, bd_s, show f_X5_bits C_sa_bits = some C_sa_bits from rfl, bd_s]
          by_cases ww : w = w'
          rotate_left
          · rw [if_neg ww, if_neg (show ¬ C_sd_bits = C_sa_bits from fun z => by rw [q4, p4] at z; exact ww ((nI_eq hw hw').mp z)), show (-1000000003 : Int32) = -nI 1000000003 from rfl, cK, bd_s]
            refine ⟨_, _, rfl, rfl, rfl, ?_⟩; exact ⟨v, e, hv, he, hm, hd, hl, hs, ht, hk0, hk1, hk2, (rf_step hf 2 (by decide)), hp, sa, sb, sc, sd⟩
          rw [if_pos ww, if_pos (show C_sd_bits = C_sa_bits by rw [q4, p4, ww]), c1, bd_s]
          by_cases g1 : 0 ≤ a5.toInt ∧ a5.toInt ≤ n ∧ 0 ≤ a2.toInt ∧ a2.toInt + a5.toInt ≤ n
          rotate_left
          · rw [decide_eq_false g1, if_pos (show b2 false = 0 by decide), if_neg (show ¬ false = true by decide), show (-1000000001 : Int32) = -nI 1000000001 from rfl, cB, bd_s]
            refine ⟨_, _, rfl, rfl, rfl, ?_⟩; exact ⟨v, e, hv, he, hm, hd, hl, hs, ht, hk0, hk1, hk2, (rf_step hf 0 (by decide)), hp, sa, sb, sc, sd⟩
          rw [decide_eq_true g1, if_neg (show ¬ b2 true = 0 by decide), if_pos (show true = true from rfl), c2, bd_s]
          by_cases g2 : 0 ≤ a5.toInt ∧ a5.toInt ≤ n' ∧ 0 ≤ a4.toInt ∧ a4.toInt + a5.toInt ≤ n'
          rotate_left
          · rw [decide_eq_false g2, if_pos (show b2 false = 0 by decide), if_neg (show ¬ false = true by decide), show (-1000000001 : Int32) = -nI 1000000001 from rfl, cB, bd_s]
            refine ⟨_, _, rfl, rfl, rfl, ?_⟩; exact ⟨v, e, hv, he, hm, hd, hl, hs, ht, hk0, hk1, hk2, (rf_step hf 0 (by decide)), hp, sa, sb, sc, sd⟩
          rw [decide_eq_true g2, if_neg (show ¬ b2 true = 0 by decide), if_pos (show true = true from rfl)]
          obtain ⟨x, hx, rfl⟩ : ∃ x, x < 41 ∧ a2 = nI x := inr_t (by decide) (inr_iff.mpr (by omega))
          obtain ⟨y, hy, rfl⟩ : ∃ y, y < 41 ∧ a4 = nI y := inr_t (by decide) (inr_iff.mpr (by omega))
          obtain ⟨m, hmm, rfl⟩ : ∃ m, m < 41 ∧ a5 = nI m := inr_t (by decide) (inr_iff.mpr (by omega))
          have g1' := g1
          have g2' := g2
          rw [nI_toInt (by omega), nI_toInt (by omega)] at g1' g2'
          have hxm : x + m ≤ n := by omega
          have hym : y + m ≤ n' := by omega
          obtain ⟨r1, f1, f2⟩ := m_cp128 (Q := M_numbers) (s := 3) (x := x) (m := m) (by decide) (by omega) m N 0 M_moved (by omega) (by omega) (fun j hj => absurd hj (Nat.not_lt_zero _))
          obtain ⟨r2, f3, f4, f5⟩ := m_cp165 (M := r1) (t := 0) (y := y) (m := m) (by decide) (by omega) m N 0 M_numbers (by omega) (by omega)
          have tk := (show f_X5_takeRun C_sa_nums C_sa_len C_sd_nums C_sd_len (nI x) (nI y) (nI m) = some (va_cpy C_sd_nums C_sa_nums x y m) from by rw [p6, q6]; exact c_take q1 p1 hxm hym _ _)
          rw [tk, bd_s, f1, bd_s, f3, bd_s]
          refine ⟨_, _, rfl, rfl, rfl, ?_⟩
          have hNn : RS 0 (va_cpy C_sd_nums C_sa_nums x y m) C_sa_bits C_sa_len M_widths M_sizes r2 := ⟨_, n', p1, p2, p3, p4, p5, p6, p7, fun z hz => by
            by_cases qz : y ≤ z ∧ z < y + m
            · have a1 := f4 (z - y) (Nat.zero_le _) (by omega)
              have a2 := f2 (z - y) (by omega)
              have a3 := q8 (x + (z - y)) (by omega)
              rw [show 40 * 0 + y + (z - y) = 40 * 0 + z by omega] at a1
              rw [show 40 * 3 + x + (z - y) = 40 * 3 + (x + (z - y)) by omega] at a2
              rw [pk_cpy_in qz.1 qz.2, a1, a2, a3]
            · rw [pk_cpy_out (by omega), f5 _ (by omega)]; exact p8 z hz⟩
          exact ⟨v, e, hv, he, hm, hd, hl, hs, ht, hk0, hk1, hk2, hf, hp, hNn, (rs_oth sb rfl rfl (fun j hj => f5 _ (by omega))), (rs_oth sc rfl rfl (fun j hj => f5 _ (by omega))), (rs_oth sd rfl rfl (fun j hj => f5 _ (by omega)))⟩
      · have hS := sd
        have hT := sb
        obtain ⟨w, n, q1, q2, q3, q4, q5, q6, q7, q8⟩ := hS
        obtain ⟨w', n', p1, p2, p3, p4, p5, p6, p7, p8⟩ := hT
        skip
        have hw := rs_w q2
        have hw' := rs_w p2
        have cm : f_X5_isMissing C_sd_bits = some (b2 (decide (w = 0))) := by rw [q4]; exact c_miss w hw
        have cm' : f_X5_isMissing C_sb_bits = some (b2 (decide (w' = 0))) := by rw [p4]; exact c_miss w' hw'
        have c1 : f_X5_hasRun C_sd_len a2 a5 = some (b2 (decide (0 ≤ a5.toInt ∧ a5.toInt ≤ n ∧ 0 ≤ a2.toInt ∧ a2.toInt + a5.toInt ≤ n))) := by rw [q6]; exact c_hasRun q1 a2 a5
        have c2 := c_hasRun p1 a4 a5
        rw [← p6] at c2
        rw [m_cpy4 (w := w) hs4 ht4 q5 p5 q7 p7 hw hw' q1 p1, cp_db, cm, bd_s]
        by_cases qw : w = 0
        · rw [if_pos qw, decide_eq_true qw, if_neg (show ¬ b2 true = 0 by decide), show (-1000000006 : Int32) = -nI 1000000006 from rfl, cM, bd_s]
          refine ⟨_, _, rfl, rfl, rfl, ?_⟩; exact ⟨v, e, hv, he, hm, hd, hl, hs, ht, hk0, hk1, hk2, (rf_step hf 5 (by decide)), hp, sa, sb, sc, sd⟩
        · rw [if_neg qw, decide_eq_false qw, if_pos (show b2 false = 0 by decide), cm', bd_s]
          by_cases pw : w' = 0
          · rw [if_pos pw, decide_eq_true pw, if_neg (show ¬ b2 true = 0 by decide), show (-1000000006 : Int32) = -nI 1000000006 from rfl, cM, bd_s]
            refine ⟨_, _, rfl, rfl, rfl, ?_⟩; exact ⟨v, e, hv, he, hm, hd, hl, hs, ht, hk0, hk1, hk2, (rf_step hf 5 (by decide)), hp, sa, sb, sc, sd⟩
          rw [if_neg pw, decide_eq_false pw, if_pos (show b2 false = 0 by decide), show f_X5_bits C_sd_bits = some C_sd_bits from rfl, bd_s, show f_X5_bits C_sb_bits = some C_sb_bits from rfl, bd_s]
          by_cases ww : w = w'
          rotate_left
          · rw [if_neg ww, if_neg (show ¬ C_sd_bits = C_sb_bits from fun z => by rw [q4, p4] at z; exact ww ((nI_eq hw hw').mp z)), show (-1000000003 : Int32) = -nI 1000000003 from rfl, cK, bd_s]
            refine ⟨_, _, rfl, rfl, rfl, ?_⟩; exact ⟨v, e, hv, he, hm, hd, hl, hs, ht, hk0, hk1, hk2, (rf_step hf 2 (by decide)), hp, sa, sb, sc, sd⟩
          rw [if_pos ww, if_pos (show C_sd_bits = C_sb_bits by rw [q4, p4, ww]), c1, bd_s]
          by_cases g1 : 0 ≤ a5.toInt ∧ a5.toInt ≤ n ∧ 0 ≤ a2.toInt ∧ a2.toInt + a5.toInt ≤ n
          rotate_left
          · rw [decide_eq_false g1, if_pos (show b2 false = 0 by decide), if_neg (show ¬ false = true by decide), show (-1000000001 : Int32) = -nI 1000000001 from rfl, cB, bd_s]
            refine ⟨_, _, rfl, rfl, rfl, ?_⟩; exact ⟨v, e, hv, he, hm, hd, hl, hs, ht, hk0, hk1, hk2, (rf_step hf 0 (by decide)), hp, sa, sb, sc, sd⟩
          rw [decide_eq_true g1, if_neg (show ¬ b2 true = 0 by decide), if_pos (show true = true from rfl), c2, bd_s]
          by_cases g2 : 0 ≤ a5.toInt ∧ a5.toInt ≤ n' ∧ 0 ≤ a4.toInt ∧ a4.toInt + a5.toInt ≤ n'
          rotate_left
          · rw [decide_eq_false g2, if_pos (show b2 false = 0 by decide), if_neg (show ¬ false = true by decide), show (-1000000001 : Int32) = -nI 1000000001 from rfl, cB, bd_s]
            refine ⟨_, _, rfl, rfl, rfl, ?_⟩; exact ⟨v, e, hv, he, hm, hd, hl, hs, ht, hk0, hk1, hk2, (rf_step hf 0 (by decide)), hp, sa, sb, sc, sd⟩
          rw [decide_eq_true g2, if_neg (show ¬ b2 true = 0 by decide), if_pos (show true = true from rfl)]
          obtain ⟨x, hx, rfl⟩ : ∃ x, x < 41 ∧ a2 = nI x := inr_t (by decide) (inr_iff.mpr (by omega))
          obtain ⟨y, hy, rfl⟩ : ∃ y, y < 41 ∧ a4 = nI y := inr_t (by decide) (inr_iff.mpr (by omega))
          obtain ⟨m, hmm, rfl⟩ : ∃ m, m < 41 ∧ a5 = nI m := inr_t (by decide) (inr_iff.mpr (by omega))
          have g1' := g1
          have g2' := g2
          rw [nI_toInt (by omega), nI_toInt (by omega)] at g1' g2'
          have hxm : x + m ≤ n := by omega
          have hym : y + m ≤ n' := by omega
          obtain ⟨r1, f1, f2⟩ := m_cp128 (Q := M_numbers) (s := 3) (x := x) (m := m) (by decide) (by omega) m N 0 M_moved (by omega) (by omega) (fun j hj => absurd hj (Nat.not_lt_zero _))
          obtain ⟨r2, f3, f4, f5⟩ := m_cp165 (M := r1) (t := 1) (y := y) (m := m) (by decide) (by omega) m N 0 M_numbers (by omega) (by omega)
          have tk := (show f_X5_takeRun C_sb_nums C_sb_len C_sd_nums C_sd_len (nI x) (nI y) (nI m) = some (va_cpy C_sd_nums C_sb_nums x y m) from by rw [p6, q6]; exact c_take q1 p1 hxm hym _ _)
          rw [tk, bd_s, f1, bd_s, f3, bd_s]
          refine ⟨_, _, rfl, rfl, rfl, ?_⟩
          have hNn : RS 1 (va_cpy C_sd_nums C_sb_nums x y m) C_sb_bits C_sb_len M_widths M_sizes r2 := ⟨_, n', p1, p2, p3, p4, p5, p6, p7, fun z hz => by
            by_cases qz : y ≤ z ∧ z < y + m
            · have a1 := f4 (z - y) (Nat.zero_le _) (by omega)
              have a2 := f2 (z - y) (by omega)
              have a3 := q8 (x + (z - y)) (by omega)
              rw [show 40 * 1 + y + (z - y) = 40 * 1 + z by omega] at a1
              rw [show 40 * 3 + x + (z - y) = 40 * 3 + (x + (z - y)) by omega] at a2
              rw [pk_cpy_in qz.1 qz.2, a1, a2, a3]
            · rw [pk_cpy_out (by omega), f5 _ (by omega)]; exact p8 z hz⟩
          exact ⟨v, e, hv, he, hm, hd, hl, hs, ht, hk0, hk1, hk2, hf, hp, (rs_oth sa rfl rfl (fun j hj => f5 _ (by omega))), hNn, (rs_oth sc rfl rfl (fun j hj => f5 _ (by omega))), (rs_oth sd rfl rfl (fun j hj => f5 _ (by omega)))⟩
      · have hS := sd
        have hT := sc
        obtain ⟨w, n, q1, q2, q3, q4, q5, q6, q7, q8⟩ := hS
        obtain ⟨w', n', p1, p2, p3, p4, p5, p6, p7, p8⟩ := hT
        skip
        have hw := rs_w q2
        have hw' := rs_w p2
        have cm : f_X5_isMissing C_sd_bits = some (b2 (decide (w = 0))) := by rw [q4]; exact c_miss w hw
        have cm' : f_X5_isMissing C_sc_bits = some (b2 (decide (w' = 0))) := by rw [p4]; exact c_miss w' hw'
        have c1 : f_X5_hasRun C_sd_len a2 a5 = some (b2 (decide (0 ≤ a5.toInt ∧ a5.toInt ≤ n ∧ 0 ≤ a2.toInt ∧ a2.toInt + a5.toInt ≤ n))) := by rw [q6]; exact c_hasRun q1 a2 a5
        have c2 := c_hasRun p1 a4 a5
        rw [← p6] at c2
        rw [m_cpy4 (w := w) hs4 ht4 q5 p5 q7 p7 hw hw' q1 p1, cp_dc, cm, bd_s]
        by_cases qw : w = 0
        · rw [if_pos qw, decide_eq_true qw, if_neg (show ¬ b2 true = 0 by decide), show (-1000000006 : Int32) = -nI 1000000006 from rfl, cM, bd_s]
          refine ⟨_, _, rfl, rfl, rfl, ?_⟩; exact ⟨v, e, hv, he, hm, hd, hl, hs, ht, hk0, hk1, hk2, (rf_step hf 5 (by decide)), hp, sa, sb, sc, sd⟩
        · rw [if_neg qw, decide_eq_false qw, if_pos (show b2 false = 0 by decide), cm', bd_s]
          by_cases pw : w' = 0
          · rw [if_pos pw, decide_eq_true pw, if_neg (show ¬ b2 true = 0 by decide), show (-1000000006 : Int32) = -nI 1000000006 from rfl, cM, bd_s]
            refine ⟨_, _, rfl, rfl, rfl, ?_⟩; exact ⟨v, e, hv, he, hm, hd, hl, hs, ht, hk0, hk1, hk2, (rf_step hf 5 (by decide)), hp, sa, sb, sc, sd⟩
          rw [if_neg pw, decide_eq_false pw, if_pos (show b2 false = 0 by decide), show f_X5_bits C_sd_bits = some C_sd_bits from rfl, bd_s, show f_X5_bits C_sc_bits = some C_sc_bits from rfl, bd_s]
          by_cases ww : w = w'
          rotate_left
          · rw [if_neg ww, if_neg (show ¬ C_sd_bits = C_sc_bits from fun z => by rw [q4, p4] at z; exact ww ((nI_eq hw hw').mp z)), show (-1000000003 : Int32) = -nI 1000000003 from rfl, cK, bd_s]
            refine ⟨_, _, rfl, rfl, rfl, ?_⟩; exact ⟨v, e, hv, he, hm, hd, hl, hs, ht, hk0, hk1, hk2, (rf_step hf 2 (by decide)), hp, sa, sb, sc, sd⟩
          rw [if_pos ww, if_pos (show C_sd_bits = C_sc_bits by rw [q4, p4, ww]), c1, bd_s]
          by_cases g1 : 0 ≤ a5.toInt ∧ a5.toInt ≤ n ∧ 0 ≤ a2.toInt ∧ a2.toInt + a5.toInt ≤ n
          rotate_left
          · rw [decide_eq_false g1, if_pos (show b2 false = 0 by decide), if_neg (show ¬ false = true by decide), show (-1000000001 : Int32) = -nI 1000000001 from rfl, cB, bd_s]
            refine ⟨_, _, rfl, rfl, rfl, ?_⟩; exact ⟨v, e, hv, he, hm, hd, hl, hs, ht, hk0, hk1, hk2, (rf_step hf 0 (by decide)), hp, sa, sb, sc, sd⟩
          rw [decide_eq_true g1, if_neg (show ¬ b2 true = 0 by decide), if_pos (show true = true from rfl), c2, bd_s]
          by_cases g2 : 0 ≤ a5.toInt ∧ a5.toInt ≤ n' ∧ 0 ≤ a4.toInt ∧ a4.toInt + a5.toInt ≤ n'
          rotate_left
          · rw [decide_eq_false g2, if_pos (show b2 false = 0 by decide), if_neg (show ¬ false = true by decide), show (-1000000001 : Int32) = -nI 1000000001 from rfl, cB, bd_s]
            refine ⟨_, _, rfl, rfl, rfl, ?_⟩; exact ⟨v, e, hv, he, hm, hd, hl, hs, ht, hk0, hk1, hk2, (rf_step hf 0 (by decide)), hp, sa, sb, sc, sd⟩
          rw [decide_eq_true g2, if_neg (show ¬ b2 true = 0 by decide), if_pos (show true = true from rfl)]
          obtain ⟨x, hx, rfl⟩ : ∃ x, x < 41 ∧ a2 = nI x := inr_t (by decide) (inr_iff.mpr (by omega))
          obtain ⟨y, hy, rfl⟩ : ∃ y, y < 41 ∧ a4 = nI y := inr_t (by decide) (inr_iff.mpr (by omega))
          obtain ⟨m, hmm, rfl⟩ : ∃ m, m < 41 ∧ a5 = nI m := inr_t (by decide) (inr_iff.mpr (by omega))
          have g1' := g1
          have g2' := g2
          rw [nI_toInt (by omega), nI_toInt (by omega)] at g1' g2'
          have hxm : x + m ≤ n := by omega
          have hym : y + m ≤ n' := by omega
          obtain ⟨r1, f1, f2⟩ := m_cp128 (Q := M_numbers) (s := 3) (x := x) (m := m) (by decide) (by omega) m N 0 M_moved (by omega) (by omega) (fun j hj => absurd hj (Nat.not_lt_zero _))
          obtain ⟨r2, f3, f4, f5⟩ := m_cp165 (M := r1) (t := 2) (y := y) (m := m) (by decide) (by omega) m N 0 M_numbers (by omega) (by omega)
          have tk := (show f_X5_takeRun C_sc_nums C_sc_len C_sd_nums C_sd_len (nI x) (nI y) (nI m) = some (va_cpy C_sd_nums C_sc_nums x y m) from by rw [p6, q6]; exact c_take q1 p1 hxm hym _ _)
          rw [tk, bd_s, f1, bd_s, f3, bd_s]
          refine ⟨_, _, rfl, rfl, rfl, ?_⟩
          have hNn : RS 2 (va_cpy C_sd_nums C_sc_nums x y m) C_sc_bits C_sc_len M_widths M_sizes r2 := ⟨_, n', p1, p2, p3, p4, p5, p6, p7, fun z hz => by
            by_cases qz : y ≤ z ∧ z < y + m
            · have a1 := f4 (z - y) (Nat.zero_le _) (by omega)
              have a2 := f2 (z - y) (by omega)
              have a3 := q8 (x + (z - y)) (by omega)
              rw [show 40 * 2 + y + (z - y) = 40 * 2 + z by omega] at a1
              rw [show 40 * 3 + x + (z - y) = 40 * 3 + (x + (z - y)) by omega] at a2
              rw [pk_cpy_in qz.1 qz.2, a1, a2, a3]
            · rw [pk_cpy_out (by omega), f5 _ (by omega)]; exact p8 z hz⟩
          exact ⟨v, e, hv, he, hm, hd, hl, hs, ht, hk0, hk1, hk2, hf, hp, (rs_oth sa rfl rfl (fun j hj => f5 _ (by omega))), (rs_oth sb rfl rfl (fun j hj => f5 _ (by omega))), hNn, (rs_oth sd rfl rfl (fun j hj => f5 _ (by omega)))⟩
      · have hS := sd
        have hT := sd
        obtain ⟨w, n, q1, q2, q3, q4, q5, q6, q7, q8⟩ := hS
        obtain ⟨w', n', p1, p2, p3, p4, p5, p6, p7, p8⟩ := hT
        obtain rfl : n = n' := (nI_eq (by omega) (by omega)).mp (q6.symm.trans p6)
        obtain rfl : w = w' := (nI_eq (rs_w q2) (rs_w p2)).mp (q4.symm.trans p4)
        have hw := rs_w q2
        have hw' := rs_w p2
        have cm : f_X5_isMissing C_sd_bits = some (b2 (decide (w = 0))) := by rw [q4]; exact c_miss w hw
        have c1 : f_X5_hasRun C_sd_len a2 a5 = some (b2 (decide (0 ≤ a5.toInt ∧ a5.toInt ≤ n ∧ 0 ≤ a2.toInt ∧ a2.toInt + a5.toInt ≤ n))) := by rw [q6]; exact c_hasRun q1 a2 a5
        have c2 := c_hasRun p1 a4 a5
        rw [← p6] at c2
        rw [m_cpy4 (w := w) hs4 ht4 q5 p5 q7 p7 hw hw' q1 p1, cp_dd, cm, bd_s]
        by_cases qw : w = 0
        · rw [if_pos qw, decide_eq_true qw, if_neg (show ¬ b2 true = 0 by decide), show (-1000000006 : Int32) = -nI 1000000006 from rfl, cM, bd_s]
          refine ⟨_, _, rfl, rfl, rfl, ?_⟩; exact ⟨v, e, hv, he, hm, hd, hl, hs, ht, hk0, hk1, hk2, (rf_step hf 5 (by decide)), hp, sa, sb, sc, sd⟩
        · rw [if_neg qw, decide_eq_false qw, if_pos (show b2 false = 0 by decide), bd_s]
          rw [if_neg qw, if_pos (show b2 false = 0 by decide), show f_X5_bits C_sd_bits = some C_sd_bits from rfl, bd_s, bd_s, if_pos rfl, if_pos rfl, c1, bd_s]
          by_cases g1 : 0 ≤ a5.toInt ∧ a5.toInt ≤ n ∧ 0 ≤ a2.toInt ∧ a2.toInt + a5.toInt ≤ n
          rotate_left
          · rw [decide_eq_false g1, if_pos (show b2 false = 0 by decide), if_neg (show ¬ false = true by decide), show (-1000000001 : Int32) = -nI 1000000001 from rfl, cB, bd_s]
            refine ⟨_, _, rfl, rfl, rfl, ?_⟩; exact ⟨v, e, hv, he, hm, hd, hl, hs, ht, hk0, hk1, hk2, (rf_step hf 0 (by decide)), hp, sa, sb, sc, sd⟩
          rw [decide_eq_true g1, if_neg (show ¬ b2 true = 0 by decide), if_pos (show true = true from rfl), c2, bd_s]
          by_cases g2 : 0 ≤ a5.toInt ∧ a5.toInt ≤ n ∧ 0 ≤ a4.toInt ∧ a4.toInt + a5.toInt ≤ n
          rotate_left
          · rw [decide_eq_false g2, if_pos (show b2 false = 0 by decide), if_neg (show ¬ false = true by decide), show (-1000000001 : Int32) = -nI 1000000001 from rfl, cB, bd_s]
            refine ⟨_, _, rfl, rfl, rfl, ?_⟩; exact ⟨v, e, hv, he, hm, hd, hl, hs, ht, hk0, hk1, hk2, (rf_step hf 0 (by decide)), hp, sa, sb, sc, sd⟩
          rw [decide_eq_true g2, if_neg (show ¬ b2 true = 0 by decide), if_pos (show true = true from rfl)]
          obtain ⟨x, hx, rfl⟩ : ∃ x, x < 41 ∧ a2 = nI x := inr_t (by decide) (inr_iff.mpr (by omega))
          obtain ⟨y, hy, rfl⟩ : ∃ y, y < 41 ∧ a4 = nI y := inr_t (by decide) (inr_iff.mpr (by omega))
          obtain ⟨m, hmm, rfl⟩ : ∃ m, m < 41 ∧ a5 = nI m := inr_t (by decide) (inr_iff.mpr (by omega))
          have g1' := g1
          have g2' := g2
          rw [nI_toInt (by omega), nI_toInt (by omega)] at g1' g2'
          have hxm : x + m ≤ n := by omega
          have hym : y + m ≤ n := by omega
          obtain ⟨r1, f1, f2⟩ := m_cp128 (Q := M_numbers) (s := 3) (x := x) (m := m) (by decide) (by omega) m N 0 M_moved (by omega) (by omega) (fun j hj => absurd hj (Nat.not_lt_zero _))
          obtain ⟨r2, f3, f4, f5⟩ := m_cp165 (M := r1) (t := 3) (y := y) (m := m) (by decide) (by omega) m N 0 M_numbers (by omega) (by omega)
          have tk := (show f_X5_takeRunSelf C_sd_nums C_sd_len (nI x) (nI y) (nI m) = some (va_cpy C_sd_nums C_sd_nums x y m) from by rw [q6]; exact c_takeSelf q1 hxm (by omega) _)
          rw [tk, bd_s, f1, bd_s, f3, bd_s]
          refine ⟨_, _, rfl, rfl, rfl, ?_⟩
          have hNn : RS 3 (va_cpy C_sd_nums C_sd_nums x y m) C_sd_bits C_sd_len M_widths M_sizes r2 := ⟨_, n, p1, p2, p3, p4, p5, p6, p7, fun z hz => by
            by_cases qz : y ≤ z ∧ z < y + m
            · have a1 := f4 (z - y) (Nat.zero_le _) (by omega)
              have a2 := f2 (z - y) (by omega)
              have a3 := q8 (x + (z - y)) (by omega)
              rw [show 40 * 3 + y + (z - y) = 40 * 3 + z by omega] at a1
              rw [show 40 * 3 + x + (z - y) = 40 * 3 + (x + (z - y)) by omega] at a2
              rw [pk_cpy_in qz.1 qz.2, a1, a2, a3]
            · rw [pk_cpy_out (by omega), f5 _ (by omega)]; exact p8 z hz⟩
          exact ⟨v, e, hv, he, hm, hd, hl, hs, ht, hk0, hk1, hk2, hf, hp, (rs_oth sa rfl rfl (fun j hj => f5 _ (by omega))), (rs_oth sb rfl rfl (fun j hj => f5 _ (by omega))), (rs_oth sc rfl rfl (fun j hj => f5 _ (by omega))), hNn⟩
    · obtain ⟨s, hs4, rfl⟩ := inr_t (by decide) h1
      have hs4' : s = 0 ∨ s = 1 ∨ s = 2 ∨ s = 3 := by omega
      have n0 : ¬ a3 = nI 0 := fun z => by rw [z] at h3; exact h3 (by decide)
      have n1 : ¬ a3 = nI 1 := fun z => by rw [z] at h3; exact h3 (by decide)
      have n2 : ¬ a3 = nI 2 := fun z => by rw [z] at h3; exact h3 (by decide)
      have n3 : ¬ a3 = nI 3 := fun z => by rw [z] at h3; exact h3 (by decide)
      have h3 := inr_out h3
      have e2 : f_X8_copy N M_found M_widths M_sizes M_numbers M_moved (nI s) a2 a3 a4 a5 = some (-nI 1000000001, fmu M_found 0, M_numbers, M_moved) := by
        unfold f_X8_copy
        rw [m_isSheet, h1, bd_s, if_neg (show ¬ b2 true = 0 by decide), m_isSheet, h3, bd_s, if_pos (show b2 false = 0 by decide)]
        rfl
      rw [e2]
      rcases hs4' with rfl | rfl | rfl | rfl
      · rw [cp_ax _ _ _ _ _ _ _ _ _ _ _ _ _ _ _ _ _ n0 n1 n2 n3]
        refine ⟨_, _, rfl, rfl, rfl, ?_⟩; exact ⟨v, e, hv, he, hm, hd, hl, hs, ht, hk0, hk1, hk2, (rf_step hf 0 (by decide)), hp, sa, sb, sc, sd⟩
      · rw [cp_bx _ _ _ _ _ _ _ _ _ _ _ _ _ _ _ _ _ n0 n1 n2 n3]
        refine ⟨_, _, rfl, rfl, rfl, ?_⟩; exact ⟨v, e, hv, he, hm, hd, hl, hs, ht, hk0, hk1, hk2, (rf_step hf 0 (by decide)), hp, sa, sb, sc, sd⟩
      · rw [cp_cx _ _ _ _ _ _ _ _ _ _ _ _ _ _ _ _ _ n0 n1 n2 n3]
        refine ⟨_, _, rfl, rfl, rfl, ?_⟩; exact ⟨v, e, hv, he, hm, hd, hl, hs, ht, hk0, hk1, hk2, (rf_step hf 0 (by decide)), hp, sa, sb, sc, sd⟩
      · rw [cp_dx _ _ _ _ _ _ _ _ _ _ _ _ _ _ _ _ _ n0 n1 n2 n3]
        refine ⟨_, _, rfl, rfl, rfl, ?_⟩; exact ⟨v, e, hv, he, hm, hd, hl, hs, ht, hk0, hk1, hk2, (rf_step hf 0 (by decide)), hp, sa, sb, sc, sd⟩
  · have n0 : ¬ a1 = nI 0 := fun z => by rw [z] at h1; exact h1 (by decide)
    have n1 : ¬ a1 = nI 1 := fun z => by rw [z] at h1; exact h1 (by decide)
    have n2 : ¬ a1 = nI 2 := fun z => by rw [z] at h1; exact h1 (by decide)
    have n3 : ¬ a1 = nI 3 := fun z => by rw [z] at h1; exact h1 (by decide)
    have h1 := inr_out h1
    have e2 : f_X8_copy N M_found M_widths M_sizes M_numbers M_moved a1 a2 a3 a4 a5 = some (-nI 1000000001, fmu M_found 0, M_numbers, M_moved) := by
      unfold f_X8_copy
      rw [m_isSheet, h1, bd_s, if_pos (show b2 false = 0 by decide)]
      rfl
    rw [e2, cp_x _ _ _ _ _ _ _ _ _ _ _ _ _ _ _ _ _ _ n0 n1 n2 n3]
    refine ⟨_, _, rfl, rfl, rfl, ?_⟩; exact ⟨v, e, hv, he, hm, hd, hl, hs, ht, hk0, hk1, hk2, (rf_step hf 0 (by decide)), hp, sa, sb, sc, sd⟩
