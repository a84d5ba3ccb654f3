/-! ===== home ===== -/
/-- the bows that bring all home, from mask k on -/
def hb : Nat → Nat → (Nat → Nat) → List Nat
  | 0, _, _ => []
  | d + 1, k, w => if w k = k then hb d (k + 1) w else (10 * k + mko w k) :: hb d (k + 1) (swp w k (mko w k))
theorem hb_len : ∀ d k w, (hb d k w).length ≤ d
  | 0, _, _ => Nat.le_refl _
  | d + 1, k, w => by
    unfold hb
    split
    · exact Nat.le_succ_of_le (hb_len d (k + 1) w)
    · exact Nat.succ_le_succ (hb_len d (k + 1) _)
theorem hb_lt : ∀ d k (s : Nst), Pm s → k + d ≤ 8 → ∀ x ∈ hb d k s.1, x < 100
  | 0, _, _, _, _, x, hx => by cases hx
  | d + 1, k, s, hs, hk, x, hx => by
    have hm := mko_is hs (p := k) (by omega)
    unfold hb at hx
    by_cases q : s.1 k = k
    · rw [if_pos q] at hx; exact hb_lt d (k + 1) s hs (by omega) x hx
    · rw [if_neg q] at hx
      rcases List.mem_cons.mp hx with rfl | hx
      · omega
      · exact hb_lt d (k + 1) (stp s k (mko s.1 k)) (Pm_s hs (by omega) hm.1 (fun z => q (by have := hm.2; rw [← z] at this; exact this))) (by omega) x hx
def anI (x : Option Nat) : Int32 := match x with | none => -nI 1 | some b => nI b
theorem mko_eq {s : Nst} (hs : Pm s) {k : Nat} (hk : k < 8) : mko s.1 k = k ↔ s.1 k = k := by
  have h := mko_is hs hk
  constructor
  · intro q; have := h.2; rw [q] at this; exact this
  · intro q; exact hs.2.1 _ _ h.1 hk (h.2.trans q.symm)
theorem c_hw12 {N i P : Nat} (hN : 2000 ≤ N) (hi : i < 2 ^ 31) (hP : P ≤ 8) : ∀ d f k c (s : Nst) (row : Int32), k + d = P → d < f → c ≤ i → c ≤ k → Pm s → RW s.1 row → f_X7_bowHomeward_12 N (nI i) (nI P) (fun _ => some (-nI 1)) f row (nI c) (nI k) = some (anI (hb d k s.1)[i - c]?)
  | 0, f, k, c, s, row, hk, hf, hc, hck, hs, hr => by
    cases f with
    | zero => omega
    | succ f =>
      unfold f_X7_bowHomeward_12
      rw [if_pos (nI_le (by omega) (by omega))]
      rfl
  | d + 1, f, k, c, s, row, hk, hf, hc, hck, hs, hr => by
    cases f with
    | zero => omega
    | succ f =>
      have hm := mko_is hs (p := k) (by omega)
      unfold f_X7_bowHomeward_12
      rw [if_neg (nI_ge (by omega) (by omega)), c_mko hr hs hN (by omega), bd_s]
      by_cases q : s.1 k = k
      · rw [if_pos (by rw [(mko_eq hs (by omega)).mpr q]), nI_1, show hb (d + 1) k s.1 = hb d (k + 1) s.1 from if_pos q]
        exact c_hw12 hN hi hP d f (k + 1) c s row (by omega) (by omega) hc (by omega) hs hr
      · have qm : ¬ mko s.1 k = k := fun z => q ((mko_eq hs (by omega)).mp z)
        rw [if_neg (fun z => qm ((nI_eq (by omega) (by omega)).mp z)), show hb (d + 1) k s.1 = (10 * k + mko s.1 k) :: hb d (k + 1) (swp s.1 k (mko s.1 k)) from if_neg q]
        by_cases qc : c = i
        · subst qc
          rw [if_pos rfl, show (10 : Int32) = nI 10 from rfl, pk_mul, nI_add, Nat.sub_self]
          rfl
        · obtain ⟨row', x1, x2⟩ := c_changed hr (a := k) (b := mko s.1 k) (by omega) hm.1 (fun z => qm z.symm) (hs.1 _ (by omega)) (hs.1 _ hm.1)
          rw [if_neg (fun z => qc ((nI_eq (by omega) (by omega)).mp z)), x1, bd_s, nI_1, nI_1]
          have := c_hw12 hN hi hP d f (k + 1) (c + 1) (stp s k (mko s.1 k)) row' (by omega) (by omega) (by omega) (by omega) (Pm_s hs (by omega) hm.1 (fun z => qm z.symm)) x2
          rw [show i - c = (i - (c + 1)) + 1 by omega, List.getElem?_cons_succ]
          exact this
/-- the bows that bring home in night n -/
def hbN (v : Nat → Nat) (n : Nat) : List Nat := hb (v 0) 0 (nst v n (v 3)).1
theorem c_likRow {v : Nat → Nat} {stepsAt rows : Nat → Int32} (hs : ∀ h, h < 100 → stepsAt h = nI (sts v h)) (hv : Vd v) {n hour : Nat} (hn : n < 64) (hh : hour < 100) : f_X7_likeliestRow stepsAt rows (nI n) (nI hour) = some (rows (21 * n + sts v hour)) := by
  unfold f_X7_likeliestRow f_X2_likeliestNight
  rw [bd_s, c_row hs hv hn hh, bd_s]
theorem c_homeward {v : Nat → Nat} {stepsAt rows : Nat → Int32} (hs : ∀ h, h < 100 → stepsAt h = nI (sts v h)) (hv : Vd v) {n i N : Nat} (hN : 2000 ≤ N) (hn : n < 64) (hR : RR v rows n (v 3)) (hi : i < 2 ^ 31) : f_X7_bowHomeward N (nI (v 0)) stepsAt rows (nI n) (nI i) = some (anI (hbN v n)[i]?) := by
  have h8 := vd_hi hv
  unfold f_X7_bowHomeward
  rw [show (99 : Int32) = nI 99 from rfl, c_likRow hs hv hn (by decide), bd_s, sts_99 hv]
  have := c_hw12 (i := i) hN hi h8 (v 0) N 0 0 (nst v n (v 3)) (rows (21 * n + v 3)) (by omega) (by omega) (Nat.zero_le _) (Nat.le_refl _) (Pm_n hv n (v 3) (Nat.le_refl _)) (hR _ (Nat.le_refl _))
  rw [Nat.sub_zero] at this
  exact this
theorem c_home19 {v : Nat → Nat} {stepsAt rows : Nat → Int32} (hs : ∀ h, h < 100 → stepsAt h = nI (sts v h)) (hv : Vd v) {n N : Nat} (hN : 2000 ≤ N) (hn : n < 64) (hR : RR v rows n (v 3)) : ∀ d f k, k + d = (hbN v n).length → d < f → f_X7_home_19 N (nI (v 0)) stepsAt rows (nI n) f (nI k) = some (nI (hbN v n).length)
  | 0, f, k, hk, hf => by
    have h8 := vd_hi hv
    have hl := hb_len (v 0) 0 (nst v n (v 3)).1
    have hl : (hbN v n).length ≤ v 0 := hl
    cases f with
    | zero => omega
    | succ f =>
      unfold f_X7_home_19
      rw [show (8 : Int32) = nI 8 from rfl]
      by_cases q : 8 ≤ k
      · rw [if_pos (nI_le q (by omega)), show k = (hbN v n).length by omega]
      · rw [if_neg (nI_ge (by omega) (by decide)), c_homeward hs hv hN hn hR (by omega), bd_s, List.getElem?_eq_none (by omega), show (-1 : Int32) = -nI 1 from rfl, show anI none = -nI 1 from rfl, if_pos rfl, show k = (hbN v n).length by omega]
  | d + 1, f, k, hk, hf => by
    have h8 := vd_hi hv
    have hl := hb_len (v 0) 0 (nst v n (v 3)).1
    have hl : (hbN v n).length ≤ v 0 := hl
    cases f with
    | zero => omega
    | succ f =>
      have ih := c_home19 hs hv hN hn hR d f (k + 1) (by omega) (by omega)
      have hx := hb_lt (v 0) 0 (nst v n (v 3)) (Pm_n hv n (v 3) (Nat.le_refl _)) (by omega) ((hbN v n)[k]'(by omega)) (List.getElem_mem _)
      unfold f_X7_home_19
      rw [show (8 : Int32) = nI 8 from rfl, if_neg (nI_ge (by omega) (by decide)), c_homeward hs hv hN hn hR (by omega), bd_s, List.getElem?_eq_getElem (by omega), show (-1 : Int32) = -nI 1 from rfl, if_neg (by show ¬ nI _ = _; rw [nI_nm1 (by omega)]; exact id), nI_1]
      exact ih
/-- the first mask that isn't home -/
def nhI (P : Nat) (w : Nat → Nat) : Int32 := if run (fun m => decide (w m = m)) P 0 < P then nI (run (fun m => decide (w m = m)) P 0) else -nI 1
theorem m_nh11 {w : Nat → Nat} {worn : Nat → Int32} {P : Nat} (hP : P ≤ 8) (h : ∀ m, m < 8 → worn m = nI (w m)) (hw : ∀ m, m < 8 → w m < 8) : ∀ k f (x : Int32), k ≤ P → k < f → ((∃ j, k ≤ j ∧ j < P ∧ w j ≠ j ∧ (∀ i, k ≤ i → i < j → w i = i) ∧ x = nI j) ∨ ((∀ i, k ≤ i → i < P → w i = i) ∧ x = -nI 1)) → f_X8_notHome_11 worn f x (nI k - nI 1) = some (nhI P w)
  | 0, f, x, hk, hf, hx => by
    cases f with
    | zero => omega
    | succ f =>
      unfold f_X8_notHome_11
      rw [if_pos (by decide)]
      unfold nhI
      rcases hx with ⟨j, -, hj, hne, hall, rfl⟩ | ⟨hall, rfl⟩
      · have e1 : run (fun m => decide (w m = m)) P 0 = j := by
          have h1 : ¬ run (fun m => decide (w m = m)) P 0 < j := fun z => by
            have := run_more (p := fun m => decide (w m = m)) P 0 (by omega)
            rw [hall _ (Nat.zero_le _) z] at this
            simp at this
          have h2 : ¬ j < run (fun m => decide (w m = m)) P 0 := fun z => by
            have := run_true (p := fun m => decide (w m = m)) P 0 j (Nat.zero_le _) z
            exact hne (of_decide_eq_true this)
          omega
        rw [e1, if_pos hj]
      · have e1 : run (fun m => decide (w m = m)) P 0 = 0 + P := run_all P 0 (fun j _ hj => decide_eq_true (hall j (Nat.zero_le _) (by omega)))
        rw [e1, if_neg (by omega)]
  | k + 1, f, x, hk, hf, hx => by
    cases f with
    | zero => omega
    | succ f =>
      have hk8 := hw k (by omega)
      unfold f_X8_notHome_11
      rw [nI_sub1, if_neg (nI_pos (by omega)), gd_ix (by omega) (by decide), nI_clamp (by omega), h k (by omega), show nI k + (-1 : Int32) = nI k - nI 1 from (t_sub _ _).symm]
      by_cases q : w k = k
      · rw [if_pos (by rw [q]), bd_s]
        refine m_nh11 hP h hw k f x (by omega) (by omega) ?_
        rcases hx with ⟨j, h1, h2, h3, h4, h5⟩ | ⟨h1, h2⟩
        · exact Or.inl ⟨j, by omega, h2, h3, fun i hi hij => by
            by_cases e : i = k
            · rw [e]; exact q
            · exact h4 i (by omega) hij, h5⟩
        · exact Or.inr ⟨fun i hi hij => by
            by_cases e : i = k
            · rw [e]; exact q
            · exact h1 i (by omega) hij, h2⟩
      · rw [if_neg (fun z => q ((nI_eq (by omega) (by omega)).mp z)), bd_s]
        exact m_nh11 hP h hw k f (nI k) (by omega) (by omega) (Or.inl ⟨k, Nat.le_refl _, by omega, q, fun i hi hij => absurd hij (by omega), rfl⟩)
theorem m_notHome {v : Nat → Nat} {now worn : Nat → Int32} (h : RN v now) (hv : Vd v) {s : Nst} (hs : Pm s) (hw : ∀ m, m < 8 → worn m = nI (s.1 m)) {N : Nat} (hN : 2000 ≤ N) : f_X8_notHome N now worn = some (nhI (v 0) s.1) := by
  have h8 := vd_hi hv
  unfold f_X8_notHome
  rw [show (0 : Int32).toNatClampNeg = 0 from rfl, rn_at h (by omega) (by omega) (by omega)]
  rw [show f_X8_notHome_11 worn N (-1 : Int32) (nI (v 0) - (1 : Int32)) = some (nhI (v 0) s.1) from m_nh11 h8 hw hs.1 (v 0) N (-nI 1) (Nat.le_refl _) (by omega) (Or.inr ⟨fun i h1 h2 => absurd h2 (by omega), rfl⟩), bd_s]
theorem nh_all {P : Nat} {w : Nat → Nat} (h : ∀ m, m < P → w m = m) : nhI P w = -nI 1 := by
  unfold nhI
  rw [run_all P 0 (fun j _ hj => decide_eq_true (h j (by omega))), if_neg (by omega)]
theorem nh_k {P k : Nat} {w : Nat → Nat} (h : ∀ m, m < k → w m = m) (hk : k < P) (hne : w k ≠ k) : nhI P w = nI k := by
  have e1 : run (fun m => decide (w m = m)) P 0 = k := by
    have h1 : ¬ run (fun m => decide (w m = m)) P 0 < k := fun z => by
      have := run_more (p := fun m => decide (w m = m)) P 0 (by omega)
      rw [h _ z] at this
      simp at this
    have h2 : ¬ k < run (fun m => decide (w m = m)) P 0 := fun z => by
      have := run_true (p := fun m => decide (w m = m)) P 0 k (Nat.zero_le _) z
      exact hne (of_decide_eq_true this)
    omega
  unfold nhI
  rw [e1, if_pos hk]
/-- one bow homeward in the reference -/
theorem m_bowsHome {s : Nst} {worn : Nat → Int32} {pairs : Int64} {tw : Int32} (hm : MS s worn pairs tw) (hs : Pm s) {k N : Nat} (hN : 2000 ≤ N) (hk : k < 8) (hhome : ∀ m, m < k → s.1 m = m) (hne : s.1 k ≠ k) : ∃ w p t, f_X8_bowsHome N worn pairs tw (nI k) = some (nI (10 * k + mko s.1 k), w, p, t) ∧ MS (stp s k (mko s.1 k)) w p t ∧ Pm (stp s k (mko s.1 k)) ∧ ∀ m, m < k + 1 → (stp s k (mko s.1 k)).1 m = m := by
  have hi := mko_is hs hk
  have hgt : k < mko s.1 k := by
    have h1 : mko s.1 k ≠ k := fun z => hne ((mko_eq hs hk).mp z)
    have h2 : ¬ mko s.1 k < k := fun z => by
      have := hhome _ z
      rw [hi.2] at this
      omega
    omega
  obtain ⟨w, p, t, e1, e2⟩ := m_change hm hs hk hi.1 (by omega)
  refine ⟨w, p, t, ?_, e2, Pm_s hs hk hi.1 (by omega), fun m hmk => ?_⟩
  · unfold f_X8_bowsHome
    rw [m_mko hm.1 hs hN hk, bd_s, e1, bd_s, if_neg (nI_nlt (by omega) (by omega)), if_pos (nI_lt hgt (by omega)), show (10 : Int32) = nI 10 from rfl, pk_mul, nI_add]
  · show swp s.1 k (mko s.1 k) m = m
    by_cases q : m = k
    · rw [q, swp_a, hi.2]
    · rw [swp_n q (by omega)]; exact hhome m (by omega)
theorem m_home23 {v : Nat → Nat} {now : Nat → Int32} (h : RN v now) (hv : Vd v) {N : Nat} (hN : 2000 ≤ N) : ∀ d f k c (s : Nst) (worn : Nat → Int32) (pairs : Int64) (tw : Int32), k + d = v 0 → d < f → Pm s → MS s worn pairs tw → (∀ m, m < k → s.1 m = m) → ∃ w p t, f_X8_home_23 N now f (nI c) (nhI (v 0) s.1) worn pairs tw = some (nI (c + (hb d k s.1).length), w, p, t)
  | 0, f, k, c, s, worn, pairs, tw, hk, hf, hs, hm, hh => by
    cases f with
    | zero => omega
    | succ f =>
      refine ⟨worn, pairs, tw, ?_⟩
      unfold f_X8_home_23
      rw [nh_all (fun m hm => hh m (by omega)), if_pos (by decide)]; rfl
  | d + 1, f, k, c, s, worn, pairs, tw, hk, hf, hs, hm, hh => by
    have h8 := vd_hi hv
    by_cases q : s.1 k = k
    · rw [show hb (d + 1) k s.1 = hb d (k + 1) s.1 from if_pos q]
      exact m_home23 h hv hN d f (k + 1) c s worn pairs tw (by omega) (by omega) hs hm (fun m hmk => by
        by_cases e : m = k
        · rw [e]; exact q
        · exact hh m (by omega))
    · cases f with
      | zero => omega
      | succ f =>
        obtain ⟨w1, p1, t1, e1, e2, e3, e4⟩ := m_bowsHome hm hs hN (k := k) (by omega) hh q
        obtain ⟨w, p, t, g⟩ := m_home23 h hv hN d f (k + 1) (c + 1) (stp s k (mko s.1 k)) w1 p1 t1 (by omega) (by omega) e3 e2 e4
        refine ⟨w, p, t, ?_⟩
        unfold f_X8_home_23
        rw [nh_k hh (by omega) q, if_neg (nI_pos (by omega)), e1, bd_s]
        dsimp only
        rw [m_notHome h hv e3 e2.1 hN, bd_s, nI_1, show hb (d + 1) k s.1 = (10 * k + mko s.1 k) :: hb d (k + 1) (swp s.1 k (mko s.1 k)) from if_neg q, List.length_cons, show c + ((hb d (k + 1) (swp s.1 k (mko s.1 k))).length + 1) = c + 1 + (hb d (k + 1) (stp s k (mko s.1 k)).1).length by show _ = c + 1 + (hb d (k + 1) (swp s.1 k (mko s.1 k))).length; omega]
        exact g
theorem m_goesL {v : Nat → Nat} {now : Nat → Int32} (h : RN v now) (hv : Vd v) {N : Nat} (hN : 2000 ≤ N) (order doubts : Nat → Int32) (dm : Int32) (weights : Nat → Int64) (worn : Nat → Int32) (pairs : Int64) (tw : Int32) {hour : Nat} (hh : hour < 100) :
    ∃ o d W w p t, f_X8_goesLikeliest N now order doubts dm weights worn pairs tw (nI hour) = some (b2 (lkl v).isSome, o, d, nI (dc v), W, w, p, t) ∧ ML v o d (nI (dc v)) ∧ MW v W ∧ ∀ n, lkl v = some n → MS (nst v n (sts v hour)) w p t := by
  have h64 := nn_le hv
  obtain ⟨o, d, W, w, p, t, e1, e2, e3⟩ := m_best h hv hN order doubts dm weights worn pairs tw
  cases hk : lkl v with
  | none =>
    refine ⟨o, d, W, w, p, t, ?_, e2, e3, fun n hn => by cases hn⟩
    rw [hk] at e1
    unfold f_X8_goesLikeliest
    rw [e1, bd_s]
    rfl
  | some n =>
    have hn := lkl_lt hk
    obtain ⟨w1, p1, t1, g1, g2⟩ := m_goes h hv hN e2 hn (hour := hour) (by omega) w p t
    refine ⟨o, d, W, w1, p1, t1, ?_, e2, e3, fun n' hn' => by cases hn'; exact g2⟩
    rw [hk] at e1
    unfold f_X8_goesLikeliest
    rw [e1, bd_s]
    dsimp only
    rw [show lkI (some n) = nI n from rfl, if_neg (nI_pos (by omega)), g1, bd_s, bd_s, if_neg (nI_pos (by omega))]
    rfl
set_option maxHeartbeats 16000000 in
theorem op_home {N : Nat} (hN : 2000 ≤ N) : Op_home Rl N := by
  intro C_isKept C_l_bsize C_l_bcells C_l_ssize C_l_scells C_l_dsize C_l_dcells C_l_people C_l_rule C_l_believed C_k_bsize C_k_bcells C_k_ssize C_k_scells C_k_dsize C_k_dcells C_k_people C_k_rule C_k_believed C_d_bsize C_d_bcells C_d_ssize C_d_scells C_d_dsize C_d_dcells C_d_people C_d_rule C_d_believed C_order C_stepsAt C_doubts C_weights C_rows C_metEver C_bowedTo C_isStale C_bowCount C_doubtCount C_seenBows C_likeliest C_mostSayingsSo C_doers C_isTelling C_tbytes C_tlen C_token C_place C_behindIt C_value C_sa_nums C_sa_bits C_sa_len C_sb_nums C_sb_bits C_sb_len C_sc_nums C_sc_bits C_sc_len C_sd_nums C_sd_bits C_sd_len C_findings M_now M_kept M_isKept M_found M_order M_doubts M_doubtMany M_weights M_worn M_pairs M_isTwice M_doer M_doneTo M_doers M_tape M_taped M_begins M_ends M_sort M_value M_isWrong M_items M_itemMany M_bowThen M_doubtThen M_deedThen M_sayingThen M_widths M_sizes M_numbers M_moved  hR 
  obtain ⟨v, e, hv, he, hm, hd, hl, hs, ht, hk0, hk1, hk2, hf, hp, sa, sb, sc, sd⟩ := hR
  obtain ⟨rfl, hlb, rfl, hls, rfl, hld, rfl, rfl, rfl⟩ := hl
  have h8 := vd_hi hv
  have h64 := nn_le hv
  obtain ⟨o_, s_, d_, w_, r_, m_, b_, k_, n_, q_, l_, x_, ef, tb⟩ := c_look hlb hls hv hN C_order C_stepsAt C_doubts C_weights C_rows C_metEver C_bowedTo C_isStale C_bowCount C_doubtCount C_seenBows C_likeliest C_mostSayingsSo hs ht
  have tbb := tb
  obtain ⟨tb1, tb2, rfl, tb4, rfl, tb6, tb7, tb8, rfl, rfl⟩ := tb
  obtain ⟨mo, md, mw, mwo, mp, mt, em, ml, mW, mS⟩ := m_goesL hm hv hN M_order M_doubts M_doubtMany M_weights M_worn M_pairs M_isTwice (hour := 99) (by decide)
  cases hk : lkl v with
  | none =>
    have es : f_X2_someHolds (-nI 1) = some (b2 false) := by have := c_some hv; rw [hk] at this; exact this
    rw [hk] at em
    simp (disch := omega) only [f_X7_home, f_X8_home, bd_s, gd_tt, jn_s, lit32, gd_ix, nI_clamp, nI_add, pk_mul, nI_leI, nI_ltI, nI_eq, b2_0n, ite_f, ↓reduceIte, Bool.false_eq_true, Bool.true_eq_false, Nat.not_lt_zero, isb_b2, c_has, c_isHour, c_isKind, c_isPerson, m_isHour, m_isKind, m_isSheet, m_w, c_rN, c_rN2, cB, cF, cK, cN, cS, cM, cZ, mB, mF, mK, mN, mS, mM, mZ, ef, em, es, hk, show lkI none = -nI 1 from rfl, Option.isSome_none]
    rw [hk] at tbb
    refine ⟨_, _, rfl, rfl, rfl, ?_⟩; exact ⟨v, e, hv, he, hm, hd, ⟨rfl, hlb, rfl, hls, rfl, hld, rfl, rfl, rfl⟩, Or.inl rfl, fun _ => tbb, hk0, hk1, hk2, (rf_step hf 3 (by decide)), hp, sa, sb, sc, sd⟩
  | some n =>
    have hn := lkl_lt hk
    have es : f_X2_someHolds (nI n) = some (b2 true) := by have := c_some hv; rw [hk] at this; exact this
    have hS := mS n hk
    rw [sts_99 hv] at hS
    have hpm := Pm_n hv n (v 3) (Nat.le_refl _)
    have hR := tb7 n hn (wt_wgt (lkl_pos hk))
    have hl : (hbN v n).length ≤ v 0 := hb_len (v 0) 0 (nst v n (v 3)).1
    obtain ⟨w2, p2, t2, g⟩ := m_home23 hm hv hN (v 0) N 0 0 (nst v n (v 3)) mwo mp mt (by omega) (by omega) hpm hS (fun m hm => absurd hm (Nat.not_lt_zero _))
    rw [Nat.zero_add, show (hb (v 0) 0 (nst v n (v 3)).1).length = (hbN v n).length from rfl] at g
    have e1 : f_X7_home_19 N (nI (v 0)) s_ r_ (nI n) N (nI 0) = some (nI (hbN v n).length) := c_home19 tb2 hv hN (by omega) hR (hbN v n).length N 0 (by omega) (by omega)
    have e2 := m_notHome hm hv hpm hS.1 hN
    rw [hk] at em
    simp (disch := omega) only [f_X7_home, f_X8_home, bd_s, gd_tt, jn_s, lit32, gd_ix, nI_clamp, nI_add, pk_mul, nI_leI, nI_ltI, nI_eq, b2_0n, ite_f, ↓reduceIte, Bool.false_eq_true, Bool.true_eq_false, Nat.not_lt_zero, isb_b2, c_has, c_isHour, c_isKind, c_isPerson, m_isHour, m_isKind, m_isSheet, m_w, c_rN, c_rN2, cB, cF, cK, cN, cS, cM, cZ, mB, mF, mK, mN, mS, mM, mZ, ef, em, es, hk, show lkI (some n) = nI n from rfl, Option.isSome_some, e1, e2, g]
    rw [hk] at tbb
    refine ⟨_, _, rfl, rfl, rfl, ?_⟩; exact ⟨v, e, hv, he, hm, hd, ⟨rfl, hlb, rfl, hls, rfl, hld, rfl, rfl, rfl⟩, Or.inl rfl, fun _ => tbb, hk0, hk1, hk2, hf, hp, sa, sb, sc, sd⟩
