/-! ===== the class looks anew ===== -/
theorem nI_nm1 {b : Nat} (h : b < 2 ^ 31) : (nI b = -nI 1) = False := by
  refine propext ⟨fun q => ?_, fun q => q.elim⟩
  have h1 := congrArg Int32.toInt q
  rw [nI_toInt h, show (-nI 1).toInt = -1 from rfl] at h1
  omega
theorem lk_none {v : Nat → Nat} {k : Nat} (h : bst v k = none) : lkI (bst v k) = -nI 1 := by rw [h]; rfl
theorem lk_some {v : Nat → Nat} {k b : Nat} (h : bst v k = some b) : lkI (bst v k) = nI b := by rw [h]; rfl
theorem me_same {v : Nat → Nat} {n : Nat} {me : Nat → Int32} (h : ME v n me) (hw : wt v n = 0) : ME v (n + 1) me := by
  intro p hp
  obtain ⟨e, h1, h2, h3⟩ := h p hp
  refine ⟨e, h1, h2, fun q hq => ?_⟩
  rw [h3 q hq]
  show _ = (metS v p q n || (decide (0 < wt v n) && _))
  rw [hw]; simp
theorem bst_same {v : Nat → Nat} {n : Nat} (hw : wt v n = 0) : bst v (n + 1) = bst v n := by
  show (if _ then _ else _) = _
  rw [if_neg (by rw [hw]; exact Nat.not_lt_zero _)]
theorem rr_keep {v : Nat → Nat} {rows R : Nat → Int32} {n n' : Nat} (hv : Vd v) (hne : n' < n) (hR : ∀ i, (i < 21 * n ∨ 21 * n + 21 ≤ i) → R i = rows i) (h : RR v rows n' (v 3)) : RR v R n' (v 3) := by
  have h3 := vd_3 hv
  intro j hj
  rw [hR _ (by omega)]; exact h j hj
theorem c_size {v : Nat → Nat} (hv : Vd v) : f_X2_size (nI (dc v)) = some (nI (nn v)) := n_there hv
theorem c_wat0 (W : Nat → Int32) (d : Int32) : f_X2_weight W d (-nI 1) = some (nI 0) := by
  unfold f_X2_weight
  exact if_pos (by decide)
theorem c_wat {v : Nat → Nat} (hv : Vd v) (W : Nat → Int32) {b : Nat} (hb : b < nn v) : f_X2_weight W (nI (dc v)) (nI b) = some (W b) := by
  have h64 := nn_le hv
  unfold f_X2_weight
  rw [if_neg (nI_pos (by omega)), c_size hv, bd_s, if_neg (nI_ge hb (by omega)), gd_ix (by omega) (by decide), nI_clamp (by omega)]
theorem c_judge {v : Nat → Nat} {bcells scells order stepsAt doubts : Nat → Int32} (hb : ∀ j, j < 80 → bcells j = nI (v (6 + j))) (hsc : ∀ j, j < 40 → scells j = nI (v (146 + j))) (hv : Vd v) (ho : ∀ j, j < v 3 → order j = nI (od v j)) (hd : ∀ i, i < dc v → doubts i = nI (dh v i)) (hst : ∀ h, h < 100 → stepsAt h = nI (sts v h)) {N : Nat} (hN : 2000 ≤ N) {n : Nat} (hn : n < nn v) {weights rows me : Nat → Int32} {lk ms : Int32} (bt : Nat → Int32) (hT : TJ v n weights rows me lk ms) :
    ∃ W R M B lk' ms', f_X2_judge N order stepsAt doubts (upd weights n (nI 0)) rows me bt (nI (v 3)) (nI (dc v)) (nI (seb v (v 3))) lk ms (nI (v 3)) bcells (nI (v 5)) scells (nI (v 1)) (nI (v 2)) (nI n) (nI (wgt v n)) = some (W, R, M, B, lk', ms') ∧ TJ v (n + 1) W R M lk' ms' := by
  obtain ⟨t1, t2, t3, rfl, rfl⟩ := hT
  have h64 := nn_le hv
  have hn64 : n < 64 := by omega
  have hw6 := wgt_le hv n
  have z1 := vd_1 hv
  have z2 := vd_2 hv
  have z5 := vd_5 hv
  have w0 : ∀ j, j < n + 1 → wt v n = 0 → upd weights n (nI 0) j = nI (wt v j) := fun j hj hz => by
    by_cases q : j = n
    · rw [q, pk_us, hz]
    · rw [pk_un q]; exact t1 j (by omega)
  by_cases q0 : wgt v n = 0
  · have hz : wt v n = 0 := by unfold wt; split <;> omega
    refine ⟨upd weights n (nI 0), rows, me, bt, lkI (bst v n), nI (msf v n), ?_, fun j hj => w0 j hj hz, fun j hj h0 => t2 j (by
      have : j ≠ n := fun e => by rw [e, q0] at h0; exact absurd h0 (Nat.lt_irrefl _)
      omega) h0, me_same t3 hz, by rw [bst_same hz], ?_⟩
    · simp (disch := omega) only [f_X2_judge, lit32, q0, ↓reduceIte]
    · show nI (msf v n) = nI (if _ then _ else _)
      rw [if_neg (fun z => absurd z.1 (by omega))]
  · obtain ⟨R, B, g1, g2, g3, g4⟩ := c_make hb hv ho hd hN hn64 rows bt
    have r2 : ∀ j, j < n + 1 → 0 < wgt v j → RR v R j (v 3) := fun j hj h0 => by
      by_cases q : j = n
      · rw [q]; exact g3
      · exact rr_keep hv (show j < n by omega) g4 (t2 j (by omega) h0)
    have hq0 : ¬ nI (wgt v n) = nI 0 := fun q => q0 ((nI_eq (by omega) (by decide)).mp q)
    by_cases qb : barR v n = true
    · have hz : wt v n = 0 := by unfold wt; rw [qb]; rfl
      have qb' := qb
      unfold barR at qb'
      rw [Bool.and_eq_true, decide_eq_true_iff] at qb'
      refine ⟨upd weights n (nI 0), R, me, B, lkI (bst v n), nI (msf v n), ?_, fun j hj => w0 j hj hz, r2, me_same t3 hz, by rw [bst_same hz], ?_⟩
      · unfold f_X2_judge
        rw [show (0 : Int32) = nI 0 from rfl, if_neg hq0, g1, bd_s, jn_s]
        dsimp only
        rw [qb'.2, if_neg (by decide), qb'.1, if_neg (by decide)]
      · show nI (msf v n) = nI (if _ then _ else _)
        rw [if_neg (fun z => by rw [qb] at z; exact absurd z.2 (by decide))]
    · have qb : barR v n = false := by simpa using qb
      have e5 : msf v (n + 1) = Nat.max (msf v n) (lead v n) := if_pos ⟨by omega, qb⟩
      have hms := msf_le v n
      have hld := lead_le v n
      have eK : ∀ (X z : Option ((Nat → Int32) × (Nat → Int32) × (Nat → Int32) × (Nat → Int32) × Int32 × Int32)), (if b2 (nst v n (v 3)).2.2 = nI 0 then X else (if nI (v 1) = nI 0 then X else z)) = X := fun X z => by
        unfold barR at qb
        cases hq : (nst v n (v 3)).2.2
        · rw [if_pos (by decide)]
        · rw [hq, Bool.and_true, decide_eq_false_iff_not] at qb
          rw [if_neg (by decide), show v 1 = 0 by omega, if_pos rfl]
      have e6 := c_sayings hsc hv hst hN hn64 g3
      by_cases qs : lead v n < v 5 ∧ v 2 = 1
      · have hz : wt v n = 0 := by
          have : allSo v n (v 5) = false := by
            cases h : allSo v n (v 5)
            · rfl
            · have := (lead_iff v n (Nat.le_refl _)).mpr h; omega
          unfold wt; rw [this, decide_eq_false (by omega)]; simp
        refine ⟨upd weights n (nI 0), R, me, B, lkI (bst v n), nI (Nat.max (msf v n) (lead v n)), ?_, fun j hj => w0 j hj hz, r2, me_same t3 hz, by rw [bst_same hz], by rw [e5]⟩
        unfold f_X2_judge
        rw [show (0 : Int32) = nI 0 from rfl, if_neg hq0, g1, bd_s, jn_s]
        dsimp only
        rw [eK, e6, bd_s]
        unfold f_X4_size
        rw [bd_s, jn_s, if_neg (nI_ge qs.1 (by omega)), qs.2, if_neg (by decide), nI_max (by omega) (by omega)]
      · have hz : wt v n = wgt v n := by
          unfold wt
          rw [qb]
          by_cases q2 : v 2 = 0
          · rw [decide_eq_true q2]; rfl
          · have : allSo v n (v 5) = true := (lead_iff v n (Nat.le_refl _)).mp (by omega)
            rw [this]; simp
        obtain ⟨M, x1, x2⟩ := c_j82 g2 (by omega : 0 < wt v n) 8 N 0 me rfl (by omega) (fun p hp => absurd hp (Nat.not_lt_zero _)) (fun p _ hp => t3 p hp)
        have eL : ∀ (X z : Option ((Nat → Int32) × (Nat → Int32) × (Nat → Int32) × (Nat → Int32) × Int32 × Int32)), (if nI (v 5) ≤ nI (lead v n) then X else (if nI (v 2) = nI 0 then X else z)) = X := fun X z => by
          by_cases q : v 5 ≤ lead v n
          · rw [if_pos (nI_le q (by omega))]
          · rw [if_neg (nI_ge (by omega) (by omega)), show v 2 = 0 by omega, if_pos rfl]
        have w1 : ∀ j, j < n + 1 → upd (upd weights n (nI 0)) n (nI (wgt v n)) j = nI (wt v j) := fun j hj => by
          by_cases q : j = n
          · rw [q, pk_us, hz]
          · rw [pk_un q, pk_un q]; exact t1 j (by omega)
        have pre : f_X2_judge N order stepsAt doubts (upd weights n (nI 0)) rows me bt (nI (v 3)) (nI (dc v)) (nI (seb v (v 3))) (lkI (bst v n)) (nI (msf v n)) (nI (v 3)) bcells (nI (v 5)) scells (nI (v 1)) (nI (v 2)) (nI n) (nI (wgt v n)) = (bd (f_X2_weight (upd (upd weights n (nI 0)) n (nI (wgt v n))) (nI (dc v)) (lkI (bst v n))) (fun u_17 => (if nI (wgt v n) ≤ u_17 then some (upd (upd weights n (nI 0)) n (nI (wgt v n)), R, M, B, lkI (bst v n), nI (Nat.max (msf v n) (lead v n))) else some (upd (upd weights n (nI 0)) n (nI (wgt v n)), R, M, B, nI n, nI (Nat.max (msf v n) (lead v n)))))) := by
          unfold f_X2_judge
          rw [show (0 : Int32) = nI 0 from rfl, if_neg hq0, g1, bd_s, jn_s]
          dsimp only
          rw [eK, e6, bd_s]
          unfold f_X4_size
          rw [bd_s, jn_s, eL, gd_ix hn64 (by decide), x1, bd_s, nI_max (by omega) (by omega), nI_clamp (by omega)]
        rw [pre]
        cases hbn : bst v n with
        | none =>
          have e7 : bst v (n + 1) = some n := by
            show (if _ then _ else _) = _
            rw [hbn, if_pos (by show 0 < _; omega)]
          rw [show lkI none = -nI 1 from rfl, c_wat0, bd_s, if_neg (nI_ge (by omega : 0 < wgt v n) (by omega))]
          exact ⟨_, _, _, _, _, _, rfl, w1, r2, x2, by rw [e7]; rfl, by rw [e5]⟩
        | some b =>
          have hbl := bst_64 hbn
          rw [show lkI (some b) = nI b from rfl, c_wat hv _ (by omega), bd_s, w1 b (by omega)]
          have hwb := wt_le hv b
          have e7 : bst v (n + 1) = if wt v b < wt v n then some n else some b := by
            show (if _ then _ else bst v n) = _
            rw [hbn]
          by_cases q : wgt v n ≤ wt v b
          · rw [if_pos (nI_le q (by omega))]
            rw [if_neg (by omega)] at e7
            exact ⟨_, _, _, _, _, _, rfl, w1, r2, x2, by rw [e7]; rfl, by rw [e5]⟩
          · rw [if_neg (nI_ge (by omega) (by omega))]
            rw [if_pos (by omega)] at e7
            exact ⟨_, _, _, _, _, _, rfl, w1, r2, x2, by rw [e7]; rfl, by rw [e5]⟩
theorem c_look58 {v : Nat → Nat} {bcells scells order stepsAt doubts : Nat → Int32} (hb : ∀ j, j < 80 → bcells j = nI (v (6 + j))) (hsc : ∀ j, j < 40 → scells j = nI (v (146 + j))) (hv : Vd v) (ho : ∀ j, j < v 3 → order j = nI (od v j)) (hd : ∀ i, i < dc v → doubts i = nI (dh v i)) (hst : ∀ h, h < 100 → stepsAt h = nI (sts v h)) {N : Nat} (hN : 2000 ≤ N) : ∀ d f k (weights rows me bt : Nat → Int32) (lk ms : Int32), k + d = nn v → d < f → TJ v k weights rows me lk ms →
    ∃ W R M B lk' ms', f_X2_lookAnew_77 N order stepsAt doubts (nI (v 3)) (nI (dc v)) (nI (seb v (v 3))) (nI (v 3)) bcells (nI (v 5)) scells (nI (v 1)) (nI (v 2)) f (nI k) weights rows me bt lk ms = some (W, R, M, B, lk', ms') ∧ TJ v (nn v) W R M lk' ms' := by
  intro d
  induction d with
  | zero =>
    intro f k weights rows me bt lk ms hk hf hT
    have h64 := nn_le hv
    cases f with
    | zero => omega
    | succ f =>
      have hk : k = nn v := by omega
      refine ⟨weights, rows, me, bt, lk, ms, ?_, by rw [← hk]; exact hT⟩
      unfold f_X2_lookAnew_77
      rw [c_size hv, bd_s, if_pos (nI_le (by omega) (by omega))]
  | succ d ih =>
    intro f k weights rows me bt lk ms hk hf hT
    have h64 := nn_le hv
    cases f with
    | zero => omega
    | succ f =>
      obtain ⟨W, R, M, B, lk', ms', g1, g2⟩ := c_judge hb hsc hv ho hd hst hN (n := k) (by omega) bt hT
      obtain ⟨W2, R2, M2, B2, lk2, ms2, g3, g4⟩ := ih f (k + 1) W R M B lk' ms' (by omega) (by omega) g2
      refine ⟨W2, R2, M2, B2, lk2, ms2, ?_, g4⟩
      unfold f_X2_lookAnew_77
      rw [c_size hv, bd_s, if_neg (nI_ge (by omega) (by omega)), gd_ix (by omega) (by decide), c_weightOf hb hv hd hN (by omega), bd_s, nI_clamp (by omega), show (0 : Int32) = nI 0 from rfl, g1, bd_s, show nI k + (1 : Int32) = nI (k + 1) from nI_1 k]
      exact g3
theorem c_look {v : Nat → Nat} {bcells scells : Nat → Int32} (hb : ∀ j, j < 80 → bcells j = nI (v (6 + j))) (hsc : ∀ j, j < 40 → scells j = nI (v (146 + j))) (hv : Vd v) {N : Nat} (hN : 2000 ≤ N) (order stepsAt doubts weights rows me bt : Nat → Int32) (st bc dn sb lk ms : Int32) (hs : st = nI 0 ∨ st = nI 1) (ht : st = nI 0 → TB v order stepsAt doubts weights rows me dn sb lk ms) :
    ∃ o s d w r m b k' n' s' l' x', f_X7_fresh N (nI (v 3)) bcells (nI (v 5)) scells (nI (v 1)) (nI (v 2)) order stepsAt doubts weights rows me bt st bc dn sb lk ms = some (o, s, d, w, r, m, b, nI 0, k', n', s', l', x') ∧ TB v o s d w r m n' s' l' x' := by
  rcases hs with rfl | rfl
  · exact ⟨_, _, _, _, _, _, _, _, _, _, _, _, rfl, ht rfl⟩
  · have h3 := vd_3 hv
    have h64 := nn_le hv
    obtain ⟨o, a1, a2⟩ := c_ord2 hb hv hN (v 3) N 0 order (by omega) (by omega) (fun j hj => absurd hj (Nat.not_lt_zero _))
    obtain ⟨s, b1, b2⟩ := c_st4 hb hv a2 hN 100 N 0 0 stepsAt rfl (by omega) (Nat.zero_le _) (fun j hj => absurd hj (Nat.not_lt_zero _)) (fun j hj => absurd hj (Nat.not_lt_zero _))
    obtain ⟨d, c1, c2⟩ := c_find hb hv (v 3) N 0 doubts (by omega) (by omega) (fun j hj => absurd hj (Nat.not_lt_zero _))
    obtain ⟨m0, d1, d2⟩ := c_zero8b 8 N 0 me rfl (by omega) (fun j hj => absurd hj (Nat.not_lt_zero _))
    obtain ⟨W, R, M, B, lk', ms', e1, t1, t2, t3, t4, t5⟩ := c_look58 hb hsc hv a2 c2 b2 hN (nn v) N 0 weights rows m0 bt (-nI 1) (nI 0) (by omega) (by omega) ⟨fun j hj => absurd hj (Nat.not_lt_zero _), fun j hj => absurd hj (Nat.not_lt_zero _), fun p hp => ⟨0, d2 p hp, by decide, fun q _ => Nat.zero_testBit _⟩, rfl, rfl⟩
    refine ⟨o, s, d, W, R, M, B, nI (v 3), nI (dc v), nI (seb v (v 3)), lk', ms', ?_, a2, b2, rfl, c2, rfl, t1, t2, t3, t4, t5⟩
    have c1' : f_X2_findDoubts N doubts (nI (v 3)) dn sb (nI (v 3)) bcells = some (d, nI (dc v), nI (seb v (v 3))) := by
      unfold f_X2_findDoubts
      rw [show f_X2_findDoubts_12 (nI (v 3)) (nI (v 3)) bcells N (0 : Int32) doubts (0 : Int32) (0 : Int32) = some (d, nI (dc v), nI (seb v (v 3))) from c1, bd_s]
    have hmin : (if (20 : Int32) < nI (v 3) then (20 : Int32) else nI (v 3)) = nI (v 3) := if_neg (fun q => by
      rw [show (20 : Int32) = nI 20 from rfl, nI_ltI (by decide) (by omega)] at q
      omega)
    unfold f_X7_fresh f_X2_lookAnew
    rw [if_neg (by decide)]
    unfold f_X4_size
    rw [bd_s, hmin]
    unfold f_X2_orderBows f_X2_countSteps
    rw [show f_X2_orderBows_2 N (nI (v 3)) (nI (v 3)) bcells N (0 : Int32) order = some o from a1, bd_s, bd_s]
    rw [show f_X2_countSteps_4 N o (nI (v 3)) (nI (v 3)) bcells N (0 : Int32) (0 : Int32) stepsAt = some s from b1, bd_s, bd_s, c1', bd_s]
    rw [show f_X2_lookAnew_56 N (0 : Int32) me = some m0 from d1, bd_s]
    rw [show f_X2_lookAnew_77 N o s d (nI (v 3)) (nI (dc v)) (nI (seb v (v 3))) (nI (v 3)) bcells (nI (v 5)) scells (nI (v 1)) (nI (v 2)) N (0 : Int32) weights rows m0 bt (-1) (0 : Int32) = some (W, R, M, B, lk', ms') from e1, bd_s, bd_s]
    rfl
