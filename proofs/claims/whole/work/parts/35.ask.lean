/-! ===== ask ===== -/
def mdW (v : Nat → Nat) (i : Nat) : Nat → Nat := smn (fun n => if n.testBit i = true then wt v n else 0)
theorem mdW_s (v : Nat → Nat) (i k : Nat) : mdW v i (k + 1) = mdW v i k + (if k.testBit i = true then wt v k else 0) := rfl
theorem mdW_le (v : Nat → Nat) (i : Nat) : ∀ k, mdW v i k ≤ smn (wt v) k
  | 0 => Nat.le_refl _
  | k + 1 => by
    have := mdW_le v i k
    rw [mdW_s]
    show _ ≤ smn (wt v) k + wt v k
    split <;> omega
theorem alW_le {v : Nat → Nat} (hv : Vd v) : alW v ≤ 64000000 := by
  have h := sm_le (g := wt v) (c := 1000000) (wt_le hv) (nn v)
  have h64 := nn_le hv
  have : nn v * 1000000 ≤ 64 * 1000000 := Nat.mul_le_mul_right _ h64
  unfold alW; omega
theorem c_md5 {v : Nat → Nat} {w : Nat → Int32} (hv : Vd v) (hw : CW v w) {i : Nat} (hi : i < 6) : ∀ d f k, k + d = nn v → d < f → f_X2_oddsOfMade_5 (nI i) w (nI (dc v)) f (lN (mdW v i k)) (nI k) = some (lN (mdW v i (nn v)))
  | 0, f, k, hk, hf => by
    have h64 := nn_le hv
    cases f with
    | zero => omega
    | succ f =>
      unfold f_X2_oddsOfMade_5
      rw [c_size hv, bd_s, if_pos (nI_le (by omega) (by omega)), show k = nn v by omega]
  | d + 1, f, k, hk, hf => by
    have h64 := nn_le hv
    have hwk := wt_le hv k
    cases f with
    | zero => omega
    | succ f =>
      have ih := c_md5 hv hw hi d f (k + 1) (by omega) (by omega)
      unfold f_X2_oddsOfMade_5
      rw [c_size hv, bd_s, if_neg (nI_ge (by omega) (by omega)), ← ih, mdW_s, show (31 : Int32) = nI 31 from rfl, show (1 : Int32) = nI 1 from rfl, nI_31 (by omega), nI_bit (by omega) (by omega), c_weight hv hw (by omega), bd_s, nI_l (by omega), lN_add, nI_add]
      cases k.testBit i
      · rw [if_neg (by decide), bd_s, if_neg (by decide), Nat.add_zero (mdW v i k)]
      · rw [if_pos (by decide), bd_s, if_pos rfl]
theorem c_made {v : Nat → Nat} {w : Nat → Int32} (hv : Vd v) (hw : CW v w) {i N : Nat} (hN : 2000 ≤ N) (hi : i < 6) : f_X2_oddsOfMade N w (nI (dc v)) (nI i) = some (lN (mdW v i (nn v))) := by
  have h64 := nn_le hv
  unfold f_X2_oddsOfMade
  rw [show f_X2_oddsOfMade_5 (nI i) w (nI (dc v)) N (0 : Int64) (0 : Int32) = some (lN (mdW v i (nn v))) from c_md5 hv hw hi (nn v) N 0 (by omega) (by omega), bd_s]
theorem m_md34 {v : Nat → Nat} {W : Nat → Int64} (hv : Vd v) (hw : MW v W) {i : Nat} (hi : i < 6) : ∀ d f k, k + d = nn v → d < f → f_X8_ask_34 (nI i) (nI (dc v)) W f (lN (mdW v i k)) (nI k) = some (lN (mdW v i (nn v)))
  | 0, f, k, hk, hf => by
    have h64 := nn_le hv
    cases f with
    | zero => omega
    | succ f =>
      unfold f_X8_ask_34
      rw [n_there hv, bd_s, if_pos (nI_le (by omega) (by omega)), show k = nn v by omega]
  | d + 1, f, k, hk, hf => by
    have h64 := nn_le hv
    have hwk := wt_le hv k
    cases f with
    | zero => omega
    | succ f =>
      have ih := m_md34 hv hw hi d f (k + 1) (by omega) (by omega)
      unfold f_X8_ask_34
      rw [n_there hv, bd_s, if_neg (nI_ge (by omega) (by omega)), ← ih, mdW_s, show (31 : Int32) = nI 31 from rfl, show (1 : Int32) = nI 1 from rfl, nI_31 (by omega), nI_bit (by omega) (by omega), gd_ix (by omega) (by decide), nI_clamp (by omega), hw k (by omega), nI_add]
      cases k.testBit i
      · rw [if_neg (by decide), bd_s, if_neg (by decide), show (0 : Int64) = lN 0 from rfl, lN_add]
      · rw [if_pos (by decide), bd_s, if_pos rfl, lN_add]
def gtr (v : Nat → Nat) (i : Nat) : Nat := if alW v - mdW v i (nn v) < mdW v i (nn v) then mdW v i (nn v) else alW v - mdW v i (nn v)
theorem gtr_I {v : Nat → Nat} (hv : Vd v) (i : Nat) : (if (lN (alW v) - lN (mdW v i (nn v))) < lN (mdW v i (nn v)) then lN (mdW v i (nn v)) else (lN (alW v) - lN (mdW v i (nn v)))) = lN (gtr v i) := by
  have h1 := alW_le hv
  have h2 : mdW v i (nn v) ≤ alW v := mdW_le v i (nn v)
  rw [lN_sub h2]
  unfold gtr
  by_cases q : alW v - mdW v i (nn v) < mdW v i (nn v)
  · rw [if_pos ((pk_lLT (by omega) (by omega)).mpr q), if_pos q]
  · rw [if_neg (fun z => q ((pk_lLT (by omega) (by omega)).mp z)), if_neg q]
theorem gtr_le {v : Nat → Nat} (hv : Vd v) (i : Nat) : gtr v i ≤ 64000000 := by
  have h1 := alW_le hv
  have h2 : mdW v i (nn v) ≤ alW v := mdW_le v i (nn v)
  unfold gtr; split <;> omega
/-- the doubt to ask of, among the first k -/
def akB (v : Nat → Nat) : Nat → Option (Nat × Nat)
  | 0 => none
  | k + 1 => match akB v k with
    | none => some (dh v k, gtr v k)
    | some (b, l) => if gtr v k < l then some (dh v k, gtr v k) else some (b, l)
theorem akB_bd {v : Nat → Nat} (hv : Vd v) : ∀ k b l, k ≤ dc v → akB v k = some (b, l) → b < v 3 ∧ l ≤ 64000000
  | 0, b, l, _, h => by cases h
  | k + 1, b, l, hk, h => by
    have h1 := (dh_is (v := v) (k := k) (by omega)).1
    have h2 := gtr_le hv k
    unfold akB at h
    cases hq : akB v k with
    | none => rw [hq] at h; cases h; exact ⟨h1, h2⟩
    | some x =>
      obtain ⟨b', l'⟩ := x
      rw [hq] at h
      have ih := akB_bd hv k b' l' (by omega) hq
      dsimp only at h
      split at h
      · cases h; exact ⟨h1, h2⟩
      · cases h; exact ih
def aI (x : Option (Nat × Nat)) : Int32 := match x with | none => -nI 1 | some (b, _) => nI b
def aL (x : Option (Nat × Nat)) : Int64 := match x with | none => lN 0 | some (_, l) => lN l
theorem c_ak13 {v : Nat → Nat} {w doubts : Nat → Int32} (hv : Vd v) (hw : CW v w) (hd : ∀ k, k < dc v → doubts k = nI (dh v k)) {N : Nat} (hN : 2000 ≤ N) {n : Nat} (hn : lkl v = some n) : ∀ d f k, k + d = dc v → d < f → f_X2_mostOpenDoubt_13 N (lN (alW v)) doubts w (nI (dc v)) (nI n) f (aI (akB v k)) (aL (akB v k)) (nI k) = some (aI (akB v (dc v)))
  | 0, f, k, hk, hf => by
    have h6 := vd_dc hv
    cases f with
    | zero => omega
    | succ f =>
      unfold f_X2_mostOpenDoubt_13
      rw [if_pos (nI_le (by omega) (by omega)), show k = dc v by omega]
  | d + 1, f, k, hk, hf => by
    have h6 := vd_dc hv
    have h3 := vd_3 hv
    have es : f_X2_someHolds (nI n) = some (b2 true) := by have := c_some hv; rw [hn] at this; exact this
    have hg := gtr_le hv k
    cases f with
    | zero => omega
    | succ f =>
      have ih := c_ak13 hv hw hd hN hn d f (k + 1) (by omega) (by omega)
      unfold f_X2_mostOpenDoubt_13
      rw [if_neg (nI_ge (by omega) (by omega)), es, bd_s, if_neg (show ¬ b2 true = 0 by decide), c_made hv hw hN (by omega), bd_s, gtr_I hv, gd_ix (by omega) (by decide), nI_clamp (by omega), hd k (by omega), nI_1, ← ih, show (-1 : Int32) = -nI 1 from rfl]
      have e1 : akB v (k + 1) = match akB v k with | none => some (dh v k, gtr v k) | some (b, l) => if gtr v k < l then some (dh v k, gtr v k) else some (b, l) := rfl
      rw [e1]
      cases hq : akB v k with
      | none => rw [show aI none = -nI 1 from rfl, if_pos rfl, bd_s]; rfl
      | some x =>
        obtain ⟨b, l⟩ := x
        obtain ⟨hb, hl⟩ := akB_bd hv k b l (by omega) hq
        rw [show aI (some (b, l)) = nI b from rfl, show aL (some (b, l)) = lN l from rfl, if_neg (by rw [nI_nm1 (by omega)]; exact id)]
        dsimp only
        by_cases q : gtr v k < l
        · rw [if_neg (show ¬ (0 : Int32) ≤ lg_cmp (lN (gtr v k)) (lN l) from fun z => by have := (pk_lLE (by omega) (by omega)).mp ((lg_cmp_ge _ _).mp z); omega), if_pos q, bd_s]; rfl
        · rw [if_pos (show (0 : Int32) ≤ lg_cmp (lN (gtr v k)) (lN l) from (lg_cmp_ge _ _).mpr ((pk_lLE (by omega) (by omega)).mpr (by omega))), if_neg q, bd_s]; rfl
theorem m_ak13 {v : Nat → Nat} {W : Nat → Int64} {doubts : Nat → Int32} (hv : Vd v) (hw : MW v W) (hd : ∀ k, k < dc v → doubts k = nI (dh v k)) {N : Nat} (hN : 2000 ≤ N) (ha : 0 < alW v) : ∀ d f k, k + d = dc v → d < f → f_X8_ask_13 N (lN (alW v)) doubts (nI (dc v)) W f (aI (akB v k)) (aL (akB v k)) (nI k) = some (aI (akB v (dc v)))
  | 0, f, k, hk, hf => by
    have h6 := vd_dc hv
    cases f with
    | zero => omega
    | succ f =>
      unfold f_X8_ask_13
      rw [if_pos (nI_le (by omega) (by omega)), show k = dc v by omega]
  | d + 1, f, k, hk, hf => by
    have h6 := vd_dc hv
    have h3 := vd_3 hv
    have h64 := nn_le hv
    have hal := alW_le hv
    have hg := gtr_le hv k
    cases f with
    | zero => omega
    | succ f =>
      have ih := m_ak13 hv hw hd hN ha d f (k + 1) (by omega) (by omega)
      have e2 : f_X8_ask_34 (nI k) (nI (dc v)) W N (lN 0) (nI 0) = some (lN (mdW v k (nn v))) := m_md34 hv hw (by omega) (nn v) N 0 (by omega) (by omega)
      unfold f_X8_ask_13
      rw [if_neg (nI_ge (by omega) (by omega)), show (0 : Int64) = lN 0 from rfl, show (0 : Int32) = nI 0 from rfl, if_neg (by rw [lgc_le (by omega)]; omega), e2, bd_s, gtr_I hv, gd_ix (by omega) (by decide), nI_clamp (by omega), hd k (by omega), nI_1, ← ih]
      have e1 : akB v (k + 1) = match akB v k with | none => some (dh v k, gtr v k) | some (b, l) => if gtr v k < l then some (dh v k, gtr v k) else some (b, l) := rfl
      rw [e1]
      cases hq : akB v k with
      | none => rw [show aI none = -nI 1 from rfl, if_pos (by decide), bd_s]; rfl
      | some x =>
        obtain ⟨b, l⟩ := x
        obtain ⟨hb, hl⟩ := akB_bd hv k b l (by omega) hq
        rw [show aI (some (b, l)) = nI b from rfl, show aL (some (b, l)) = lN l from rfl, if_neg (show ¬ nI b < nI 0 from nI_pos (by omega))]
        dsimp only
        by_cases q : gtr v k < l
        · rw [if_neg (show ¬ nI 0 ≤ lg_cmp (lN (gtr v k)) (lN l) from fun z => by have := (pk_lLE (by omega) (by omega)).mp ((lg_cmp_ge _ _).mp z); omega), if_pos q, bd_s]; rfl
        · rw [if_pos (show nI 0 ≤ lg_cmp (lN (gtr v k)) (lN l) from (lg_cmp_ge _ _).mpr ((pk_lLE (by omega) (by omega)).mpr (by omega))), if_neg q, bd_s]; rfl
theorem bst_none {v : Nat → Nat} : ∀ k, bst v k = none → smn (wt v) k = 0
  | 0, _ => rfl
  | k + 1, h => by
    unfold bst at h
    cases hq : bst v k with
    | none =>
      rw [hq] at h
      have ih := bst_none k hq
      by_cases q : 0 < wt v k
      · rw [if_pos (show 0 < wt v k from q)] at h; cases h
      · show smn (wt v) k + wt v k = 0
        omega
    | some b =>
      rw [hq] at h
      by_cases q : wt v b < wt v k
      · rw [if_pos (show wt v b < wt v k from q)] at h; cases h
      · rw [if_neg (show ¬ wt v b < wt v k from q)] at h; cases h
theorem sm_pos {g : Nat → Nat} {b : Nat} (hb : 0 < g b) : ∀ k, b < k → 0 < smn g k
  | 0, h => absurd h (Nat.not_lt_zero _)
  | k + 1, h => by
    show 0 < smn g k + g k
    by_cases q : b = k
    · rw [← q]; omega
    · have := sm_pos hb k (by omega); omega
set_option maxHeartbeats 16000000 in
theorem op_ask {N : Nat} (hN : 2000 ≤ N) : Op_ask Rl N := by
  intro C_isKept C_l_bsize C_l_bcells C_l_ssize C_l_scells C_l_dsize C_l_dcells C_l_people C_l_rule C_l_believed C_k_bsize C_k_bcells C_k_ssize C_k_scells C_k_dsize C_k_dcells C_k_people C_k_rule C_k_believed C_d_bsize C_d_bcells C_d_ssize C_d_scells C_d_dsize C_d_dcells C_d_people C_d_rule C_d_believed C_order C_stepsAt C_doubts C_weights C_rows C_metEver C_bowedTo C_isStale C_bowCount C_doubtCount C_seenBows C_likeliest C_mostSayingsSo C_doers C_isTelling C_tbytes C_tlen C_token C_place C_behindIt C_value C_sa_nums C_sa_bits C_sa_len C_sb_nums C_sb_bits C_sb_len C_sc_nums C_sc_bits C_sc_len C_sd_nums C_sd_bits C_sd_len C_findings M_now M_kept M_isKept M_found M_order M_doubts M_doubtMany M_weights M_worn M_pairs M_isTwice M_doer M_doneTo M_doers M_tape M_taped M_begins M_ends M_sort M_value M_isWrong M_items M_itemMany M_bowThen M_doubtThen M_deedThen M_sayingThen M_widths M_sizes M_numbers M_moved  hR 
  obtain ⟨v, e, hv, he, hm, hd, hl, hs, ht, hk0, hk1, hk2, hf, hp, sa, sb, sc, sd⟩ := hR
  obtain ⟨rfl, hlb, rfl, hls, rfl, hld, rfl, rfl, rfl⟩ := hl
  have h3 := vd_3 hv
  have h6 := vd_dc hv
  obtain ⟨o_, s_, d_, w_, r_, m_, b_, k_, n_, q_, l_, x_, ef, tb⟩ := c_look hlb hls hv hN C_order C_stepsAt C_doubts C_weights C_rows C_metEver C_bowedTo C_isStale C_bowCount C_doubtCount C_seenBows C_likeliest C_mostSayingsSo hs ht
  have tbb := tb
  obtain ⟨tb1, tb2, rfl, tb4, rfl, tb6, tb7, tb8, rfl, rfl⟩ := tb
  obtain ⟨mo, md, mw, mwo, mp, mt, em, ml, mW⟩ := m_weigh hm hv hN M_order M_doubts M_doubtMany M_weights M_worn M_pairs M_isTwice
  have hal := alW_le hv
  cases hk : lkl v with
  | none =>
    have ha : alW v = 0 := bst_none (nn v) hk
    have es : f_X2_someHolds (-nI 1) = some (b2 false) := by have := c_some hv; rw [hk] at this; exact this
    have e1 : f_X2_mostOpenDoubt N d_ w_ (nI (dc v)) (-nI 1) = some (-nI 1) := by
      unfold f_X2_mostOpenDoubt
      rw [c_all hv tb6 hN, bd_s]
      obtain ⟨N', hN'⟩ : ∃ N', N = N' + 1 := ⟨N - 1, by omega⟩
      have : ∀ M x y z, f_X2_mostOpenDoubt_13 M x d_ w_ (nI (dc v)) (-nI 1) N (-1 : Int32) y z = some (-nI 1) := fun M x y z => by
        rw [hN']
        unfold f_X2_mostOpenDoubt_13
        by_cases q : nI (dc v) ≤ z
        · rw [if_pos q]; rfl
        · rw [if_neg q, es, bd_s, if_pos (show b2 false = 0 by decide)]; rfl
      rw [this, bd_s]
    have e2 : f_X8_ask_13 N (lN (alW v)) md (nI (dc v)) mw N (-nI 1) (lN 0) (nI 0) = some (-nI 1) := by
      obtain ⟨N', hN'⟩ : ∃ N', N = N' + 1 := ⟨N - 1, by omega⟩
      have : ∀ M, f_X8_ask_13 M (lN (alW v)) md (nI (dc v)) mw N (-nI 1) (lN 0) (nI 0) = some (-nI 1) := fun M => by
        rw [hN', ha]
        unfold f_X8_ask_13
        by_cases q : nI (dc v) ≤ nI 0
        · rw [if_pos q]
        · rw [if_neg q, if_pos (by decide)]
      exact this N
    have hz : ¬ nI 0 ≤ -nI 1 := by decide
    rw [hk] at ef
    simp only [f_X7_ask, f_X8_ask, lit32, litL, ef, em, bd_s, show lkI none = -nI 1 from rfl, e1, e2, hz, ↓reduceIte, f_X7_orNone, cN, mN]
    rw [hk] at tbb
    refine ⟨_, _, rfl, rfl, rfl, ?_⟩; exact ⟨v, e, hv, he, hm, hd, ⟨rfl, hlb, rfl, hls, rfl, hld, rfl, rfl, rfl⟩, Or.inl rfl, fun _ => tbb, hk0, hk1, hk2, (rf_step hf 3 (by decide)), hp, sa, sb, sc, sd⟩
  | some n =>
    have ha : 0 < alW v := sm_pos (lkl_pos hk) (nn v) (lkl_lt hk)
    have e1 : f_X2_mostOpenDoubt N d_ w_ (nI (dc v)) (nI n) = some (aI (akB v (dc v))) := by
      unfold f_X2_mostOpenDoubt
      rw [c_all hv tb6 hN, bd_s]
      rw [show f_X2_mostOpenDoubt_13 N (lN (alW v)) d_ w_ (nI (dc v)) (nI n) N (-1 : Int32) (0 : Int64) (0 : Int32) = some (aI (akB v (dc v))) from c_ak13 hv tb6 tb4 hN hk (dc v) N 0 (by omega) (by omega), bd_s]
    have e2 : f_X8_ask_13 N (lN (alW v)) md (nI (dc v)) mw N (-nI 1) (lN 0) (nI 0) = some (aI (akB v (dc v))) := m_ak13 hv mW ml.2.2 hN ha (dc v) N 0 (by omega) (by omega)
    rw [hk] at ef
    cases hq : akB v (dc v) with
    | none =>
      have hz : ¬ nI 0 ≤ -nI 1 := by decide
      rw [hq] at e1 e2
      simp only [f_X7_ask, f_X8_ask, lit32, litL, ef, em, bd_s, show lkI (some n) = nI n from rfl, e1, e2, show aI none = -nI 1 from rfl, hz, ↓reduceIte, f_X7_orNone, cN, mN]
      rw [hk] at tbb
      refine ⟨_, _, rfl, rfl, rfl, ?_⟩; exact ⟨v, e, hv, he, hm, hd, ⟨rfl, hlb, rfl, hls, rfl, hld, rfl, rfl, rfl⟩, Or.inl rfl, fun _ => tbb, hk0, hk1, hk2, (rf_step hf 3 (by decide)), hp, sa, sb, sc, sd⟩
    | some x =>
      obtain ⟨b, l⟩ := x
      obtain ⟨hb, hl⟩ := akB_bd hv (dc v) b l (Nat.le_refl _) hq
      have hz : nI 0 ≤ nI b := nI_pos' (by omega)
      have hnm := nI_nm1 (show b < 2 ^ 31 by omega)
      rw [hq] at e1 e2
      simp only [f_X7_ask, f_X8_ask, lit32, litL, ef, em, bd_s, show lkI (some n) = nI n from rfl, e1, e2, show aI (some (b, l)) = nI b from rfl, hz, hnm, ↓reduceIte, f_X7_orNone]
      rw [hk] at tbb
      refine ⟨_, _, rfl, rfl, rfl, ?_⟩; exact ⟨v, e, hv, he, hm, hd, ⟨rfl, hlb, rfl, hls, rfl, hld, rfl, rfl, rfl⟩, Or.inl rfl, fun _ => tbb, hk0, hk1, hk2, hf, hp, sa, sb, sc, sd⟩
