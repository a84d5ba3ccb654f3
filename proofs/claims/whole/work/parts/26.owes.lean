/-! ===== owes, owesTo, bound ===== -/
def pay (e : Nat → Nat) (d : Nat) : Int32 := payI (e (5 * d + 0)) (e (5 * d + 4))
theorem smL_add (f g : Nat → Int64) : ∀ k, smL (fun n => f n + g n) k = smL f k + smL g k
  | 0 => rfl
  | k + 1 => by
    show smL (fun n => f n + g n) k + (f k + g k) = (smL f k + f k) + (smL g k + g k)
    rw [smL_add f g k]; ac_rfl
theorem smL_0 : ∀ k, smL (fun _ => lN 0) k = lN 0
  | 0 => rfl
  | k + 1 => by show smL (fun _ => lN 0) k + lN 0 = lN 0; rw [smL_0 k]; rfl
theorem smL_swap (G : Nat → Nat → Int64) (D : Nat) : ∀ K, smL (fun n => smL (fun d => G n d) D) K = smL (fun d => smL (fun n => G n d) K) D
  | 0 => (smL_0 D).symm
  | K + 1 => by
    show smL (fun n => smL (fun d => G n d) D) K + smL (fun d => G K d) D = smL (fun d => smL (fun n => G n d) K + G K d) D
    rw [smL_swap G D K, smL_add]
theorem t_ring (a b c d p : Int64) : p * (a - b) + p * (c - d) = p * ((a + c) - (b + d)) := by grind
theorem smL_mul (f g : Nat → Int64) (p : Int64) : ∀ k, smL (fun n => p * (f n - g n)) k = p * (smL f k - smL g k)
  | 0 => by show lN 0 = p * (lN 0 - lN 0); have : lN 0 = (0 : Int64) := rfl; rw [this]; grind
  | k + 1 => by
    show smL (fun n => p * (f n - g n)) k + p * (f k - g k) = p * ((smL f k + f k) - (smL g k + g k))
    rw [smL_mul f g p k, t_ring]
theorem smL_cg {f g : Nat → Int64} : ∀ k, (∀ j, j < k → f j = g j) → smL f k = smL g k
  | 0, _ => rfl
  | k + 1, h => by
    show smL f k + f k = smL g k + g k
    rw [smL_cg k (fun j hj => h j (by omega)), h k (by omega)]
theorem t_assoc (a b c : Int64) : a + b + c = a + (b + c) := by grind
theorem c_payd {v e : Nat → Nat} {cells : Nat → Int32} (he : Ve v e) (h : ∀ j, j < 60 → cells j = nI (e j)) {d : Nat} (hd : d < e 60) : f_X1_paysOf (nI (e 60)) cells (nI d) = some (pay e d) := by
  have := he.2 d hd
  exact c_pays h he.1 hd (by omega) (by omega)
theorem m_payd {v e : Nat → Nat} {now : Nat → Int32} (he : Ve v e) (h : RE e now) {d : Nat} (hd : d < e 60) : f_X8_pays now (nI d) = some (pay e d) := m_pays h he.1 hd
/-- what a person owes by one deed in all nights -/
def owD (v e : Nat → Nat) (p d : Nat) : Int64 := (pay e d).toInt64 * (lN (odS v (e (5 * d + 2)) p (e (5 * d + 1)) (nn v)) - lN (odS v (e (5 * d + 3)) p (e (5 * d + 1)) (nn v)))
def way (v e : Nat → Nat) (p n d : Nat) : Int32 := if dDo v e n d = p then nI 1 else if dTo v e n d = p then -nI 1 else nI 0
def owG (v e : Nat → Nat) (p n d : Nat) : Int64 := (way v e p n d).toInt64 * lN (wt v n) * (pay e d).toInt64
theorem t_1 (w p : Int64) : (nI 1).toInt64 * w * p = p * (w - lN 0) := by
  have h1 : (nI 1).toInt64 = 1 := by decide
  have h2 : lN 0 = 0 := rfl
  rw [h1, h2]; grind
theorem t_2 (w p : Int64) : (-nI 1).toInt64 * w * p = p * (lN 0 - w) := by
  have h1 : (-nI 1).toInt64 = -1 := by decide
  have h2 : lN 0 = 0 := rfl
  rw [h1, h2]; grind
theorem t_3 (w p : Int64) : (nI 0).toInt64 * w * p = p * (lN 0 - lN 0) := by
  have h1 : (nI 0).toInt64 = 0 := by decide
  have h2 : lN 0 = 0 := rfl
  rw [h1, h2]; grind
theorem owG_D {v e : Nat → Nat} (hv : Vd v) (he : Ve v e) (p : Nat) {d : Nat} (hd : d < e 60) : smL (fun n => owG v e p n d) (nn v) = owD v e p d := by
  have e1 : ∀ n, owG v e p n d = (pay e d).toInt64 * (lN (if dDo v e n d = p then wt v n else 0) - lN (if dTo v e n d = p then wt v n else 0)) := fun n => by
    have hne := dDo_ne (n := n) hv he hd
    unfold owG way
    by_cases q1 : dDo v e n d = p
    · have q2 : ¬ dTo v e n d = p := fun z => hne (q1.trans z.symm)
      rw [if_pos q1, if_pos q1, if_neg q2, t_1]
    · by_cases q2 : dTo v e n d = p
      · rw [if_neg q1, if_pos q2, if_neg q1, if_pos q2, t_2]
      · rw [if_neg q1, if_neg q2, if_neg q1, if_neg q2, t_3]
  rw [smL_cg (nn v) (fun n _ => e1 n), smL_mul (fun n => lN (if dDo v e n d = p then wt v n else 0)) (fun n => lN (if dTo v e n d = p then wt v n else 0)), smL_lN, smL_lN]
  rfl
theorem c_ow5 {v e : Nat → Nat} {cells stepsAt w rows : Nat → Int32} (hv : Vd v) (he : Ve v e) (h : ∀ j, j < 60 → cells j = nI (e j)) (hs : ∀ h, h < 100 → stepsAt h = nI (sts v h)) (hw : CW v w) (hR : ∀ n, n < nn v → 0 < wgt v n → RR v rows n (v 3)) {p N : Nat} (hN : 2000 ≤ N) (hp : p < 8) : ∀ d f k, k + d = e 60 → d < f → f_X1_owedInAllBy_5 N (nI p) stepsAt w rows (nI (dc v)) (nI (e 60)) cells f (smL (owD v e p) k) (nI k) = some (smL (owD v e p) (e 60))
  | 0, f, k, hk, hf => by
    have h60 := he.1
    cases f with
    | zero => omega
    | succ f =>
      unfold f_X1_owedInAllBy_5 f_X4_size
      rw [bd_s, if_pos (nI_le (by omega) (by omega)), show k = e 60 by omega]
  | d + 1, f, k, hk, hf => by
    have h60 := he.1
    have h8 := vd_hi hv
    obtain ⟨x0, x1, x2, x3, x4, x5⟩ := he.2 k (by omega)
    cases f with
    | zero => omega
    | succ f =>
      have ih := c_ow5 hv he h hs hw hR hN hp d f (k + 1) (by omega) (by omega)
      unfold f_X1_owedInAllBy_5 f_X4_size
      rw [bd_s, if_neg (nI_ge (by omega) (by omega)), show (1 : Int32) = nI 1 from rfl, show (2 : Int32) = nI 2 from rfl, show (3 : Int32) = nI 3 from rfl, c_part h h60 (by omega) (by decide), bd_s, c_part h h60 (by omega) (by decide), bd_s, c_od hv hs hw hR hN (by omega) hp x1, bd_s, c_part h h60 (by omega) (by decide), bd_s, c_od hv hs hw hR hN (by omega) hp x1, bd_s, c_payd he h (by omega), bd_s, nI_add]
      exact ih
theorem m_ow44 {v e : Nat → Nat} {now : Nat → Int32} (hd : RE e now) (hv : Vd v) (he : Ve v e) {W : Nat → Int64} (hw : MW v W) {p n : Nat} (hp : p < 8) (hn : n < nn v) {A B : Nat → Int32} (hA : ∀ j, j < e 60 → A j = nI (dDo v e n j) ∧ B j = nI (dTo v e n j)) (x : Int64) : ∀ d f k, k + d = e 60 → d < f → f_X8_owes_44 (nI p) (nI n) now W A B f (x + smL (owG v e p n) k) (nI k) = some (x + smL (owG v e p n) (e 60))
  | 0, f, k, hk, hf => by
    have h60 := he.1
    cases f with
    | zero => omega
    | succ f =>
      unfold f_X8_owes_44
      rw [show (4 : Int32).toNatClampNeg = 4 from rfl, hd.1, if_pos (nI_le (by omega) (by omega)), show k = e 60 by omega]
  | d + 1, f, k, hk, hf => by
    have h60 := he.1
    have h64 := nn_le hv
    have la := dDo_lt (n := n) (d := k) hv he (by omega)
    have lb := dTo_lt (n := n) (d := k) hv he (by omega)
    cases f with
    | zero => omega
    | succ f =>
      have ih := m_ow44 hd hv he hw hp hn hA x d f (k + 1) (by omega) (by omega)
      unfold f_X8_owes_44
      rw [show (4 : Int32).toNatClampNeg = 4 from rfl, hd.1, if_neg (nI_ge (by omega) (by omega)), gd_ix (by omega) (by decide), nI_clamp (by omega)]
      simp only [(hA k (by omega)).1, (hA k (by omega)).2]
      have ew : (if nI (dDo v e n k) = nI p then some (1 : Int32) else if nI (dTo v e n k) = nI p then some (-1) else some 0) = some (way v e p n k) := by
        unfold way
        by_cases q1 : dDo v e n k = p
        · rw [if_pos (by rw [q1]), if_pos q1]; rfl
        · rw [if_neg (fun z => q1 ((nI_eq (by omega) (by omega)).mp z)), if_neg q1]
          by_cases q2 : dTo v e n k = p
          · rw [if_pos (by rw [q2]), if_pos q2]; rfl
          · rw [if_neg (fun z => q2 ((nI_eq (by omega) (by omega)).mp z)), if_neg q2]; rfl
      rw [ew, bd_s, gd_ix (by omega) (by decide), nI_clamp (by omega), hw n hn, m_payd he hd (by omega), bd_s, nI_1, t_assoc]
      exact ih
theorem m_ow26 {v e : Nat → Nat} {now : Nat → Int32} (h : RN v now) (hd : RE e now) (hv : Vd v) (he : Ve v e) {N : Nat} (hN : 2000 ≤ N) {order doubts : Nat → Int32} {W : Nat → Int64} (hl : ML v order doubts (nI (dc v))) (hw : MW v W) {pp : Nat} (hp : pp < 8) : ∀ d f k (worn : Nat → Int32) (pairs : Int64) (tw : Int32) (doer doneTo : Nat → Int32), k + d = nn v → d < f →
    ∃ w p t A B, f_X8_owes_26 N (nI pp) now order doubts (nI (dc v)) W f (smL (fun n => smL (owG v e pp n) (e 60)) k) (nI k) worn pairs tw doer doneTo = some (smL (fun n => smL (owG v e pp n) (e 60)) (nn v), w, p, t, A, B)
  | 0, f, k, worn, pairs, tw, doer, doneTo, hk, hf => by
    have h64 := nn_le hv
    cases f with
    | zero => omega
    | succ f =>
      refine ⟨worn, pairs, tw, doer, doneTo, ?_⟩
      unfold f_X8_owes_26
      rw [n_there hv, bd_s, if_pos (nI_le (by omega) (by omega)), show k = nn v by omega]
  | d + 1, f, k, worn, pairs, tw, doer, doneTo, hk, hf => by
    have h64 := nn_le hv
    have h60 := he.1
    cases f with
    | zero => omega
    | succ f =>
      obtain ⟨w1, p1, t1, A1, B1, e1, e2⟩ := m_doers h hd hv he hN hl (n := k) (by omega) worn pairs tw doer doneTo
      obtain ⟨w, p, t, A, B, g⟩ := m_ow26 h hd hv he hN hl hw hp d f (k + 1) w1 p1 t1 A1 B1 (by omega) (by omega)
      refine ⟨w, p, t, A, B, ?_⟩
      have e3 := m_ow44 hd hv he hw hp (n := k) (by omega) e2 (smL (fun n => smL (owG v e pp n) (e 60)) k) (e 60) N 0 (by omega) (by omega)
      rw [show smL (owG v e pp k) 0 = 0 from rfl, Int64.add_zero] at e3
      unfold f_X8_owes_26
      rw [n_there hv, bd_s, if_neg (nI_ge (by omega) (by omega)), e1, bd_s]
      dsimp only
      rw [show (0 : Int32) = nI 0 from rfl, e3, bd_s, nI_1]
      exact g
set_option maxHeartbeats 16000000 in
theorem op_owes {N : Nat} (hN : 2000 ≤ N) : Op_owes Rl N := by
  intro C_isKept C_l_bsize C_l_bcells C_l_ssize C_l_scells C_l_dsize C_l_dcells C_l_people C_l_rule C_l_believed C_k_bsize C_k_bcells C_k_ssize C_k_scells C_k_dsize C_k_dcells C_k_people C_k_rule C_k_believed C_d_bsize C_d_bcells C_d_ssize C_d_scells C_d_dsize C_d_dcells C_d_people C_d_rule C_d_believed C_order C_stepsAt C_doubts C_weights C_rows C_metEver C_bowedTo C_isStale C_bowCount C_doubtCount C_seenBows C_likeliest C_mostSayingsSo C_doers C_isTelling C_tbytes C_tlen C_token C_place C_behindIt C_value C_sa_nums C_sa_bits C_sa_len C_sb_nums C_sb_bits C_sb_len C_sc_nums C_sc_bits C_sc_len C_sd_nums C_sd_bits C_sd_len C_findings M_now M_kept M_isKept M_found M_order M_doubts M_doubtMany M_weights M_worn M_pairs M_isTwice M_doer M_doneTo M_doers M_tape M_taped M_begins M_ends M_sort M_value M_isWrong M_items M_itemMany M_bowThen M_doubtThen M_deedThen M_sayingThen M_widths M_sizes M_numbers M_moved a1 hR 
  obtain ⟨v, e, hv, he, hm, hd, hl, hs, ht, hk0, hk1, hk2, hf, hp, sa, sb, sc, sd⟩ := hR
  obtain ⟨rfl, hlb, rfl, hls, rfl, hld, rfl, rfl, rfl⟩ := hl
  have h8 := vd_hi hv
  have h64 := nn_le hv
  have h60 := he.1
  by_cases h1 : inr a1 (v 0) = true
  · obtain ⟨p, hp8, rfl⟩ := inr_t (by omega) h1
    obtain ⟨o_, s_, d_, w_, r_, m_, b_, k_, n_, q_, l_, x_, ef, tb⟩ := c_look hlb hls hv hN C_order C_stepsAt C_doubts C_weights C_rows C_metEver C_bowedTo C_isStale C_bowCount C_doubtCount C_seenBows C_likeliest C_mostSayingsSo hs ht
    have tbb := tb
    obtain ⟨tb1, tb2, rfl, tb4, rfl, tb6, tb7, tb8, rfl, rfl⟩ := tb
    obtain ⟨mo, md, mw, mwo, mp, mt, em, ml, mW⟩ := m_weigh hm hv hN M_order M_doubts M_doubtMany M_weights M_worn M_pairs M_isTwice
    obtain ⟨w2, p2, t2, A, B, g⟩ := m_ow26 hm hd hv he hN ml mW (pp := p) (by omega) (nn v) N 0 mwo mp mt M_doer M_doneTo (by omega) (by omega)
    rw [smL_swap (owG v e p) (e 60) (nn v), smL_cg (e 60) (fun d hd => owG_D hv he p hd)] at g
    have g' : f_X8_owes_26 N (nI p) M_now mo md (nI (dc v)) mw N (lN 0) (nI 0) mwo mp mt M_doer M_doneTo = some (smL (owD v e p) (e 60), w2, p2, t2, A, B) := g
    have e1 : f_X1_owedInAllBy N s_ w_ r_ (nI (dc v)) (nI (e 60)) C_l_dcells (nI p) = some (smL (owD v e p) (e 60)) := by
      unfold f_X1_owedInAllBy
      rw [show f_X1_owedInAllBy_5 N (nI p) s_ w_ r_ (nI (dc v)) (nI (e 60)) C_l_dcells N (0 : Int64) (0 : Int32) = some (smL (owD v e p) (e 60)) from c_ow5 hv he hld tb2 tb6 tb7 hN (by omega) (e 60) N 0 (by omega) (by omega), bd_s]
    simp (disch := omega) only [f_X7_owes, f_X8_owes, bd_s, gd_tt, jn_s, lit32, gd_ix, nI_clamp, nI_add, pk_mul, nI_leI, nI_ltI, nI_eq, b2_0n, ite_f, ↓reduceIte, Bool.false_eq_true, Bool.true_eq_false, Nat.not_lt_zero, isb_b2, c_has, c_isHour, c_isKind, c_isPerson, m_isHour, m_isKind, m_isSheet, m_w, c_rN, c_rN2, cB, cF, cK, cN, cS, cM, cZ, mB, mF, mK, mN, mS, mM, mZ, litL, h1, m_isOne hm hv, ef, em, e1, g']
    refine ⟨_, _, rfl, rfl, rfl, ?_⟩; exact ⟨v, e, hv, he, hm, hd, ⟨rfl, hlb, rfl, hls, rfl, hld, rfl, rfl, rfl⟩, Or.inl rfl, fun _ => tbb, hk0, hk1, hk2, hf, hp, sa, sb, sc, sd⟩
  · have h1 := inr_fp h1
    simp (disch := omega) only [f_X7_owes, f_X8_owes, bd_s, gd_tt, jn_s, lit32, gd_ix, nI_clamp, nI_add, pk_mul, nI_leI, nI_ltI, nI_eq, b2_0n, ite_f, ↓reduceIte, Bool.false_eq_true, Bool.true_eq_false, Nat.not_lt_zero, isb_b2, c_has, c_isHour, c_isKind, c_isPerson, m_isHour, m_isKind, m_isSheet, m_w, c_rN, c_rN2, cB, cF, cK, cN, cS, cM, cZ, mB, mF, mK, mN, mS, mM, mZ, h1, m_isOne hm hv]
    refine ⟨_, _, rfl, rfl, rfl, ?_⟩; exact ⟨v, e, hv, he, hm, hd, ⟨rfl, hlb, rfl, hls, rfl, hld, rfl, rfl, rfl⟩, hs, ht, hk0, hk1, hk2, (rf_step hf 0 (by decide)), hp, sa, sb, sc, sd⟩
/-! between two -/
def btw (v e : Nat → Nat) (n d a b : Nat) : Bool := decide (dDo v e n d = a) && decide (dTo v e n d = b)
theorem c_btw {v e : Nat → Nat} {cells stepsAt rows : Nat → Int32} (hv : Vd v) (he : Ve v e) (h : ∀ j, j < 60 → cells j = nI (e j)) (hs : ∀ h, h < 100 → stepsAt h = nI (sts v h)) {n d a b : Nat} (hn : n < 64) (hR : RR v rows n (v 3)) (hd : d < e 60) (ha : a < 8) (hb : b < 8) : f_X1_isBetween stepsAt rows (nI (e 60)) cells (nI n) (nI d) (nI a) (nI b) = some (b2 (btw v e n d a b)) := by
  have h1 := he.2 d hd
  have h2 := vd_hi hv
  have la := dDo_lt (n := n) (d := d) hv he hd
  have lb := dTo_lt (n := n) (d := d) hv he hd
  unfold f_X1_isBetween
  rw [show (1 : Int32) = nI 1 from rfl, show (2 : Int32) = nI 2 from rfl, show (3 : Int32) = nI 3 from rfl, c_part h he.1 hd (by decide), bd_s, c_row hs hv hn h1.2.1, bd_s, c_part h he.1 hd (by decide), bd_s, c_wr hv hR (by omega), bd_s, c_part h he.1 hd (by decide), bd_s, c_wr hv hR (by omega), bd_s]
  unfold btw
  by_cases q1 : dDo v e n d = a
  · rw [if_pos (show nI (wr v n (e (5 * d + 1)) (e (5 * d + 2))) = nI a by rw [← q1]; rfl), decide_eq_true q1]
    by_cases q2 : dTo v e n d = b
    · rw [if_pos (show nI (wr v n (e (5 * d + 1)) (e (5 * d + 3))) = nI b by rw [← q2]; rfl), decide_eq_true q2]; rfl
    · rw [if_neg (show ¬ nI (wr v n (e (5 * d + 1)) (e (5 * d + 3))) = nI b from fun z => q2 ((nI_eq (a := dTo v e n d) (by omega) (by omega)).mp z)), decide_eq_false q2]; rfl
  · rw [if_neg (show ¬ nI (wr v n (e (5 * d + 1)) (e (5 * d + 2))) = nI a from fun z => q1 ((nI_eq (a := dDo v e n d) (by omega) (by omega)).mp z)), decide_eq_false q1]; rfl
def smI (g : Nat → Int32) : Nat → Int32
  | 0 => nI 0
  | k + 1 => smI g k + g k
def owN (v e : Nat → Nat) (n a b d : Nat) : Int32 := if btw v e n d a b = true then pay e d else if btw v e n d b a = true then -pay e d else nI 0
theorem t_sub (a b : Int32) : a - b = a + -b := by grind
theorem c_on6 {v e : Nat → Nat} {cells stepsAt rows : Nat → Int32} (hv : Vd v) (he : Ve v e) (h : ∀ j, j < 60 → cells j = nI (e j)) (hs : ∀ h, h < 100 → stepsAt h = nI (sts v h)) {n a b : Nat} (hn : n < 64) (hR : RR v rows n (v 3)) (ha : a < 8) (hb : b < 8) : ∀ d f k, k + d = e 60 → d < f → f_X1_owedInNight_6 (nI n) (nI a) (nI b) stepsAt rows (nI (e 60)) cells f (smI (owN v e n a b) k) (nI k) = some (smI (owN v e n a b) (e 60))
  | 0, f, k, hk, hf => by
    have h60 := he.1
    cases f with
    | zero => omega
    | succ f =>
      unfold f_X1_owedInNight_6 f_X4_size
      rw [bd_s, if_pos (nI_le (by omega) (by omega)), show k = e 60 by omega]
  | d + 1, f, k, hk, hf => by
    have h60 := he.1
    cases f with
    | zero => omega
    | succ f =>
      have ih := c_on6 hv he h hs hn hR ha hb d f (k + 1) (by omega) (by omega)
      unfold f_X1_owedInNight_6 f_X4_size
      rw [bd_s, if_neg (nI_ge (by omega) (by omega)), c_btw hv he h hs hn hR (by omega) ha hb, bd_s, c_btw hv he h hs hn hR (by omega) hb ha, bd_s, c_payd he h (by omega), bd_s, bd_s, ← ih]
      show _ = f_X1_owedInNight_6 (nI n) (nI a) (nI b) stepsAt rows (nI (e 60)) cells f (smI (owN v e n a b) k + owN v e n a b k) _
      unfold owN
      cases q1 : btw v e n k a b
      · cases q2 : btw v e n k b a
        · rw [if_pos (by decide), if_pos (by decide), bd_s, if_neg (by decide), if_neg (by decide), nI_1, show nI 0 = (0 : Int32) from rfl, Int32.add_zero]
        · rw [if_pos (by decide), if_neg (by decide), bd_s, if_neg (by decide), if_pos rfl, nI_1, t_sub]
      · rw [if_neg (by decide), bd_s, if_pos rfl, nI_1]
theorem m_ot43 {v e : Nat → Nat} {now : Nat → Int32} (hd : RE e now) (hv : Vd v) (he : Ve v e) {a b n : Nat} (ha : a < 8) (hb : b < 8) {A B : Nat → Int32} (hA : ∀ j, j < e 60 → A j = nI (dDo v e n j) ∧ B j = nI (dTo v e n j)) : ∀ d f k, k + d = e 60 → d < f → f_X8_owesTo_43 (nI a) (nI b) now A B f (smI (owN v e n a b) k) (nI k) = some (smI (owN v e n a b) (e 60))
  | 0, f, k, hk, hf => by
    have h60 := he.1
    cases f with
    | zero => omega
    | succ f =>
      unfold f_X8_owesTo_43
      rw [show (4 : Int32).toNatClampNeg = 4 from rfl, hd.1, if_pos (nI_le (by omega) (by omega)), show k = e 60 by omega]
  | d + 1, f, k, hk, hf => by
    have h60 := he.1
    have la := dDo_lt (n := n) (d := k) hv he (by omega)
    have lb := dTo_lt (n := n) (d := k) hv he (by omega)
    cases f with
    | zero => omega
    | succ f =>
      have ih := m_ot43 hd hv he ha hb hA d f (k + 1) (by omega) (by omega)
      unfold f_X8_owesTo_43
      rw [show (4 : Int32).toNatClampNeg = 4 from rfl, hd.1, if_neg (nI_ge (by omega) (by omega)), gd_ix (by omega) (by decide), nI_clamp (by omega), m_payd he hd (by omega), bd_s, bd_s, ← ih]
      simp (disch := omega) only [(hA k (by omega)).1, (hA k (by omega)).2, nI_eq]
      show _ = f_X8_owesTo_43 (nI a) (nI b) now A B f (smI (owN v e n a b) k + owN v e n a b k) _
      have ew : (if dDo v e n k = a then (if dTo v e n k = b then some (pay e k) else (if dDo v e n k = b then (if dTo v e n k = a then some (-pay e k) else some 0) else some 0)) else (if dDo v e n k = b then (if dTo v e n k = a then some (-pay e k) else some 0) else some 0)) = some (owN v e n a b k) := by
        unfold owN btw
        by_cases q1 : dDo v e n k = a <;> by_cases q2 : dTo v e n k = b <;> by_cases q3 : dDo v e n k = b <;> by_cases q4 : dTo v e n k = a <;> simp [q1, q2, q3, q4] <;> first | rfl | (simp_all <;> rfl) | simp_all
      rw [ew, bd_s, nI_1]
