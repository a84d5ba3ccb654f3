/-! ===== feed, lays ===== -/
theorem i32_nat (x : Int32) : x.toInt = (x.toBitVec.toNat : Int) ∨ x.toInt = (x.toBitVec.toNat : Int) - 4294967296 := by
  show x.toBitVec.toInt = _ ∨ x.toBitVec.toInt = _
  rw [BitVec.toInt_eq_toNat_cond]
  split
  · exact Or.inl rfl
  · exact Or.inr rfl
theorem fd_byte (x : Int32) {i : Nat} (hi : i < 4) : ∃ b : Nat, b < 256 ∧ (x.toUInt32 >>> ((nI 8 * nI i).toUInt32 &&& Int32.toUInt32 31)).toInt32 &&& nI 255 = nI b ∧ (x >>> ((nI 8 * nI i) &&& nI 31)) &&& nI 255 = nI b := by
  have hm : (nI 255).toBitVec.toNat = 2 ^ 8 - 1 := by decide
  have hx : x.toBitVec.toNat < 4294967296 := x.toBitVec.isLt
  refine ⟨x.toBitVec.toNat / 2 ^ (8 * i) % 2 ^ 8, Nat.mod_lt _ (by decide), ?_, ?_⟩
  · rw [pk_and _ 8 hm, pk_ushr x (nI 8 * nI i) (8 * i) (by
      have : ∀ i : Fin 4, (((nI 8 * nI i.val).toUInt32 &&& Int32.toUInt32 31).toBitVec % 32).toNat = 8 * i.val := by decide
      exact this ⟨i, hi⟩)]
  · rw [pk_and _ 8 hm]
    have h1 := pk_shr x ((nI 8 * nI i) &&& nI 31) (8 * i) (by
      have : ∀ i : Fin 4, (((nI 8 * nI i.val) &&& nI 31).toBitVec.smod 32).toNat = 8 * i.val := by decide
      exact this ⟨i, hi⟩)
    have h2 := i32_nat (x >>> ((nI 8 * nI i) &&& nI 31))
    have h3 := i32_nat x
    have h4 : (x >>> ((nI 8 * nI i) &&& nI 31)).toBitVec.toNat < 4294967296 := (x >>> ((nI 8 * nI i) &&& nI 31)).toBitVec.isLt
    rw [Int.shiftRight_eq_div_pow] at h1
    congr 1
    generalize (x >>> ((nI 8 * nI i) &&& nI 31)).toBitVec.toNat = T at *
    generalize (x >>> ((nI 8 * nI i) &&& nI 31)).toInt = R at *
    generalize x.toBitVec.toNat = n at *
    generalize x.toInt = z at *
    rcases (show i = 0 ∨ i = 1 ∨ i = 2 ∨ i = 3 by omega) with rfl | rfl | rfl | rfl <;> simp only [Nat.reduceMul, Nat.reducePow] at h1 ⊢ <;> omega
theorem fd_both (x : Int32) : ∀ k f (tb tp : Nat → Int32) (n : Nat) (t : Nat → Nat), k ≤ 4 → k < f → n + k ≤ 120 → (∀ j, j < n → t j < 256 ∧ tb j = nI (t j) ∧ tp j = nI (t j)) →
    ∃ (tb' tp' : Nat → Int32) (t' : Nat → Nat), f_X7_feed_42 x f (nI k - nI 1) tb (nI n) = some (tb', nI (n + k)) ∧ f_X8_feed_38 x f (nI k - nI 1) tp (nI n) = some (tp', nI (n + k)) ∧ ∀ j, j < n + k → t' j < 256 ∧ tb' j = nI (t' j) ∧ tp' j = nI (t' j)
  | 0, f, tb, tp, n, t, hk, hf, hn, ht => by
    cases f with
    | zero => omega
    | succ f =>
      refine ⟨tb, tp, t, ?_, ?_, fun j hj => ht j (by omega)⟩
      · unfold f_X7_feed_42
        rw [if_pos (by decide)]; rfl
      · unfold f_X8_feed_38
        rw [if_pos (by decide)]; rfl
  | k + 1, f, tb, tp, n, t, hk, hf, hn, ht => by
    cases f with
    | zero => omega
    | succ f =>
      obtain ⟨b, b1, b2', b3⟩ := fd_byte x (i := k) (by omega)
      obtain ⟨tb', tp', t', g1, g2, g3⟩ := fd_both x k f (upd tb n (nI b)) (upd tp n (nI b)) (n + 1) (un t n b) (by omega) (by omega) (by omega) (fun j hj => by
        by_cases e : j = n
        · rw [e, un_s, pk_us, pk_us]; exact ⟨b1, rfl, rfl⟩
        · rw [un_n e, pk_un e, pk_un e]; exact ht j (by omega))
      refine ⟨tb', tp', t', ?_, ?_, fun j hj => g3 j (by omega)⟩
      · unfold f_X7_feed_42 f_X6_add
        rw [nI_sub1, if_neg (nI_pos (by omega)), show (8 : Int32) = nI 8 from rfl, show (255 : Int32) = nI 255 from rfl, b2', show (120 : Int32) = nI 120 from rfl, if_neg (nI_ge (by omega) (by omega)), gd_ix (by omega) (by decide), bd_s, nI_clamp (by omega), nI_1, show nI k + (-1 : Int32) = nI k - nI 1 from (t_sub _ _).symm, show n + (k + 1) = n + 1 + k by omega]
        exact g1
      · unfold f_X8_feed_38
        rw [nI_sub1, if_neg (nI_pos (by omega)), gd_ix (by omega) (by decide), show (8 : Int32) = nI 8 from rfl, show (31 : Int32) = nI 31 from rfl, show (255 : Int32) = nI 255 from rfl, b3, nI_clamp (by omega), nI_1, show nI k + (-1 : Int32) = nI k - nI 1 from (t_sub _ _).symm, show n + (k + 1) = n + 1 + k by omega]
        exact g2
set_option maxHeartbeats 16000000 in
theorem op_feed {N : Nat} (hN : 2000 ≤ N) : Op_feed Rl N := by
  intro C_isKept C_l_bsize C_l_bcells C_l_ssize C_l_scells C_l_dsize C_l_dcells C_l_people C_l_rule C_l_believed C_k_bsize C_k_bcells C_k_ssize C_k_scells C_k_dsize C_k_dcells C_k_people C_k_rule C_k_believed C_d_bsize C_d_bcells C_d_ssize C_d_scells C_d_dsize C_d_dcells C_d_people C_d_rule C_d_believed C_order C_stepsAt C_doubts C_weights C_rows C_metEver C_bowedTo C_isStale C_bowCount C_doubtCount C_seenBows C_likeliest C_mostSayingsSo C_doers C_isTelling C_tbytes C_tlen C_token C_place C_behindIt C_value C_sa_nums C_sa_bits C_sa_len C_sb_nums C_sb_bits C_sb_len C_sc_nums C_sc_bits C_sc_len C_sd_nums C_sd_bits C_sd_len C_findings M_now M_kept M_isKept M_found M_order M_doubts M_doubtMany M_weights M_worn M_pairs M_isTwice M_doer M_doneTo M_doers M_tape M_taped M_begins M_ends M_sort M_value M_isWrong M_items M_itemMany M_bowThen M_doubtThen M_deedThen M_sayingThen M_widths M_sizes M_numbers M_moved a1 a2 hR 
  obtain ⟨v, e, hv, he, hm, hd, hl, hs, ht, hk0, hk1, hk2, hf, hp, sa, sb, sc, sd⟩ := hR
  have hpp := hp
  obtain ⟨n, t, hn, rfl, rfl, ht2⟩ := hp
  by_cases h1 : (1 : Int) ≤ a2.toInt ∧ a2.toInt ≤ 4
  · obtain ⟨m, hm5, rfl⟩ : ∃ m, m < 5 ∧ a2 = nI m := inr_t (by decide) (inr_iff.mpr (by omega))
    rw [nI_toInt (by omega)] at h1
    have w1 : f_X8_within (nI m) (nI 1) (nI 4) = some (b2 true) := by
      rw [m_wl (by decide) (by decide), nI_toInt (by omega), decide_eq_true (by omega)]
    have q1 : ¬ m < 1 := by omega
    have q2 : m ≤ 4 := by omega
    by_cases h2 : n + m ≤ 120
    · obtain ⟨tb', tp', t', g1, g2, g3⟩ := fd_both a1 m N C_tbytes M_tape n t (by omega) (by omega) h2 ht2
      simp (disch := omega) only [f_X7_feed, f_X8_feed, bd_s, gd_tt, jn_s, lit32, gd_ix, nI_clamp, nI_add, pk_mul, nI_leI, nI_ltI, nI_eq, b2_0n, ite_f, ↓reduceIte, Bool.false_eq_true, Bool.true_eq_false, Nat.not_lt_zero, isb_b2, c_has, c_isHour, c_isKind, c_isPerson, m_isHour, m_isKind, m_isSheet, m_w, c_rN, c_rN2, cB, cF, cK, cN, cS, cM, cZ, mB, mF, mK, mN, mS, mM, mZ, w1, q1, q2, f_X6_length, h2, g1, g2]
      refine ⟨_, _, rfl, rfl, rfl, ?_⟩; exact ⟨v, e, hv, he, hm, hd, hl, hs, ht, hk0, hk1, hk2, hf, ⟨n + m, t', h2, rfl, rfl, g3⟩, sa, sb, sc, sd⟩
    · simp (disch := omega) only [f_X7_feed, f_X8_feed, bd_s, gd_tt, jn_s, lit32, gd_ix, nI_clamp, nI_add, pk_mul, nI_leI, nI_ltI, nI_eq, b2_0n, ite_f, ↓reduceIte, Bool.false_eq_true, Bool.true_eq_false, Nat.not_lt_zero, isb_b2, c_has, c_isHour, c_isKind, c_isPerson, m_isHour, m_isKind, m_isSheet, m_w, c_rN, c_rN2, cB, cF, cK, cN, cS, cM, cZ, mB, mF, mK, mN, mS, mM, mZ, w1, q1, q2, f_X6_length, h2]
      refine ⟨_, _, rfl, rfl, rfl, ?_⟩; exact ⟨v, e, hv, he, hm, hd, hl, hs, ht, hk0, hk1, hk2, (rf_step hf 1 (by decide)), hpp, sa, sb, sc, sd⟩
  · have w1 : f_X8_within a2 (nI 1) (nI 4) = some (b2 false) := by
      rw [m_wl (by decide) (by decide), decide_eq_false (by omega)]
    by_cases q1 : a2 < nI 1
    · simp (disch := omega) only [f_X7_feed, f_X8_feed, bd_s, gd_tt, jn_s, lit32, gd_ix, nI_clamp, nI_add, pk_mul, nI_leI, nI_ltI, nI_eq, b2_0n, ite_f, ↓reduceIte, Bool.false_eq_true, Bool.true_eq_false, Nat.not_lt_zero, isb_b2, c_has, c_isHour, c_isKind, c_isPerson, m_isHour, m_isKind, m_isSheet, m_w, c_rN, c_rN2, cB, cF, cK, cN, cS, cM, cZ, mB, mF, mK, mN, mS, mM, mZ, w1, q1]
      refine ⟨_, _, rfl, rfl, rfl, ?_⟩; exact ⟨v, e, hv, he, hm, hd, hl, hs, ht, hk0, hk1, hk2, (rf_step hf 0 (by decide)), hpp, sa, sb, sc, sd⟩
    · have q2 : ¬ a2 ≤ nI 4 := by
        rw [i32_le, nI_toInt (by decide)]; rw [i32_lt, nI_toInt (by decide)] at q1; omega
      simp (disch := omega) only [f_X7_feed, f_X8_feed, bd_s, gd_tt, jn_s, lit32, gd_ix, nI_clamp, nI_add, pk_mul, nI_leI, nI_ltI, nI_eq, b2_0n, ite_f, ↓reduceIte, Bool.false_eq_true, Bool.true_eq_false, Nat.not_lt_zero, isb_b2, c_has, c_isHour, c_isKind, c_isPerson, m_isHour, m_isKind, m_isSheet, m_w, c_rN, c_rN2, cB, cF, cK, cN, cS, cM, cZ, mB, mF, mK, mN, mS, mM, mZ, w1, q1, q2]
      refine ⟨_, _, rfl, rfl, rfl, ?_⟩; exact ⟨v, e, hv, he, hm, hd, hl, hs, ht, hk0, hk1, hk2, (rf_step hf 0 (by decide)), hpp, sa, sb, sc, sd⟩
theorem stT_o {v : Nat → Nat} {b t k : Nat} (h : k ≠ 6 + 4 * b + 3) : stT v b t k = v k := un_n h
theorem lya {n N : Nat} {na nb nc nd Q : Nat → Int64} {la lb lc ld : Int32} {S : Nat → Int32} (hN : 2000 ≤ N) (hn : n ≤ 40) (hlen : la = nI n) (hS : S 0 = nI n) (hQ : ∀ j, j < n → Q (40 * 0 + j) = na j) : ∀ d f k c (v e : Nat → Nat) (cells now : Nat → Int32), k + d = nmin (v 3) n → d < f → Vd v → RN v now → RE e now → (∀ j, j < 80 → cells j = nI (v (6 + j))) →
    ∃ v' cells' now' c', f_X7_lays_63a N (nI (nmin (v 3) n)) (nI (v 3)) na la nb lb nc lc nd ld f (nI c) (nI k) cells = some (nI c', cells') ∧ f_X8_lays_35 N (nI 0) S Q f (nI c) (nI k) now = some (nI c', now') ∧ Vd v' ∧ RN v' now' ∧ RE e now' ∧ (∀ j, j < 80 → cells' j = nI (v' (6 + j))) ∧ ∀ i, (i < 6 ∨ 86 ≤ i) → v' i = v i := by
  intro d
  induction d with
  | zero =>
    intro f k c v e cells now hk hf hv hm hd hc
    have h3 := vd_3 hv
    have hmn := nmin_le (v 3) n
    cases f with
    | zero => omega
    | succ f =>
      refine ⟨v, cells, now, c, ?_, ?_, hv, hm, hd, hc, fun i _ => rfl⟩
      · unfold f_X7_lays_63a
        rw [if_pos (nI_le (by omega) (by omega))]
      · unfold f_X8_lays_35
        rw [gd_ix (by decide) (by decide), nI_clamp (by decide), hS, show (3 : Int32).toNatClampNeg = 3 from rfl, rn_at hm (by omega) (by omega) (by omega)]
        by_cases q : n ≤ k
        · rw [if_pos (nI_le q (by omega))]
        · have : v 3 ≤ k := by unfold nmin at hk; split at hk <;> omega
          rw [if_neg (nI_ge (by omega) (by omega)), if_pos (nI_le this (by omega))]
  | succ d ih =>
    intro f k c v e cells now hk hf hv hm hd hc
    have h3 := vd_3 hv
    have hmn := nmin_le (v 3) n
    cases f with
    | zero => omega
    | succ f =>
      have cS : f_X5_number na la (nI k) = some (na k) := by
        rw [hlen]
        unfold f_X5_number
        rw [c_hasS (by omega), inr_nI (by omega), decide_eq_true (by omega), bd_s, if_neg (by decide), gd_ix (by omega) (by decide), nI_clamp (by omega)]
      have pre1 : ∀ X, (bd (if lg_cmp (na k) (lN 0) < nI 0 then some (nI c, cells) else (if nI 0 < lg_cmp (na k) (lN 10) then some (nI c, cells) else (bd (f_X0_mayHaveTenths N (nI (v 3)) cells (nI k) (na k).toInt32) (fun u_57 => (if u_57 = nI 0 then some (nI c, cells) else (bd (f_X4_put (nI 4) (nI (v 3)) cells 80 (nI k) (nI 3) (na k).toInt32) (fun u_59 => some (nI c + nI 1, u_59.2)))))))) (fun u_55 => (f_X7_lays_63a N (nI (nmin (v 3) n)) (nI (v 3)) na la nb lb nc lc nd ld f u_55.1 (nI k + nI 1) u_55.2))) = X → f_X7_lays_63a N (nI (nmin (v 3) n)) (nI (v 3)) na la nb lb nc lc nd ld (f + 1) (nI c) (nI k) cells = X := fun X hX => by
        unfold f_X7_lays_63a
        rw [if_neg (nI_ge (by omega) (by omega)), cS, bd_s]
        exact hX
      have pre2 : ∀ X, (bd (if lg_cmp (na k) (lN 0) < nI 0 then some (nI c, now) else (if nI 0 < lg_cmp (na k) (lN 10) then some (nI c, now) else (bd (f_X8_wouldBeOneTooMany N now (nI k) (na k).toInt32) (fun u_11 => (if u_11 = nI 0 then (some (nI c + nI 1, upd now (6 + 4 * k + 3) (na k).toInt32)) else some (nI c, now)))))) (fun u_9 => (f_X8_lays_35 N (nI 0) S Q f u_9.1 (nI k + nI 1) u_9.2))) = X → f_X8_lays_35 N (nI 0) S Q (f + 1) (nI c) (nI k) now = X := fun X hX => by
        unfold f_X8_lays_35
        rw [gd_ix (by decide) (by decide), nI_clamp (by decide), hS, show (3 : Int32).toNatClampNeg = 3 from rfl, rn_at hm (by omega) (by omega) (by omega), if_neg (nI_ge (by omega) (by omega)), if_neg (nI_ge (by omega) (by omega)), show (40 : Int32) = nI 40 from rfl, pk_mul, nI_add, gd_ix (by omega) (by decide), nI_clamp (by omega), hQ k (by omega), show (6 : Int32) = nI 6 from rfl, show (4 : Int32) = nI 4 from rfl, show (3 : Int32) = nI 3 from rfl, pk_mul, nI_add, nI_add, gd_ix (by omega) (by decide), nI_clamp (by omega)]
        exact hX
      have skip : ∃ v' cells' now' c', f_X7_lays_63a N (nI (nmin (v 3) n)) (nI (v 3)) na la nb lb nc lc nd ld f (nI c) (nI k + nI 1) cells = some (nI c', cells') ∧ f_X8_lays_35 N (nI 0) S Q f (nI c) (nI k + nI 1) now = some (nI c', now') ∧ Vd v' ∧ RN v' now' ∧ RE e now' ∧ (∀ j, j < 80 → cells' j = nI (v' (6 + j))) ∧ ∀ i, (i < 6 ∨ 86 ≤ i) → v' i = v i := by
        rw [nI_add]
        exact ih f (k + 1) c v e cells now (by omega) (by omega) hv hm hd hc
      by_cases q1 : na k < lN 0
      · have z1 : lg_cmp (na k) (lN 0) < nI 0 := (lg_cmp_lt _ _).mpr q1
        obtain ⟨v', cells', now', c', g1, g2, g3⟩ := skip
        refine ⟨v', cells', now', c', pre1 _ ?_, pre2 _ ?_, g3⟩
        · rw [if_pos z1, bd_s]; exact g1
        · rw [if_pos z1, bd_s]; exact g2
      · have z1 : ¬ lg_cmp (na k) (lN 0) < nI 0 := fun z => q1 ((lg_cmp_lt _ _).mp z)
        by_cases q2 : lN 10 < na k
        · have z2 : nI 0 < lg_cmp (na k) (lN 10) := (lg_cmp_gt _ _).mpr q2
          obtain ⟨v', cells', now', c', g1, g2, g3⟩ := skip
          refine ⟨v', cells', now', c', pre1 _ ?_, pre2 _ ?_, g3⟩
          · rw [if_neg z1, if_pos z2, bd_s]; exact g1
          · rw [if_neg z1, if_pos z2, bd_s]; exact g2
        · have z2 : ¬ nI 0 < lg_cmp (na k) (lN 10) := fun z => q2 ((lg_cmp_gt _ _).mp z)
          obtain ⟨t, ht1, ht2⟩ := pk_lOf (x := na k) q1
          have ht10 : t ≤ 10 := by
            rw [ht2, pk_lLT (by decide) ht1] at q2; omega
          have e32 : (na k).toInt32 = nI t := by rw [ht2]; exact lN_i t
          have m1 := c_may hc hv hN (b := k) (by omega) ht10
          have m2 := m_many hm hv hN (b := k) (by omega) ht10
          by_cases qm : mayT v k t = true
          · have hv' := stT_vd hv (b := k) (t := t) (by omega) ht10 (mayT_ok qm)
            have e3 : stT v k t 3 = v 3 := stT_o (by omega)
            obtain ⟨v', cells', now', c', g1, g2, g3, g4, g5, g6, g7⟩ := ih f (k + 1) (c + 1) (stT v k t) e (upd cells (k * 4 + 3) (nI t)) (upd now (6 + 4 * k + 3) (nI t)) (by rw [e3]; omega) (by omega) hv' (rn_set hm (by omega)) (re_night hd (by omega) (by omega)) (stT_rl hc k t)
            rw [e3] at g1
            refine ⟨v', cells', now', c', pre1 _ ?_, pre2 _ ?_, g3, g4, g5, g6, fun i hi => by rw [g7 i hi, stT_o (by omega)]⟩
            · rw [if_neg z1, if_neg z2, e32, m1, bd_s, qm, if_neg (by decide), c_put (by omega) (by omega) (by decide) (by decide) (by omega) (by decide), bd_s, bd_s, nI_add, nI_add]
              exact g1
            · rw [if_neg z1, if_neg z2, e32, m2, bd_s, qm, if_pos (by decide), bd_s, nI_add, nI_add]
              exact g2
          · have qm : mayT v k t = false := by simpa using qm
            obtain ⟨v', cells', now', c', g1, g2, g3⟩ := skip
            refine ⟨v', cells', now', c', pre1 _ ?_, pre2 _ ?_, g3⟩
            · rw [if_neg z1, if_neg z2, e32, m1, bd_s, qm, if_pos (by decide), bd_s]; exact g1
            · rw [if_neg z1, if_neg z2, e32, m2, bd_s, qm, if_neg (by decide), bd_s]; exact g2
theorem lyb {n N : Nat} {na nb nc nd Q : Nat → Int64} {la lb lc ld : Int32} {S : Nat → Int32} (hN : 2000 ≤ N) (hn : n ≤ 40) (hlen : lb = nI n) (hS : S 1 = nI n) (hQ : ∀ j, j < n → Q (40 * 1 + j) = nb j) : ∀ d f k c (v e : Nat → Nat) (cells now : Nat → Int32), k + d = nmin (v 3) n → d < f → Vd v → RN v now → RE e now → (∀ j, j < 80 → cells j = nI (v (6 + j))) →
    ∃ v' cells' now' c', f_X7_lays_63b N (nI (nmin (v 3) n)) (nI (v 3)) na la nb lb nc lc nd ld f (nI c) (nI k) cells = some (nI c', cells') ∧ f_X8_lays_35 N (nI 1) S Q f (nI c) (nI k) now = some (nI c', now') ∧ Vd v' ∧ RN v' now' ∧ RE e now' ∧ (∀ j, j < 80 → cells' j = nI (v' (6 + j))) ∧ ∀ i, (i < 6 ∨ 86 ≤ i) → v' i = v i := by
  intro d
  induction d with
  | zero =>
    intro f k c v e cells now hk hf hv hm hd hc
    have h3 := vd_3 hv
    have hmn := nmin_le (v 3) n
    cases f with
    | zero => omega
    | succ f =>
      refine ⟨v, cells, now, c, ?_, ?_, hv, hm, hd, hc, fun i _ => rfl⟩
      · unfold f_X7_lays_63b
        rw [if_pos (nI_le (by omega) (by omega))]
      · unfold f_X8_lays_35
        rw [gd_ix (by decide) (by decide), nI_clamp (by decide), hS, show (3 : Int32).toNatClampNeg = 3 from rfl, rn_at hm (by omega) (by omega) (by omega)]
        by_cases q : n ≤ k
        · rw [if_pos (nI_le q (by omega))]
        · have : v 3 ≤ k := by unfold nmin at hk; split at hk <;> omega
          rw [if_neg (nI_ge (by omega) (by omega)), if_pos (nI_le this (by omega))]
  | succ d ih =>
    intro f k c v e cells now hk hf hv hm hd hc
    have h3 := vd_3 hv
    have hmn := nmin_le (v 3) n
    cases f with
    | zero => omega
    | succ f =>
      have cS : f_X5_number nb lb (nI k) = some (nb k) := by
        rw [hlen]
        unfold f_X5_number
        rw [c_hasS (by omega), inr_nI (by omega), decide_eq_true (by omega), bd_s, if_neg (by decide), gd_ix (by omega) (by decide), nI_clamp (by omega)]
      have pre1 : ∀ X, (bd (if lg_cmp (nb k) (lN 0) < nI 0 then some (nI c, cells) else (if nI 0 < lg_cmp (nb k) (lN 10) then some (nI c, cells) else (bd (f_X0_mayHaveTenths N (nI (v 3)) cells (nI k) (nb k).toInt32) (fun u_57 => (if u_57 = nI 0 then some (nI c, cells) else (bd (f_X4_put (nI 4) (nI (v 3)) cells 80 (nI k) (nI 3) (nb k).toInt32) (fun u_59 => some (nI c + nI 1, u_59.2)))))))) (fun u_55 => (f_X7_lays_63b N (nI (nmin (v 3) n)) (nI (v 3)) na la nb lb nc lc nd ld f u_55.1 (nI k + nI 1) u_55.2))) = X → f_X7_lays_63b N (nI (nmin (v 3) n)) (nI (v 3)) na la nb lb nc lc nd ld (f + 1) (nI c) (nI k) cells = X := fun X hX => by
        unfold f_X7_lays_63b
        rw [if_neg (nI_ge (by omega) (by omega)), cS, bd_s]
        exact hX
      have pre2 : ∀ X, (bd (if lg_cmp (nb k) (lN 0) < nI 0 then some (nI c, now) else (if nI 0 < lg_cmp (nb k) (lN 10) then some (nI c, now) else (bd (f_X8_wouldBeOneTooMany N now (nI k) (nb k).toInt32) (fun u_11 => (if u_11 = nI 0 then (some (nI c + nI 1, upd now (6 + 4 * k + 3) (nb k).toInt32)) else some (nI c, now)))))) (fun u_9 => (f_X8_lays_35 N (nI 1) S Q f u_9.1 (nI k + nI 1) u_9.2))) = X → f_X8_lays_35 N (nI 1) S Q (f + 1) (nI c) (nI k) now = X := fun X hX => by
        unfold f_X8_lays_35
        rw [gd_ix (by decide) (by decide), nI_clamp (by decide), hS, show (3 : Int32).toNatClampNeg = 3 from rfl, rn_at hm (by omega) (by omega) (by omega), if_neg (nI_ge (by omega) (by omega)), if_neg (nI_ge (by omega) (by omega)), show (40 : Int32) = nI 40 from rfl, pk_mul, nI_add, gd_ix (by omega) (by decide), nI_clamp (by omega), hQ k (by omega), show (6 : Int32) = nI 6 from rfl, show (4 : Int32) = nI 4 from rfl, show (3 : Int32) = nI 3 from rfl, pk_mul, nI_add, nI_add, gd_ix (by omega) (by decide), nI_clamp (by omega)]
        exact hX
      have skip : ∃ v' cells' now' c', f_X7_lays_63b N (nI (nmin (v 3) n)) (nI (v 3)) na la nb lb nc lc nd ld f (nI c) (nI k + nI 1) cells = some (nI c', cells') ∧ f_X8_lays_35 N (nI 1) S Q f (nI c) (nI k + nI 1) now = some (nI c', now') ∧ Vd v' ∧ RN v' now' ∧ RE e now' ∧ (∀ j, j < 80 → cells' j = nI (v' (6 + j))) ∧ ∀ i, (i < 6 ∨ 86 ≤ i) → v' i = v i := by
        rw [nI_add]
        exact ih f (k + 1) c v e cells now (by omega) (by omega) hv hm hd hc
      by_cases q1 : nb k < lN 0
      · have z1 : lg_cmp (nb k) (lN 0) < nI 0 := (lg_cmp_lt _ _).mpr q1
        obtain ⟨v', cells', now', c', g1, g2, g3⟩ := skip
        refine ⟨v', cells', now', c', pre1 _ ?_, pre2 _ ?_, g3⟩
        · rw [if_pos z1, bd_s]; exact g1
        · rw [if_pos z1, bd_s]; exact g2
      · have z1 : ¬ lg_cmp (nb k) (lN 0) < nI 0 := fun z => q1 ((lg_cmp_lt _ _).mp z)
        by_cases q2 : lN 10 < nb k
        · have z2 : nI 0 < lg_cmp (nb k) (lN 10) := (lg_cmp_gt _ _).mpr q2
          obtain ⟨v', cells', now', c', g1, g2, g3⟩ := skip
          refine ⟨v', cells', now', c', pre1 _ ?_, pre2 _ ?_, g3⟩
          · rw [if_neg z1, if_pos z2, bd_s]; exact g1
          · rw [if_neg z1, if_pos z2, bd_s]; exact g2
        · have z2 : ¬ nI 0 < lg_cmp (nb k) (lN 10) := fun z => q2 ((lg_cmp_gt _ _).mp z)
          obtain ⟨t, ht1, ht2⟩ := pk_lOf (x := nb k) q1
          have ht10 : t ≤ 10 := by
            rw [ht2, pk_lLT (by decide) ht1] at q2; omega
          have e32 : (nb k).toInt32 = nI t := by rw [ht2]; exact lN_i t
          have m1 := c_may hc hv hN (b := k) (by omega) ht10
          have m2 := m_many hm hv hN (b := k) (by omega) ht10
          by_cases qm : mayT v k t = true
          · have hv' := stT_vd hv (b := k) (t := t) (by omega) ht10 (mayT_ok qm)
            have e3 : stT v k t 3 = v 3 := stT_o (by omega)
            obtain ⟨v', cells', now', c', g1, g2, g3, g4, g5, g6, g7⟩ := ih f (k + 1) (c + 1) (stT v k t) e (upd cells (k * 4 + 3) (nI t)) (upd now (6 + 4 * k + 3) (nI t)) (by rw [e3]; omega) (by omega) hv' (rn_set hm (by omega)) (re_night hd (by omega) (by omega)) (stT_rl hc k t)
            rw [e3] at g1
            refine ⟨v', cells', now', c', pre1 _ ?_, pre2 _ ?_, g3, g4, g5, g6, fun i hi => by rw [g7 i hi, stT_o (by omega)]⟩
            · rw [if_neg z1, if_neg z2, e32, m1, bd_s, qm, if_neg (by decide), c_put (by omega) (by omega) (by decide) (by decide) (by omega) (by decide), bd_s, bd_s, nI_add, nI_add]
              exact g1
            · rw [if_neg z1, if_neg z2, e32, m2, bd_s, qm, if_pos (by decide), bd_s, nI_add, nI_add]
              exact g2
          · have qm : mayT v k t = false := by simpa using qm
            obtain ⟨v', cells', now', c', g1, g2, g3⟩ := skip
            refine ⟨v', cells', now', c', pre1 _ ?_, pre2 _ ?_, g3⟩
            · rw [if_neg z1, if_neg z2, e32, m1, bd_s, qm, if_pos (by decide), bd_s]; exact g1
            · rw [if_neg z1, if_neg z2, e32, m2, bd_s, qm, if_neg (by decide), bd_s]; exact g2
theorem lyc {n N : Nat} {na nb nc nd Q : Nat → Int64} {la lb lc ld : Int32} {S : Nat → Int32} (hN : 2000 ≤ N) (hn : n ≤ 40) (hlen : lc = nI n) (hS : S 2 = nI n) (hQ : ∀ j, j < n → Q (40 * 2 + j) = nc j) : ∀ d f k c (v e : Nat → Nat) (cells now : Nat → Int32), k + d = nmin (v 3) n → d < f → Vd v → RN v now → RE e now → (∀ j, j < 80 → cells j = nI (v (6 + j))) →
    ∃ v' cells' now' c', f_X7_lays_63c N (nI (nmin (v 3) n)) (nI (v 3)) na la nb lb nc lc nd ld f (nI c) (nI k) cells = some (nI c', cells') ∧ f_X8_lays_35 N (nI 2) S Q f (nI c) (nI k) now = some (nI c', now') ∧ Vd v' ∧ RN v' now' ∧ RE e now' ∧ (∀ j, j < 80 → cells' j = nI (v' (6 + j))) ∧ ∀ i, (i < 6 ∨ 86 ≤ i) → v' i = v i := by
  intro d
  induction d with
  | zero =>
    intro f k c v e cells now hk hf hv hm hd hc
    have h3 := vd_3 hv
    have hmn := nmin_le (v 3) n
    cases f with
    | zero => omega
    | succ f =>
      refine ⟨v, cells, now, c, ?_, ?_, hv, hm, hd, hc, fun i _ => rfl⟩
      · unfold f_X7_lays_63c
        rw [if_pos (nI_le (by omega) (by omega))]
      · unfold f_X8_lays_35
        rw [gd_ix (by decide) (by decide), nI_clamp (by decide), hS, show (3 : Int32).toNatClampNeg = 3 from rfl, rn_at hm (by omega) (by omega) (by omega)]
        by_cases q : n ≤ k
        · rw [if_pos (nI_le q (by omega))]
        · have : v 3 ≤ k := by unfold nmin at hk; split at hk <;> omega
          rw [if_neg (nI_ge (by omega) (by omega)), if_pos (nI_le this (by omega))]
  | succ d ih =>
    intro f k c v e cells now hk hf hv hm hd hc
    have h3 := vd_3 hv
    have hmn := nmin_le (v 3) n
    cases f with
    | zero => omega
    | succ f =>
      have cS : f_X5_number nc lc (nI k) = some (nc k) := by
        rw [hlen]
        unfold f_X5_number
        rw [c_hasS (by omega), inr_nI (by omega), decide_eq_true (by omega), bd_s, if_neg (by decide), gd_ix (by omega) (by decide), nI_clamp (by omega)]
      have pre1 : ∀ X, (bd (if lg_cmp (nc k) (lN 0) < nI 0 then some (nI c, cells) else (if nI 0 < lg_cmp (nc k) (lN 10) then some (nI c, cells) else (bd (f_X0_mayHaveTenths N (nI (v 3)) cells (nI k) (nc k).toInt32) (fun u_57 => (if u_57 = nI 0 then some (nI c, cells) else (bd (f_X4_put (nI 4) (nI (v 3)) cells 80 (nI k) (nI 3) (nc k).toInt32) (fun u_59 => some (nI c + nI 1, u_59.2)))))))) (fun u_55 => (f_X7_lays_63c N (nI (nmin (v 3) n)) (nI (v 3)) na la nb lb nc lc nd ld f u_55.1 (nI k + nI 1) u_55.2))) = X → f_X7_lays_63c N (nI (nmin (v 3) n)) (nI (v 3)) na la nb lb nc lc nd ld (f + 1) (nI c) (nI k) cells = X := fun X hX => by
        unfold f_X7_lays_63c
        rw [if_neg (nI_ge (by omega) (by omega)), cS, bd_s]
        exact hX
      have pre2 : ∀ X, (bd (if lg_cmp (nc k) (lN 0) < nI 0 then some (nI c, now) else (if nI 0 < lg_cmp (nc k) (lN 10) then some (nI c, now) else (bd (f_X8_wouldBeOneTooMany N now (nI k) (nc k).toInt32) (fun u_11 => (if u_11 = nI 0 then (some (nI c + nI 1, upd now (6 + 4 * k + 3) (nc k).toInt32)) else some (nI c, now)))))) (fun u_9 => (f_X8_lays_35 N (nI 2) S Q f u_9.1 (nI k + nI 1) u_9.2))) = X → f_X8_lays_35 N (nI 2) S Q (f + 1) (nI c) (nI k) now = X := fun X hX => by
        unfold f_X8_lays_35
        rw [gd_ix (by decide) (by decide), nI_clamp (by decide), hS, show (3 : Int32).toNatClampNeg = 3 from rfl, rn_at hm (by omega) (by omega) (by omega), if_neg (nI_ge (by omega) (by omega)), if_neg (nI_ge (by omega) (by omega)), show (40 : Int32) = nI 40 from rfl, pk_mul, nI_add, gd_ix (by omega) (by decide), nI_clamp (by omega), hQ k (by omega), show (6 : Int32) = nI 6 from rfl, show (4 : Int32) = nI 4 from rfl, show (3 : Int32) = nI 3 from rfl, pk_mul, nI_add, nI_add, gd_ix (by omega) (by decide), nI_clamp (by omega)]
        exact hX
      have skip : ∃ v' cells' now' c', f_X7_lays_63c N (nI (nmin (v 3) n)) (nI (v 3)) na la nb lb nc lc nd ld f (nI c) (nI k + nI 1) cells = some (nI c', cells') ∧ f_X8_lays_35 N (nI 2) S Q f (nI c) (nI k + nI 1) now = some (nI c', now') ∧ Vd v' ∧ RN v' now' ∧ RE e now' ∧ (∀ j, j < 80 → cells' j = nI (v' (6 + j))) ∧ ∀ i, (i < 6 ∨ 86 ≤ i) → v' i = v i := by
        rw [nI_add]
        exact ih f (k + 1) c v e cells now (by omega) (by omega) hv hm hd hc
      by_cases q1 : nc k < lN 0
      · have z1 : lg_cmp (nc k) (lN 0) < nI 0 := (lg_cmp_lt _ _).mpr q1
        obtain ⟨v', cells', now', c', g1, g2, g3⟩ := skip
        refine ⟨v', cells', now', c', pre1 _ ?_, pre2 _ ?_, g3⟩
        · rw [if_pos z1, bd_s]; exact g1
        · rw [if_pos z1, bd_s]; exact g2
      · have z1 : ¬ lg_cmp (nc k) (lN 0) < nI 0 := fun z => q1 ((lg_cmp_lt _ _).mp z)
        by_cases q2 : lN 10 < nc k
        · have z2 : nI 0 < lg_cmp (nc k) (lN 10) := (lg_cmp_gt _ _).mpr q2
          obtain ⟨v', cells', now', c', g1, g2, g3⟩ := skip
          refine ⟨v', cells', now', c', pre1 _ ?_, pre2 _ ?_, g3⟩
          · rw [if_neg z1, if_pos z2, bd_s]; exact g1
          · rw [if_neg z1, if_pos z2, bd_s]; exact g2
        · have z2 : ¬ nI 0 < lg_cmp (nc k) (lN 10) := fun z => q2 ((lg_cmp_gt _ _).mp z)
          obtain ⟨t, ht1, ht2⟩ := pk_lOf (x := nc k) q1
          have ht10 : t ≤ 10 := by
            rw [ht2, pk_lLT (by decide) ht1] at q2; omega
          have e32 : (nc k).toInt32 = nI t := by rw [ht2]; exact lN_i t
          have m1 := c_may hc hv hN (b := k) (by omega) ht10
          have m2 := m_many hm hv hN (b := k) (by omega) ht10
          by_cases qm : mayT v k t = true
          · have hv' := stT_vd hv (b := k) (t := t) (by omega) ht10 (mayT_ok qm)
            have e3 : stT v k t 3 = v 3 := stT_o (by omega)
            obtain ⟨v', cells', now', c', g1, g2, g3, g4, g5, g6, g7⟩ := ih f (k + 1) (c + 1) (stT v k t) e (upd cells (k * 4 + 3) (nI t)) (upd now (6 + 4 * k + 3) (nI t)) (by rw [e3]; omega) (by omega) hv' (rn_set hm (by omega)) (re_night hd (by omega) (by omega)) (stT_rl hc k t)
            rw [e3] at g1
            refine ⟨v', cells', now', c', pre1 _ ?_, pre2 _ ?_, g3, g4, g5, g6, fun i hi => by rw [g7 i hi, stT_o (by omega)]⟩
            · rw [if_neg z1, if_neg z2, e32, m1, bd_s, qm, if_neg (by decide), c_put (by omega) (by omega) (by decide) (by decide) (by omega) (by decide), bd_s, bd_s, nI_add, nI_add]
              exact g1
            · rw [if_neg z1, if_neg z2, e32, m2, bd_s, qm, if_pos (by decide), bd_s, nI_add, nI_add]
              exact g2
          · have qm : mayT v k t = false := by simpa using qm
            obtain ⟨v', cells', now', c', g1, g2, g3⟩ := skip
            refine ⟨v', cells', now', c', pre1 _ ?_, pre2 _ ?_, g3⟩
            · rw [if_neg z1, if_neg z2, e32, m1, bd_s, qm, if_pos (by decide), bd_s]; exact g1
            · rw [if_neg z1, if_neg z2, e32, m2, bd_s, qm, if_neg (by decide), bd_s]; exact g2
theorem lyd {n N : Nat} {na nb nc nd Q : Nat → Int64} {la lb lc ld : Int32} {S : Nat → Int32} (hN : 2000 ≤ N) (hn : n ≤ 40) (hlen : ld = nI n) (hS : S 3 = nI n) (hQ : ∀ j, j < n → Q (40 * 3 + j) = nd j) : ∀ d f k c (v e : Nat → Nat) (cells now : Nat → Int32), k + d = nmin (v 3) n → d < f → Vd v → RN v now → RE e now → (∀ j, j < 80 → cells j = nI (v (6 + j))) →
    ∃ v' cells' now' c', f_X7_lays_63d N (nI (nmin (v 3) n)) (nI (v 3)) na la nb lb nc lc nd ld f (nI c) (nI k) cells = some (nI c', cells') ∧ f_X8_lays_35 N (nI 3) S Q f (nI c) (nI k) now = some (nI c', now') ∧ Vd v' ∧ RN v' now' ∧ RE e now' ∧ (∀ j, j < 80 → cells' j = nI (v' (6 + j))) ∧ ∀ i, (i < 6 ∨ 86 ≤ i) → v' i = v i := by
  intro d
  induction d with
  | zero =>
    intro f k c v e cells now hk hf hv hm hd hc
    have h3 := vd_3 hv
    have hmn := nmin_le (v 3) n
    cases f with
    | zero => omega
    | succ f =>
      refine ⟨v, cells, now, c, ?_, ?_, hv, hm, hd, hc, fun i _ => rfl⟩
      · unfold f_X7_lays_63d
        rw [if_pos (nI_le (by omega) (by omega))]
      · unfold f_X8_lays_35
        rw [gd_ix (by decide) (by decide), nI_clamp (by decide), hS, show (3 : Int32).toNatClampNeg = 3 from rfl, rn_at hm (by omega) (by omega) (by omega)]
        by_cases q : n ≤ k
        · rw [if_pos (nI_le q (by omega))]
        · have : v 3 ≤ k := by unfold nmin at hk; split at hk <;> omega
          rw [if_neg (nI_ge (by omega) (by omega)), if_pos (nI_le this (by omega))]
  | succ d ih =>
    intro f k c v e cells now hk hf hv hm hd hc
    have h3 := vd_3 hv
    have hmn := nmin_le (v 3) n
    cases f with
    | zero => omega
    | succ f =>
      have cS : f_X5_number nd ld (nI k) = some (nd k) := by
        rw [hlen]
        unfold f_X5_number
        rw [c_hasS (by omega), inr_nI (by omega), decide_eq_true (by omega), bd_s, if_neg (by decide), gd_ix (by omega) (by decide), nI_clamp (by omega)]
      have pre1 : ∀ X, (bd (if lg_cmp (nd k) (lN 0) < nI 0 then some (nI c, cells) else (if nI 0 < lg_cmp (nd k) (lN 10) then some (nI c, cells) else (bd (f_X0_mayHaveTenths N (nI (v 3)) cells (nI k) (nd k).toInt32) (fun u_57 => (if u_57 = nI 0 then some (nI c, cells) else (bd (f_X4_put (nI 4) (nI (v 3)) cells 80 (nI k) (nI 3) (nd k).toInt32) (fun u_59 => some (nI c + nI 1, u_59.2)))))))) (fun u_55 => (f_X7_lays_63d N (nI (nmin (v 3) n)) (nI (v 3)) na la nb lb nc lc nd ld f u_55.1 (nI k + nI 1) u_55.2))) = X → f_X7_lays_63d N (nI (nmin (v 3) n)) (nI (v 3)) na la nb lb nc lc nd ld (f + 1) (nI c) (nI k) cells = X := fun X hX => by
        unfold f_X7_lays_63d
        rw [if_neg (nI_ge (by omega) (by omega)), cS, bd_s]
        exact hX
      have pre2 : ∀ X, (bd (if lg_cmp (nd k) (lN 0) < nI 0 then some (nI c, now) else (if nI 0 < lg_cmp (nd k) (lN 10) then some (nI c, now) else (bd (f_X8_wouldBeOneTooMany N now (nI k) (nd k).toInt32) (fun u_11 => (if u_11 = nI 0 then (some (nI c + nI 1, upd now (6 + 4 * k + 3) (nd k).toInt32)) else some (nI c, now)))))) (fun u_9 => (f_X8_lays_35 N (nI 3) S Q f u_9.1 (nI k + nI 1) u_9.2))) = X → f_X8_lays_35 N (nI 3) S Q (f + 1) (nI c) (nI k) now = X := fun X hX => by
        unfold f_X8_lays_35
        rw [gd_ix (by decide) (by decide), nI_clamp (by decide), hS, show (3 : Int32).toNatClampNeg = 3 from rfl, rn_at hm (by omega) (by omega) (by omega), if_neg (nI_ge (by omega) (by omega)), if_neg (nI_ge (by omega) (by omega)), show (40 : Int32) = nI 40 from rfl, pk_mul, nI_add, gd_ix (by omega) (by decide), nI_clamp (by omega), hQ k (by omega), show (6 : Int32) = nI 6 from rfl, show (4 : Int32) = nI 4 from rfl, show (3 : Int32) = nI 3 from rfl, pk_mul, nI_add, nI_add, gd_ix (by omega) (by decide), nI_clamp (by omega)]
        exact hX
      have skip : ∃ v' cells' now' c', f_X7_lays_63d N (nI (nmin (v 3) n)) (nI (v 3)) na la nb lb nc lc nd ld f (nI c) (nI k + nI 1) cells = some (nI c', cells') ∧ f_X8_lays_35 N (nI 3) S Q f (nI c) (nI k + nI 1) now = some (nI c', now') ∧ Vd v' ∧ RN v' now' ∧ RE e now' ∧ (∀ j, j < 80 → cells' j = nI (v' (6 + j))) ∧ ∀ i, (i < 6 ∨ 86 ≤ i) → v' i = v i := by
        rw [nI_add]
        exact ih f (k + 1) c v e cells now (by omega) (by omega) hv hm hd hc
      by_cases q1 : nd k < lN 0
      · have z1 : lg_cmp (nd k) (lN 0) < nI 0 := (lg_cmp_lt _ _).mpr q1
        obtain ⟨v', cells', now', c', g1, g2, g3⟩ := skip
        refine ⟨v', cells', now', c', pre1 _ ?_, pre2 _ ?_, g3⟩
        · rw [if_pos z1, bd_s]; exact g1
        · rw [if_pos z1, bd_s]; exact g2
      · have z1 : ¬ lg_cmp (nd k) (lN 0) < nI 0 := fun z => q1 ((lg_cmp_lt _ _).mp z)
        by_cases q2 : lN 10 < nd k
        · have z2 : nI 0 < lg_cmp (nd k) (lN 10) := (lg_cmp_gt _ _).mpr q2
          obtain ⟨v', cells', now', c', g1, g2, g3⟩ := skip
          refine ⟨v', cells', now', c', pre1 _ ?_, pre2 _ ?_, g3⟩
          · rw [if_neg z1, if_pos z2, bd_s]; exact g1
          · rw [if_neg z1, if_pos z2, bd_s]; exact g2
        · have z2 : ¬ nI 0 < lg_cmp (nd k) (lN 10) := fun z => q2 ((lg_cmp_gt _ _).mp z)
          obtain ⟨t, ht1, ht2⟩ := pk_lOf (x := nd k) q1
          have ht10 : t ≤ 10 := by
            rw [ht2, pk_lLT (by decide) ht1] at q2; omega
          have e32 : (nd k).toInt32 = nI t := by rw [ht2]; exact lN_i t
          have m1 := c_may hc hv hN (b := k) (by omega) ht10
          have m2 := m_many hm hv hN (b := k) (by omega) ht10
          by_cases qm : mayT v k t = true
          · have hv' := stT_vd hv (b := k) (t := t) (by omega) ht10 (mayT_ok qm)
            have e3 : stT v k t 3 = v 3 := stT_o (by omega)
            obtain ⟨v', cells', now', c', g1, g2, g3, g4, g5, g6, g7⟩ := ih f (k + 1) (c + 1) (stT v k t) e (upd cells (k * 4 + 3) (nI t)) (upd now (6 + 4 * k + 3) (nI t)) (by rw [e3]; omega) (by omega) hv' (rn_set hm (by omega)) (re_night hd (by omega) (by omega)) (stT_rl hc k t)
            rw [e3] at g1
            refine ⟨v', cells', now', c', pre1 _ ?_, pre2 _ ?_, g3, g4, g5, g6, fun i hi => by rw [g7 i hi, stT_o (by omega)]⟩
            · rw [if_neg z1, if_neg z2, e32, m1, bd_s, qm, if_neg (by decide), c_put (by omega) (by omega) (by decide) (by decide) (by omega) (by decide), bd_s, bd_s, nI_add, nI_add]
              exact g1
            · rw [if_neg z1, if_neg z2, e32, m2, bd_s, qm, if_pos (by decide), bd_s, nI_add, nI_add]
              exact g2
          · have qm : mayT v k t = false := by simpa using qm
            obtain ⟨v', cells', now', c', g1, g2, g3⟩ := skip
            refine ⟨v', cells', now', c', pre1 _ ?_, pre2 _ ?_, g3⟩
            · rw [if_neg z1, if_neg z2, e32, m1, bd_s, qm, if_pos (by decide), bd_s]; exact g1
            · rw [if_neg z1, if_neg z2, e32, m2, bd_s, qm, if_neg (by decide), bd_s]; exact g2
set_option maxHeartbeats 16000000 in
theorem op_lays {N : Nat} (hN : 2000 ≤ N) : Op_lays Rl N := by
  intro C_isKept C_l_bsize C_l_bcells C_l_ssize C_l_scells C_l_dsize C_l_dcells C_l_people C_l_rule C_l_believed C_k_bsize C_k_bcells C_k_ssize C_k_scells C_k_dsize C_k_dcells C_k_people C_k_rule C_k_believed C_d_bsize C_d_bcells C_d_ssize C_d_scells C_d_dsize C_d_dcells C_d_people C_d_rule C_d_believed C_order C_stepsAt C_doubts C_weights C_rows C_metEver C_bowedTo C_isStale C_bowCount C_doubtCount C_seenBows C_likeliest C_mostSayingsSo C_doers C_isTelling C_tbytes C_tlen C_token C_place C_behindIt C_value C_sa_nums C_sa_bits C_sa_len C_sb_nums C_sb_bits C_sb_len C_sc_nums C_sc_bits C_sc_len C_sd_nums C_sd_bits C_sd_len C_findings M_now M_kept M_isKept M_found M_order M_doubts M_doubtMany M_weights M_worn M_pairs M_isTwice M_doer M_doneTo M_doers M_tape M_taped M_begins M_ends M_sort M_value M_isWrong M_items M_itemMany M_bowThen M_doubtThen M_deedThen M_sayingThen M_widths M_sizes M_numbers M_moved a1 hR 
  obtain ⟨v, e, hv, he, hm, hd, hl, hs, ht, hk0, hk1, hk2, hf, hp, sa, sb, sc, sd⟩ := hR
  have h3 := vd_3 hv
  by_cases h1 : inr a1 4 = true
  · obtain ⟨s, hs4, rfl⟩ := inr_t (by decide) h1
    have hs4' : s = 0 ∨ s = 1 ∨ s = 2 ∨ s = 3 := by omega
    rcases hs4' with rfl | rfl | rfl | rfl
    · have hS := sa
      obtain ⟨w, n, q1, q2, q3, q4, q5, q6, q7, q8⟩ := hS
      have hw := rs_w q2
      have cm : f_X5_isMissing C_sa_bits = some (b2 (decide (w = 0))) := by rw [q4]; exact c_miss w hw
      by_cases qw : w = 0
      · have hd0 : decide (w = 0) = true := decide_eq_true qw
        simp (disch := omega) only [f_X7_lays, f_X8_lays, bd_s, gd_tt, jn_s, lit32, gd_ix, nI_clamp, nI_add, pk_mul, nI_leI, nI_ltI, nI_eq, b2_0n, ite_f, ↓reduceIte, Bool.false_eq_true, Bool.true_eq_false, Nat.not_lt_zero, isb_b2, c_has, c_isHour, c_isKind, c_isPerson, m_isHour, m_isKind, m_isSheet, m_w, c_rN, c_rN2, cB, cF, cK, cN, cS, cM, cZ, mB, mF, mK, mN, mS, mM, mZ, h1, cm, hd0, q5, qw, if_neg]
        refine ⟨_, _, rfl, rfl, rfl, ?_⟩; exact ⟨v, e, hv, he, hm, hd, hl, hs, ht, hk0, hk1, hk2, (rf_step hf 5 (by decide)), hp, sa, sb, sc, sd⟩
      · have hd0 : decide (w = 0) = false := decide_eq_false qw
        obtain ⟨rfl, hlb, rfl, hls, rfl, hld, rfl, rfl, rfl⟩ := hl
        obtain ⟨v', cells', now', c', g1, g2, g3, g4, g5, g6, g7⟩ := lya (na := C_sa_nums) (nb := C_sb_nums) (nc := C_sc_nums) (nd := C_sd_nums) (la := C_sa_len) (lb := C_sb_len) (lc := C_sc_len) (ld := C_sd_len) hN q1 q6 q7 q8 (nmin (v 3) n) N 0 0 v e C_l_bcells M_now (by omega) (by have := nmin_le (v 3) n; omega) hv hm hd hlb
        have hmm : (if nI (v 3) < C_sa_len then nI (v 3) else C_sa_len) = nI (nmin (v 3) n) := by rw [q6]; exact nI_min (by omega) (by omega)
        simp (disch := omega) only [f_X7_lays, f_X8_lays, bd_s, lit32, gd_ix, nI_clamp, nI_eq, b2_0n, ↓reduceIte, Bool.false_eq_true, Bool.true_eq_false, m_isSheet, h1, cm, hd0, q5, qw, if_neg, f_X2_forget, f_X5_length, f_X4_size, hmm, g1, g2]
        refine ⟨_, _, rfl, rfl, rfl, ?_⟩
        exact ⟨v', e, g3, ⟨he.1, fun d hd => by rw [g7 0 (by omega)]; exact he.2 d hd⟩, g4, g5, ⟨by rw [g7 3 (by omega)], g6, by rw [g7 5 (by omega)], fun j hj => by rw [g7 _ (by omega)]; exact hls j hj, rfl, hld, by rw [g7 0 (by omega)], by rw [g7 1 (by omega)], by rw [g7 2 (by omega)]⟩, Or.inr rfl, st_abs, hk0, hk1, hk2, hf, hp, sa, sb, sc, sd⟩
    · have hS := sb
      obtain ⟨w, n, q1, q2, q3, q4, q5, q6, q7, q8⟩ := hS
      have hw := rs_w q2
      have cm : f_X5_isMissing C_sb_bits = some (b2 (decide (w = 0))) := by rw [q4]; exact c_miss w hw
      by_cases qw : w = 0
      · have hd0 : decide (w = 0) = true := decide_eq_true qw
        simp (disch := omega) only [f_X7_lays, f_X8_lays, bd_s, gd_tt, jn_s, lit32, gd_ix, nI_clamp, nI_add, pk_mul, nI_leI, nI_ltI, nI_eq, b2_0n, ite_f, ↓reduceIte, Bool.false_eq_true, Bool.true_eq_false, Nat.not_lt_zero, isb_b2, c_has, c_isHour, c_isKind, c_isPerson, m_isHour, m_isKind, m_isSheet, m_w, c_rN, c_rN2, cB, cF, cK, cN, cS, cM, cZ, mB, mF, mK, mN, mS, mM, mZ, h1, cm, hd0, q5, qw, if_neg]
        refine ⟨_, _, rfl, rfl, rfl, ?_⟩; exact ⟨v, e, hv, he, hm, hd, hl, hs, ht, hk0, hk1, hk2, (rf_step hf 5 (by decide)), hp, sa, sb, sc, sd⟩
      · have hd0 : decide (w = 0) = false := decide_eq_false qw
        obtain ⟨rfl, hlb, rfl, hls, rfl, hld, rfl, rfl, rfl⟩ := hl
        obtain ⟨v', cells', now', c', g1, g2, g3, g4, g5, g6, g7⟩ := lyb (na := C_sa_nums) (nb := C_sb_nums) (nc := C_sc_nums) (nd := C_sd_nums) (la := C_sa_len) (lb := C_sb_len) (lc := C_sc_len) (ld := C_sd_len) hN q1 q6 q7 q8 (nmin (v 3) n) N 0 0 v e C_l_bcells M_now (by omega) (by have := nmin_le (v 3) n; omega) hv hm hd hlb
        have hmm : (if nI (v 3) < C_sb_len then nI (v 3) else C_sb_len) = nI (nmin (v 3) n) := by rw [q6]; exact nI_min (by omega) (by omega)
        simp (disch := omega) only [f_X7_lays, f_X8_lays, bd_s, lit32, gd_ix, nI_clamp, nI_eq, b2_0n, ↓reduceIte, Bool.false_eq_true, Bool.true_eq_false, m_isSheet, h1, cm, hd0, q5, qw, if_neg, f_X2_forget, f_X5_length, f_X4_size, hmm, g1, g2]
        refine ⟨_, _, rfl, rfl, rfl, ?_⟩
        exact ⟨v', e, g3, ⟨he.1, fun d hd => by rw [g7 0 (by omega)]; exact he.2 d hd⟩, g4, g5, ⟨by rw [g7 3 (by omega)], g6, by rw [g7 5 (by omega)], fun j hj => by rw [g7 _ (by omega)]; exact hls j hj, rfl, hld, by rw [g7 0 (by omega)], by rw [g7 1 (by omega)], by rw [g7 2 (by omega)]⟩, Or.inr rfl, st_abs, hk0, hk1, hk2, hf, hp, sa, sb, sc, sd⟩
    · have hS := sc
      obtain ⟨w, n, q1, q2, q3, q4, q5, q6, q7, q8⟩ := hS
      have hw := rs_w q2
      have cm : f_X5_isMissing C_sc_bits = some (b2 (decide (w = 0))) := by rw [q4]; exact c_miss w hw
      by_cases qw : w = 0
      · have hd0 : decide (w = 0) = true := decide_eq_true qw
        simp (disch := omega) only [f_X7_lays, f_X8_lays, bd_s, gd_tt, jn_s, lit32, gd_ix, nI_clamp, nI_add, pk_mul, nI_leI, nI_ltI, nI_eq, b2_0n, ite_f, ↓reduceIte, Bool.false_eq_true, Bool.true_eq_false, Nat.not_lt_zero, isb_b2, c_has, c_isHour, c_isKind, c_isPerson, m_isHour, m_isKind, m_isSheet, m_w, c_rN, c_rN2, cB, cF, cK, cN, cS, cM, cZ, mB, mF, mK, mN, mS, mM, mZ, h1, cm, hd0, q5, qw, if_neg]
        refine ⟨_, _, rfl, rfl, rfl, ?_⟩; exact ⟨v, e, hv, he, hm, hd, hl, hs, ht, hk0, hk1, hk2, (rf_step hf 5 (by decide)), hp, sa, sb, sc, sd⟩
      · have hd0 : decide (w = 0) = false := decide_eq_false qw
        obtain ⟨rfl, hlb, rfl, hls, rfl, hld, rfl, rfl, rfl⟩ := hl
        obtain ⟨v', cells', now', c', g1, g2, g3, g4, g5, g6, g7⟩ := lyc (na := C_sa_nums) (nb := C_sb_nums) (nc := C_sc_nums) (nd := C_sd_nums) (la := C_sa_len) (lb := C_sb_len) (lc := C_sc_len) (ld := C_sd_len) hN q1 q6 q7 q8 (nmin (v 3) n) N 0 0 v e C_l_bcells M_now (by omega) (by have := nmin_le (v 3) n; omega) hv hm hd hlb
        have hmm : (if nI (v 3) < C_sc_len then nI (v 3) else C_sc_len) = nI (nmin (v 3) n) := by rw [q6]; exact nI_min (by omega) (by omega)
        simp (disch := omega) only [f_X7_lays, f_X8_lays, bd_s, lit32, gd_ix, nI_clamp, nI_eq, b2_0n, ↓reduceIte, Bool.false_eq_true, Bool.true_eq_false, m_isSheet, h1, cm, hd0, q5, qw, if_neg, f_X2_forget, f_X5_length, f_X4_size, hmm, g1, g2]
        refine ⟨_, _, rfl, rfl, rfl, ?_⟩
        exact ⟨v', e, g3, ⟨he.1, fun d hd => by rw [g7 0 (by omega)]; exact he.2 d hd⟩, g4, g5, ⟨by rw [g7 3 (by omega)], g6, by rw [g7 5 (by omega)], fun j hj => by rw [g7 _ (by omega)]; exact hls j hj, rfl, hld, by rw [g7 0 (by omega)], by rw [g7 1 (by omega)], by rw [g7 2 (by omega)]⟩, Or.inr rfl, st_abs, hk0, hk1, hk2, hf, hp, sa, sb, sc, sd⟩
    · have hS := sd
      obtain ⟨w, n, q1, q2, q3, q4, q5, q6, q7, q8⟩ := hS
      have hw := rs_w q2
      have cm : f_X5_isMissing C_sd_bits = some (b2 (decide (w = 0))) := by rw [q4]; exact c_miss w hw
      by_cases qw : w = 0
      · have hd0 : decide (w = 0) = true := decide_eq_true qw
        simp (disch := omega) only [f_X7_lays, f_X8_lays, bd_s, gd_tt, jn_s, lit32, gd_ix, nI_clamp, nI_add, pk_mul, nI_leI, nI_ltI, nI_eq, b2_0n, ite_f, ↓reduceIte, Bool.false_eq_true, Bool.true_eq_false, Nat.not_lt_zero, isb_b2, c_has, c_isHour, c_isKind, c_isPerson, m_isHour, m_isKind, m_isSheet, m_w, c_rN, c_rN2, cB, cF, cK, cN, cS, cM, cZ, mB, mF, mK, mN, mS, mM, mZ, h1, cm, hd0, q5, qw, if_neg]
        refine ⟨_, _, rfl, rfl, rfl, ?_⟩; exact ⟨v, e, hv, he, hm, hd, hl, hs, ht, hk0, hk1, hk2, (rf_step hf 5 (by decide)), hp, sa, sb, sc, sd⟩
      · have hd0 : decide (w = 0) = false := decide_eq_false qw
        obtain ⟨rfl, hlb, rfl, hls, rfl, hld, rfl, rfl, rfl⟩ := hl
        obtain ⟨v', cells', now', c', g1, g2, g3, g4, g5, g6, g7⟩ := lyd (na := C_sa_nums) (nb := C_sb_nums) (nc := C_sc_nums) (nd := C_sd_nums) (la := C_sa_len) (lb := C_sb_len) (lc := C_sc_len) (ld := C_sd_len) hN q1 q6 q7 q8 (nmin (v 3) n) N 0 0 v e C_l_bcells M_now (by omega) (by have := nmin_le (v 3) n; omega) hv hm hd hlb
        have hmm : (if nI (v 3) < C_sd_len then nI (v 3) else C_sd_len) = nI (nmin (v 3) n) := by rw [q6]; exact nI_min (by omega) (by omega)
        simp (disch := omega) only [f_X7_lays, f_X8_lays, bd_s, lit32, gd_ix, nI_clamp, nI_eq, b2_0n, ↓reduceIte, Bool.false_eq_true, Bool.true_eq_false, m_isSheet, h1, cm, hd0, q5, qw, if_neg, f_X2_forget, f_X5_length, f_X4_size, hmm, g1, g2]
        refine ⟨_, _, rfl, rfl, rfl, ?_⟩
        exact ⟨v', e, g3, ⟨he.1, fun d hd => by rw [g7 0 (by omega)]; exact he.2 d hd⟩, g4, g5, ⟨by rw [g7 3 (by omega)], g6, by rw [g7 5 (by omega)], fun j hj => by rw [g7 _ (by omega)]; exact hls j hj, rfl, hld, by rw [g7 0 (by omega)], by rw [g7 1 (by omega)], by rw [g7 2 (by omega)]⟩, Or.inr rfl, st_abs, hk0, hk1, hk2, hf, hp, sa, sb, sc, sd⟩
  · have n0 : ¬ a1 = nI 0 := fun z => by rw [z] at h1; exact h1 (by decide)
    have n1 : ¬ a1 = nI 1 := fun z => by rw [z] at h1; exact h1 (by decide)
    have n2 : ¬ a1 = nI 2 := fun z => by rw [z] at h1; exact h1 (by decide)
    have n3 : ¬ a1 = nI 3 := fun z => by rw [z] at h1; exact h1 (by decide)
    have h1 := inr_out h1
    simp (disch := omega) only [f_X7_lays, f_X8_lays, bd_s, gd_tt, jn_s, lit32, gd_ix, nI_clamp, nI_add, pk_mul, nI_leI, nI_ltI, nI_eq, b2_0n, ite_f, ↓reduceIte, Bool.false_eq_true, Bool.true_eq_false, Nat.not_lt_zero, isb_b2, c_has, c_isHour, c_isKind, c_isPerson, m_isHour, m_isKind, m_isSheet, m_w, c_rN, c_rN2, cB, cF, cK, cN, cS, cM, cZ, mB, mF, mK, mN, mS, mM, mZ, h1, n0, n1, n2, n3]
    refine ⟨_, _, rfl, rfl, rfl, ?_⟩; exact ⟨v, e, hv, he, hm, hd, hl, hs, ht, hk0, hk1, hk2, (rf_step hf 0 (by decide)), hp, sa, sb, sc, sd⟩
