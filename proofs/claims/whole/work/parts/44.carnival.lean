/-! ===== carnival ===== -/
def apI (it : Nat → Int32) : Nat → (Nat → Int32) → Option (Nat → Int32)
  | 0, now => some now
  | k + 1, now => bd (apI it k now) (fun w => f_X8_isSo w it (nI (6 * k)))
def ITp (now items : Nat → Int32) (m : Nat) (v' e' : Nat → Nat) : Prop := ∀ it1, (∀ j, j < 6 * m → it1 j = items j) → ∃ now2, apI it1 m now = some now2 ∧ RN v' now2 ∧ RE e' now2
theorem it_step {now items items' : Nat → Int32} {m : Nat} {v' e' v'' e'' : Nat → Nat} (h : ITp now items m v' e') (hs : IS6 v' e' v'' e'' items' m) (ho : ∀ j, j < 6 * m → items' j = items j) : ITp now items' (m + 1) v'' e'' := by
  intro it1 h1
  obtain ⟨w, w1, w2, w3⟩ := h it1 (fun j hj => (h1 j (by omega)).trans (ho j hj))
  obtain ⟨w', x1, x2, x3⟩ := hs w it1 w2 w3 h1
  refine ⟨w', ?_, x2, x3⟩
  unfold apI
  rw [w1, bd_s]
  exact x1
theorem ap_some {it now : Nat → Int32} : ∀ d k R, apI it (k + d) now = some R → ∃ w, apI it k now = some w
  | 0, k, R, h => ⟨R, h⟩
  | d + 1, k, R, h => by
    have e : apI it (k + (d + 1)) now = bd (apI it (k + d) now) (fun w => f_X8_isSo w it (nI (6 * (k + d)))) := rfl
    rw [e] at h
    cases q : apI it (k + d) now with
    | none => rw [q] at h; cases h
    | some w => exact ap_some d k w q
theorem m_app {it now : Nat → Int32} {m : Nat} {R : Nat → Int32} (hm : m ≤ 120) (hR : apI it m now = some R) : ∀ d f k w, k + d = m → d < f → apI it k now = some w → f_X8_carnival_139 it (nI m) f (nI k) w = some R
  | 0, f, k, w, hk, hf, hw => by
    cases f with
    | zero => omega
    | succ f =>
      have hkm : k = m := by omega
      subst hkm
      rw [hR] at hw
      cases hw
      unfold f_X8_carnival_139
      rw [if_pos (nI_le (by omega) (by omega))]
  | d + 1, f, k, w, hk, hf, hw => by
    cases f with
    | zero => omega
    | succ f =>
      obtain ⟨w', hw'⟩ := ap_some (it := it) (now := now) d (k + 1) R (by rw [show k + 1 + d = m by omega]; exact hR)
      have ih := m_app hm hR d f (k + 1) w' (by omega) (by omega) hw'
      have e : apI it (k + 1) now = bd (apI it k now) (fun w => f_X8_isSo w it (nI (6 * k))) := rfl
      rw [e, hw, bd_s] at hw'
      unfold f_X8_carnival_139
      rw [if_neg (nI_ge (by omega) (by omega)), show (6 : Int32) * nI k = nI (6 * k) from pk_mul 6 k, hw', bd_s, nI_1]
      exact ih
theorem its_both {v : Nat → Nat} {now : Nat → Int32} (hr : RN v now) (hv : Vd v) {t : Nat → Nat} {n : Nat} {tb tp : Nat → Int32} (h : TPx t n tb tp) {N : Nat} (hN : 2000 ≤ N) {K : (Int32 × Int32 × Int32 × Int32 × Int32 × (Nat → Int32) × Int32 × (Nat → Int32) × Int32 × (Nat → Int32) × Int32 × Int32) → Option (Int32 × Int32 × Int32 × Int32 × Int32 × Int32 × (Nat → Int32) × Int32 × (Nat → Int32) × Int32 × (Nat → Int32) × Int32 × Int32)} (hK : ∀ u, ∃ r, K u = some r ∧ r.1 = -1 - u.2.1) :
    ∀ f g p q c w o x y v' e' bs bc ss sc ds dcl ru be items m, LX t n N tb tp p q c w o x y → DS v v' e' bs bc ss sc ds dcl ru be → ITp now items m v' e' → 2 * m ≤ p → n - p < f → n - p < g →
    (∃ m' v'' e'' bs' bc' ss' sc' ds' dcl' ru' be' items' p' q' c3 p3 q3 x3 y' b1 d1 s1 t1, 1 ≤ m' ∧ m' ≤ 120 ∧ q' ≤ n ∧ DS v v'' e'' bs' bc' ss' sc' ds' dcl' ru' be' ∧ ITp now items' m' v'' e'' ∧
      f_X3_items_11 N tb (nI n) (nI (v 0)) K f (nI (m + 1)) (nI c) (nI p) (nI q) x bs bc ss sc ds dcl ru be = some (nI m', c3, p3, q3, x3, bs', bc', ss', sc', ds', dcl', ru', be') ∧
      bd (f_X8_readItem N now tp (nI n) (nI p) (nI q) (nI (srt c)) y 0 items (nI m) (nI (v' 3)) (nI (dc v')) (nI (e' 60)) (nI (v' 5))) (fun u_3 => f_X8_carnival_61 N now tp (nI n) g u_3.1 u_3.2.1 u_3.2.2.1 u_3.2.2.2.1 u_3.2.2.2.2.1 u_3.2.2.2.2.2.1 u_3.2.2.2.2.2.2.1 u_3.2.2.2.2.2.2.2.1 u_3.2.2.2.2.2.2.2.2.1 u_3.2.2.2.2.2.2.2.2.2.1 u_3.2.2.2.2.2.2.2.2.2.2) = some (nI p', nI q', 0, y', 0, items', nI m', b1, d1, s1, t1)) ∨
    (∃ pk : Nat, ∃ rc rm, pk ≤ n ∧ f_X3_items_11 N tb (nI n) (nI (v 0)) K f (nI (m + 1)) (nI c) (nI p) (nI q) x bs bc ss sc ds dcl ru be = some rc ∧
      bd (f_X8_readItem N now tp (nI n) (nI p) (nI q) (nI (srt c)) y 0 items (nI m) (nI (v' 3)) (nI (dc v')) (nI (e' 60)) (nI (v' 5))) (fun u_3 => f_X8_carnival_61 N now tp (nI n) g u_3.1 u_3.2.1 u_3.2.2.1 u_3.2.2.2.1 u_3.2.2.2.2.1 u_3.2.2.2.2.2.1 u_3.2.2.2.2.2.2.1 u_3.2.2.2.2.2.2.2.1 u_3.2.2.2.2.2.2.2.2.1 u_3.2.2.2.2.2.2.2.2.2.1 u_3.2.2.2.2.2.2.2.2.2.2) = some rm ∧
      rc.1 = -1 - nI pk ∧ rm.1 = nI pk ∧ (rm.2.2.2.2.1 = 1 ∨ (rm.2.2.2.2.1 = 0 ∧ ¬ rm.2.2.1 = 0)))
  | 0, g, p, q, c, w, o, x, y, v', e', bs, bc, ss, sc, ds, dcl, ru, be, items, m, hx, hD, hI, hm, hf, hg => by omega
  | f + 1, 0, p, q, c, w, o, x, y, v', e', bs, bc, ss, sc, ds, dcl, ru, be, items, m, hx, hD, hI, hm, hf, hg => by omega
  | f + 1, g + 1, p, q, c, w, o, x, y, v', e', bs, bc, ss, sc, ds, dcl, ru, be, items, m, hx, hD, hI, hm, hf, hg => by
    have hn := h.1
    have hpn := lx_le hx
    generalize hC : f_X3_items_11 N tb (nI n) (nI (v 0)) K (f + 1) (nI (m + 1)) (nI c) (nI p) (nI q) x bs bc ss sc ds dcl ru be = RC
    generalize hM : bd (f_X8_readItem N now tp (nI n) (nI p) (nI q) (nI (srt c)) y 0 items (nI m) (nI (v' 3)) (nI (dc v')) (nI (e' 60)) (nI (v' 5))) (fun u_3 => f_X8_carnival_61 N now tp (nI n) (g + 1) u_3.1 u_3.2.1 u_3.2.2.1 u_3.2.2.2.1 u_3.2.2.2.2.1 u_3.2.2.2.2.2.1 u_3.2.2.2.2.2.2.1 u_3.2.2.2.2.2.2.2.1 u_3.2.2.2.2.2.2.2.2.1 u_3.2.2.2.2.2.2.2.2.2.1 u_3.2.2.2.2.2.2.2.2.2.2) = RM
    unfold f_X3_items_11 at hC
    rw [if_neg (show ¬ (120 : Int32) < nI (m + 1) from fun z => by have := (nI_ltI (a := 120) (by omega) (by omega)).mp z; omega)] at hC
    rcases item_both (items := items) (now := now) hr hv h hN hx hD (m := m) (by omega) with ⟨p', q', c', w', o', x', y', v'', e'', bs', bc', ss', sc', ds', dcl', ru', be', items', a1, a2, a3, a4, a5, a6, a7⟩ | ⟨pk, rc, rm, hpk, a6, a7, b1, b2, b3, b4⟩
    · obtain ⟨y1, y2, y3, y4, y5, y6, y7, y8, y9⟩ := id a2
      have hI' := it_step hI a4 a5
      rw [a6, bd_s] at hC
      try dsimp only at hC
      rw [if_neg (show ¬ (1 : Int32) = 0 by decide)] at hC
      try dsimp only at hC
      rw [a7, bd_s] at hM
      try dsimp only at hM
      by_cases c0 : c' = 0
      · subst c0
        left
        rw [if_pos (show nI 0 = (0 : Int32) from rfl)] at hC
        try dsimp only at hC
        unfold f_X8_carnival_61 at hM
        rw [if_pos rfl, if_neg (show ¬ nI (srt 0) = (3 : Int32) by decide)] at hM
        try dsimp only at hM
        exact ⟨m + 1, v'', e'', _, _, _, _, _, _, _, _, items', p', q', _, _, _, _, _, _, _, _, _, by omega, by omega, y2, a3, hI', hC.symm, hM.symm⟩
      · rw [if_neg (show ¬ nI c' = (0 : Int32) from fun z => c0 ((nI_eq (a := c') (b := 0) (by omega) (by omega)).mp z))] at hC
        by_cases c3 : c' = 3
        · subst c3
          obtain ⟨pa, qa, ca, wa, oa, xa, ya, la1, la2, la3, la4⟩ := lx_next h hN (q := q') y2
          have hpa := lx_le la2
          have e3 := y5 rfl
          have hpq : p' < q' := by omega
          rw [if_pos (show nI 3 = (3 : Int32) from rfl)] at hC
          try dsimp only at hC
          rw [la3 _ _ _, bd_s] at hC
          try dsimp only at hC
          rw [nI_1] at hC
          try dsimp only at hC
          unfold f_X8_carnival_61 at hM
          rw [if_pos rfl, if_pos (show nI (srt 3) = (3 : Int32) from rfl), gd_ix (show p' < 120 by omega) (by decide), nI_clamp (show p' < 2 ^ 31 by omega), (h.2 p' e3.1).2.2, e3.2, if_pos (show nI 59 = (59 : Int32) from rfl)] at hM
          try dsimp only at hM
          rw [m_must_1 (la4 _ _ _), bd_s] at hM
          try dsimp only at hM
          have ih := its_both hr hv h hN hK f g pa qa ca wa oa xa ya v'' e'' bs' bc' ss' sc' ds' dcl' ru' be' items' (m + 1) la2 a3 hI' (by omega) (by omega) (by omega)
          rw [← hC, ← hM]
          exact ih
        · right
          rw [if_neg (show ¬ nI c' = (3 : Int32) from fun z => c3 ((nI_eq (a := c') (b := 3) (by omega) (by omega)).mp z))] at hC
          unfold f_X8_carnival_61 at hM
          by_cases c4 : c' = 4
          · subst c4
            have e3 := y6 rfl
            have ht := (h.2 p' e3.1).1
            rw [if_pos rfl, if_pos (show nI (srt 4) = (3 : Int32) from rfl), gd_ix (show p' < 120 by omega) (by decide), nI_clamp (show p' < 2 ^ 31 by omega), (h.2 p' e3.1).2.2, if_neg (show ¬ nI (t p') = (59 : Int32) from fun z => e3.2 ((nI_eq (a := t p') (b := 59) (by omega) (by omega)).mp z))] at hM
            try dsimp only at hM
            exact ⟨p', _, _, lx_le a2, hC.symm, hM.symm, rfl, rfl, Or.inr ⟨rfl, show ¬ nI (srt 4) = (0 : Int32) by decide⟩⟩
          · have hs : srt c' = c' := if_neg c4
            rw [hs] at hM
            rw [if_pos rfl, if_neg (show ¬ nI c' = (3 : Int32) from fun z => c3 ((nI_eq (a := c') (b := 3) (by omega) (by omega)).mp z))] at hM
            try dsimp only at hM
            exact ⟨p', _, _, lx_le a2, hC.symm, hM.symm, rfl, rfl, Or.inr ⟨rfl, fun z => c0 ((nI_eq (a := c') (b := 0) (by omega) (by omega)).mp z)⟩⟩
    · right
      rw [a6, bd_s] at hC
      try dsimp only at hC
      rw [if_pos b1] at hC
      try dsimp only at hC
      obtain ⟨rk, k1, k2⟩ := hK (rc.2.1, rc.2.2.1, rc.2.2.2.1, rc.2.2.2.2.1, rc.2.2.2.2.2.1, rc.2.2.2.2.2.2.1, rc.2.2.2.2.2.2.2.1, rc.2.2.2.2.2.2.2.2.1, rc.2.2.2.2.2.2.2.2.2.1, rc.2.2.2.2.2.2.2.2.2.2.1, rc.2.2.2.2.2.2.2.2.2.2.2.1, rc.2.2.2.2.2.2.2.2.2.2.2.2)
      rw [k1] at hC
      dsimp only at k2
      rw [b2] at k2
      rw [a7, bd_s] at hM
      try dsimp only at hM
      unfold f_X8_carnival_61 at hM
      rw [b4, if_neg (show ¬ (1 : Int32) = 0 by decide)] at hM
      exact ⟨pk, _, _, hpk, hC.symm, hM.symm, k2, b3, Or.inl rfl⟩
theorem flt0 : ∀ k : Fin 121, (-1 : Int32) - nI k.val ≤ 0 := by decide
theorem bd_as {α β γ : Type} {x : Option α} {f : α → Option β} {g : β → Option γ} : bd x (fun u => bd (f u) g) = bd (bd x f) g := by cases x <;> rfl
set_option maxHeartbeats 1000000 in
set_option maxHeartbeats 16000000 in
theorem op_carnival {N : Nat} (hN : 2000 ≤ N) : Op_carnival Rl N := by
  intro C_isKept C_l_bsize C_l_bcells C_l_ssize C_l_scells C_l_dsize C_l_dcells C_l_people C_l_rule C_l_believed C_k_bsize C_k_bcells C_k_ssize C_k_scells C_k_dsize C_k_dcells C_k_people C_k_rule C_k_believed C_d_bsize C_d_bcells C_d_ssize C_d_scells C_d_dsize C_d_dcells C_d_people C_d_rule C_d_believed C_order C_stepsAt C_doubts C_weights C_rows C_metEver C_bowedTo C_isStale C_bowCount C_doubtCount C_seenBows C_likeliest C_mostSayingsSo C_doers C_isTelling C_tbytes C_tlen C_token C_place C_behindIt C_value C_sa_nums C_sa_bits C_sa_len C_sb_nums C_sb_bits C_sb_len C_sc_nums C_sc_bits C_sc_len C_sd_nums C_sd_bits C_sd_len C_findings M_now M_kept M_isKept M_found M_order M_doubts M_doubtMany M_weights M_worn M_pairs M_isTwice M_doer M_doneTo M_doers M_tape M_taped M_begins M_ends M_sort M_value M_isWrong M_items M_itemMany M_bowThen M_doubtThen M_deedThen M_sayingThen M_widths M_sizes M_numbers M_moved  hR 
  obtain ⟨v, e, hv, he, hm, hd, hl, hs, ht, hk0, hk1, hk2, hf, hp, sa, sb, sc, sd⟩ := hR
  obtain ⟨rfl, hlb, rfl, hls, rfl, hld, rfl, rfl, rfl⟩ := hl
  have h3 := vd_3 hv
  have hp' := hp
  obtain ⟨n, t, hn, rfl, rfl, htt⟩ := hp'
  have hT : TPx t n C_tbytes M_tape := ⟨hn, htt⟩
  have hp0 : RP C_tbytes 0 M_tape 0 := ⟨0, fun _ => 0, Nat.zero_le _, rfl, rfl, fun j hj => absurd hj (Nat.not_lt_zero _)⟩
  obtain ⟨r1, r2, r3, c1, c2, c3, c4⟩ := c_bec hv he (s1 := C_d_bsize) (c1 := C_d_bcells) (s2 := C_d_ssize) (c2 := C_d_scells) (s3 := C_d_dsize) (c3 := C_d_dcells) (s4 := C_d_people) (s5 := C_d_rule) (s6 := C_d_believed) hlb hls hld
  have k3 : M_now (3 : Int32).toNatClampNeg = nI (v 3) := rn_at hm (k := 3) (by decide) (by decide) (by decide)
  have k4 : M_now (4 : Int32).toNatClampNeg = nI (e 60) := hd.1
  have k5 : M_now (5 : Int32).toNatClampNeg = nI (v 5) := rn_at hm (k := 5) (by decide) (by decide) (by decide)
  obtain ⟨pa, qa, ca, wa, oa, xa, ya, la1, la2, la3, la4⟩ := lx_next hT hN (q := 0) (Nat.zero_le n)
  have la3' : ∀ a b v, f_X3_step N a b (0 : Int32) v C_tbytes (nI n) = some (nI ca, nI pa, nI qa, xa) := la3
  have la4' : ∀ b s v, f_X8_next N M_tape (nI n) b (0 : Int32) s v = some (nI pa, nI qa, nI (srt ca), ya) := la4
  have hI0 : ITp M_now M_items 0 v e := fun it1 _ => ⟨M_now, rfl, hm, hd⟩
  have res := its_both hm hv hT hN (K := (fun u_8 => some (((-1) - u_8.2.1), u_8.1, u_8.2.1, u_8.2.2.1, u_8.2.2.2.1, u_8.2.2.2.2.1, u_8.2.2.2.2.2.1, u_8.2.2.2.2.2.2.1, u_8.2.2.2.2.2.2.2.1, u_8.2.2.2.2.2.2.2.2.1, u_8.2.2.2.2.2.2.2.2.2.1, u_8.2.2.2.2.2.2.2.2.2.2.1, u_8.2.2.2.2.2.2.2.2.2.2.2))) (fun u => ⟨_, rfl, rfl⟩) N N pa qa ca wa oa xa ya v e (nI (v 3)) r1 (nI (v 5)) r2 (nI (e 60)) r3 (nI (v 1)) (nI (v 2)) M_items 0 la2 ⟨hv, he, rfl, rfl, c2, rfl, c3, rfl, c4, rfl, rfl⟩ hI0 (Nat.zero_le _) (by omega) (by omega)
  rw [show nI (0 + 1) = (1 : Int32) from rfl, show nI 0 = (0 : Int32) from rfl] at res
  unfold f_X7_carnival f_X8_carnival
  rw [c1, bd_s]
  try dsimp only
  unfold f_X3_items
  rw [la3' _ _ _, bd_s]
  try dsimp only
  rw [m_doubted hm h3 hN, bd_s]
  try dsimp only
  rw [la4' _ _ _, bd_s]
  try dsimp only
  rw [k3, k4, k5]
  try dsimp only
  rcases res with ⟨m', v'', e'', bs', bc', ss', sc', ds', dcl', ru', be', items', p', q', c3', p3, q3, x3, y', b1, d1, s1, t1, a1, a2, a3, a4, a5, a6, a7⟩ | ⟨pk, rc, rm, hpk, a6, a7, b1, b2, b3⟩
  · obtain ⟨hv2, he2, h02, rfl, hb2, rfl, hs2, rfl, hd2, rfl, rfl⟩ := a4
    have he3 : Ve v'' e'' := ⟨he2.1, fun d hd => by rw [h02]; exact he2.2 d hd⟩
    obtain ⟨R, x1, x2, x4⟩ := a5 items' (fun _ _ => rfl)
    obtain ⟨pz, qz, cz, wz, oz, xz, yz, lz1, lz2, lz3, lz4⟩ := lx_next hT hN (q := q') a3
    obtain ⟨j1, j2, j3, g1, g2, g3, g4⟩ := c_bec hv2 he3 (s1 := nI (v 3)) (c1 := C_l_bcells) (s2 := nI (v 5)) (c2 := C_l_scells) (s3 := nI (e 60)) (c3 := C_l_dcells) (s4 := nI (v 0)) (s5 := nI (v 1)) (s6 := nI (v 2)) hb2 hs2 hd2
    rw [h02] at g1
    have ea := m_app a2 x1 m' N 0 M_now (by omega) (by omega) rfl
    have ea' : f_X8_carnival_139 items' (nI m') N (0 : Int32) M_now = some R := ea
    unfold f_X6_clear f_X2_forget
    rw [a6, bd_s]
    try dsimp only
    rw [bd_s, if_neg (show ¬ nI m' ≤ (0 : Int32) from nI_ge (a := 0) (by omega) (by omega))]
    try dsimp only
    rw [g1, bd_s]
    try dsimp only
    rw [bd_s, bd_as]
    try dsimp only
    rw [a7, bd_s]
    try dsimp only
    rw [if_pos rfl, bd_s, m_must_1 (lz4 _ _ _), bd_s]
    try dsimp only
    rw [if_pos rfl]
    try dsimp only
    rw [ea', bd_s]
    try dsimp only
    refine ⟨_, _, rfl, rfl, rfl, v'', e'', hv2, he3, x2, x4, ⟨rfl, g2, rfl, g3, rfl, g4, by rw [h02], rfl, rfl⟩, Or.inr rfl, fun z => absurd (show (1 : Int32) = nI 0 from z) (by decide), hk0, hk1, hk2, hf, hp0, sa, sb, sc, sd⟩
  · unfold f_X6_clear f_X2_forget
    obtain ⟨q0, q1, q2, q3, q4, q5, q6, q7, q8, q9, q10, q11, q12⟩ := rc
    obtain ⟨w0, w1, w2, w3, w4, w5, w6, w7, w8, w9, w10⟩ := rm
    dsimp only at b1 b2 b3
    subst b1 b2
    have hle : (-1 : Int32) - nI pk ≤ 0 := flt0 ⟨pk, by omega⟩
    rw [a6, bd_s]
    try dsimp only
    rw [bd_s, if_pos hle]
    try dsimp only
    rw [bd_as]
    try dsimp only
    rw [a7, bd_s]
    try dsimp only
    rcases b3 with z | ⟨z1, z2⟩
    · subst z
      have ex : ∃ u, (if w2 = (0 : Int32) then some (1 : Int32) else some 0) = some u := by split <;> exact ⟨_, rfl⟩
      obtain ⟨u, hu⟩ := ex
      rw [hu, bd_s]
      try dsimp only
      rw [m_must_w, bd_s]
      try dsimp only
      rw [if_neg (show ¬ (1 : Int32) = 0 by decide)]
      try dsimp only
      refine ⟨_, _, rfl, rfl, rfl, v, e, hv, he, hm, hd, ⟨rfl, hlb, rfl, hls, rfl, hld, rfl, rfl, rfl⟩, hs, ht, hk0, hk1, hk2, hf, hp0, sa, sb, sc, sd⟩
    · subst z1
      rw [if_neg z2, bd_s]
      try dsimp only
      rw [m_must_0, bd_s]
      try dsimp only
      rw [if_neg (show ¬ (1 : Int32) = 0 by decide)]
      try dsimp only
      refine ⟨_, _, rfl, rfl, rfl, v, e, hv, he, hm, hd, ⟨rfl, hlb, rfl, hls, rfl, hld, rfl, rfl, rfl⟩, hs, ht, hk0, hk1, hk2, hf, hp0, sa, sb, sc, sd⟩
