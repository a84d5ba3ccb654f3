theorem lx_word {t : Nat → Nat} {n N : Nat} {tb tp : Nat → Int32} {p q c w o : Nat} {x y : Int32} (hx : LX t n N tb tp p q c w o x y) (ho : o < 17) : p < q := by
  obtain ⟨x1, x2, x3, x4, x5, x6, x7, x8, x9⟩ := hx
  rcases x4 with z | z
  · have := x8 o ho
    rw [z, decide_eq_true rfl] at this
    unfold f_X3_isWord at this
    rw [if_neg (by decide)] at this
    cases this
  · exact z
theorem item_both {v v' e' : Nat → Nat} {now : Nat → Int32} (hr : RN v now) (hv : Vd v) {t : Nat → Nat} {n : Nat} {tb tp : Nat → Int32} (h : TPx t n tb tp) {N : Nat} (hN : 2000 ≤ N) {p q c w o : Nat} {x y : Int32} (hx : LX t n N tb tp p q c w o x y)
    {bs ss ds ru be : Int32} {bc sc dcl items : Nat → Int32} (hD : DS v v' e' bs bc ss sc ds dcl ru be) {m : Nat} (hm : m < 120) :
    (∃ p' q' c' w' o' x' y' v'' e'' bs' bc' ss' sc' ds' dcl' ru' be' items', p < p' ∧ LX t n N tb tp p' q' c' w' o' x' y' ∧ DS v v'' e'' bs' bc' ss' sc' ds' dcl' ru' be' ∧ IS6 v' e' v'' e'' items' m ∧ (∀ j, j < 6 * m → items' j = items j) ∧
      f_X3_item N (nI c) (nI p) (nI q) x tb (nI n) bs bc ss sc ds dcl (nI (v 0)) ru be = some (1, nI c', nI p', nI q', x', bs', bc', ss', sc', ds', dcl', ru', be') ∧
      f_X8_readItem N now tp (nI n) (nI p) (nI q) (nI (srt c)) y 0 items (nI m) (nI (v' 3)) (nI (dc v')) (nI (e' 60)) (nI (v' 5)) = some (nI p', nI q', nI (srt c'), y', 0, items', nI (m + 1), nI (v'' 3), nI (dc v''), nI (e'' 60), nI (v'' 5))) ∨
    (∃ pk : Nat, ∃ rc rm, pk ≤ n ∧ f_X3_item N (nI c) (nI p) (nI q) x tb (nI n) bs bc ss sc ds dcl (nI (v 0)) ru be = some rc ∧
      f_X8_readItem N now tp (nI n) (nI p) (nI q) (nI (srt c)) y 0 items (nI m) (nI (v' 3)) (nI (dc v')) (nI (e' 60)) (nI (v' 5)) = some rm ∧ rc.1 = 0 ∧ rc.2.2.1 = nI pk ∧ rm.1 = nI pk ∧ rm.2.2.2.2.1 = 1) := by
  obtain ⟨hv', he', h0, rfl, hb, rfl, hs, rfl, hdl, rfl, rfl⟩ := hD
  have h8 := vd_hi hv
  have h3 := vd_3 hv'
  have h5 := vd_5 hv'
  have h60 := he'.1
  obtain ⟨x1, x2, x3, x4, x5, x6, x7, x8, x9⟩ := id hx
  have eK := m_kind hN x9
  generalize hC : f_X3_item N (nI c) (nI p) (nI q) x tb (nI n) (nI (v' 3)) bc (nI (v' 5)) sc (nI (e' 60)) dcl (nI (v 0)) (nI (v' 1)) (nI (v' 2)) = RC
  generalize hM : f_X8_readItem N now tp (nI n) (nI p) (nI q) (nI (srt c)) y 0 items (nI m) (nI (v' 3)) (nI (dc v')) (nI (e' 60)) (nI (v' 5)) = RM
  unfold f_X3_item at hC
  unfold f_X8_readItem at hM
  by_cases hj : ∃ j, j < 6 ∧ kidx j = o
  · obtain ⟨j, hj6, hjo⟩ := hj
    have nk := kidx_not ⟨j, hj6⟩
    dsimp only at nk
    rw [hjo] at nk
    have hpq := lx_word hx (by rw [← hjo]; exact kidx_17 j)
    have eJ : kl o 6 = nI j := by rw [← hjo]; exact kl_at ⟨j, hj6⟩
    have e60 := c_item60 (N := N) (tb := tb) (x := x) (bs := nI (v' 3)) (ss := nI (v' 5)) (ds := nI (e' 60)) (pe := nI (v 0)) (ru := nI (v' 1)) (be := nI (v' 2)) (bc := bc) (sc := sc) (dcl := dcl) (K := (fun u_16 => some (0, nI c, nI p, nI q, x, nI (v' 3), bc, nI (v' 5), sc, nI (e' 60), dcl, nI (v' 1), nI (v' 2)))) x8 hj6 hjo j N 0 (by omega) (by omega)
    rw [eJ] at eK
    rw [x8 0 (by decide), bd_s] at hC
    try dsimp only at hC
    rw [if_pos (b2d_f (Ne.symm nk.1))] at hC
    try dsimp only at hC
    rw [x8 2 (by decide), bd_s] at hC
    try dsimp only at hC
    rw [if_pos (b2d_f (Ne.symm nk.2.1))] at hC
    try dsimp only at hC
    rw [x8 5 (by decide), bd_s] at hC
    try dsimp only at hC
    rw [if_pos (b2d_f (Ne.symm nk.2.2.1))] at hC
    try dsimp only at hC
    rw [x8 8 (by decide), bd_s] at hC
    try dsimp only at hC
    rw [if_pos (b2d_f (Ne.symm nk.2.2.2))] at hC
    try dsimp only at hC
    rw [show f_X3_item_60 N (nI c) (nI p) (nI q) x tb (nI n) (nI (v' 3)) bc (nI (v' 5)) sc (nI (e' 60)) dcl (nI (v 0)) (nI (v' 1)) (nI (v' 2)) (fun u_16 => some (0, nI c, nI p, nI q, x, nI (v' 3), bc, nI (v' 5), sc, nI (e' 60), dcl, nI (v' 1), nI (v' 2))) N (0 : Int32) = _ from e60] at hC
    rw [eK, bd_s] at hM
    try dsimp only at hM
    rw [if_neg (show ¬ nI j < (0 : Int32) from nI_pos (by omega))] at hM
    try dsimp only at hM
    rcases deed_both (cells := dcl) (items := items) hr hv h60 h hN hx hpq hm (nI j) with ⟨p', q', c', w', o', x', y', hh, a, b, tt, a1, a2, a3, a4, a5, a6, a7, a8, a9, a10⟩ | ⟨pk, c1, q1, x1', sz, cl, e1, s1, z1, it1, m1, b1, hpk, a9, a10⟩
    · left
      rw [a9, bd_s] at hC
      try dsimp only at hC
      rw [show isb (1 : Int32) = true from rfl, gd_tt] at hC
      try dsimp only at hC
      rw [a10, bd_s] at hM
      try dsimp only at hM
      refine ⟨p', q', c', w', o', x', y', v', adD e' j hh a b tt, _, _, _, _, _, _, _, _, _, a1, a2, ⟨hv', adD_ve he' a8 hj6 a3 a4 a5 a6 a7, h0, rfl, hb, rfl, hs, by rw [adD_60], rl_deed hdl j hh a b tt, rfl, rfl⟩, is_deed hm a8 hj6 (by omega) (by omega) (by omega) (by omega), fun j hj => it6_old _ _ _ _ _ _ _ _ hj, hC.symm, ?_⟩
      rw [← hM, adD_60]
    · right
      rw [a9, bd_s] at hC
      try dsimp only at hC
      rw [show isb (0 : Int32) = true from rfl, gd_tt] at hC
      try dsimp only at hC
      rw [a10, bd_s] at hM
      try dsimp only at hM
      exact ⟨pk, _, _, hpk, hC.symm, hM.symm, rfl, rfl, rfl, rfl⟩
  · have eK' : f_X8_kindTold N tp (nI p) (nI q) (nI (srt c)) = some (-1) := by rw [eK, kl_none (fun k hk z => hj ⟨k, hk, z⟩)]
    by_cases g0 : 0 = o
    · subst g0
      have hpq := lx_word hx (by decide)
      rw [x8 0 (by decide), bd_s] at hC
      try dsimp only at hC
      rw [if_neg (b2d_t rfl)] at hC
      try dsimp only at hC
      rw [eK', bd_s] at hM
      try dsimp only at hM
      rw [if_pos (show (-1 : Int32) < 0 by decide)] at hM
      try dsimp only at hM
      rw [x9 0 (by decide), bd_s] at hM
      try dsimp only at hM
      rw [if_neg (b2d_t rfl)] at hM
      try dsimp only at hM
      rcases bow_both (items := items) hr hv hv' h0 h hN hx hpq hb hm with ⟨p', q', c', w', o', x', y', hh, a, b, tt, a1, a2, a3, a4, a5, a6, a7, a8, a81, a9, a10⟩ | ⟨pk, c1, q1, x1', sz, cl, e1, s1, z1, it1, m1, b1, d1, hpk, a9, a10⟩
      · left
        rw [a9, bd_s] at hC
        try dsimp only at hC
        rw [show isb (1 : Int32) = true from rfl, gd_tt] at hC
        try dsimp only at hC
        rw [a10, bd_s] at hM
        try dsimp only at hM
        refine ⟨p', q', c', w', o', x', y', adB v' hh a b tt, e', _, _, _, _, _, _, _, _, _, a1, a2, ⟨adB_vd hv' a81 a3 (by omega) (by omega) a6 a7 a8, he', (adB_old (by decide) (by omega)).trans h0, by rw [adB_3], rl_bow hb hh a b tt, by rw [adB_old (k := 5) (by decide) (by omega)], fun j hj => by rw [hs j hj, adB_old (by omega) (by omega)], rfl, hdl, by rw [adB_old (k := 1) (by decide) (by omega)], by rw [adB_old (k := 2) (by decide) (by omega)]⟩, is_bow hm a81 (by omega) (by omega) (by omega) (by omega), fun j hj => it6_old _ _ _ _ _ _ _ _ hj, hC.symm, ?_⟩
        rw [← hM, adB_3, adB_dc, adB_old (k := 5) (by decide) (by omega)]
      · right
        rw [a9, bd_s] at hC
        try dsimp only at hC
        rw [show isb (0 : Int32) = true from rfl, gd_tt] at hC
        try dsimp only at hC
        rw [a10, bd_s] at hM
        try dsimp only at hM
        exact ⟨pk, _, _, hpk, hC.symm, hM.symm, rfl, rfl, rfl, rfl⟩
    · by_cases g2 : 2 = o
      · subst g2
        have hpq := lx_word hx (by decide)
        rw [x8 0 (by decide), bd_s] at hC
        try dsimp only at hC
        rw [if_pos (b2d_f (by decide))] at hC
        try dsimp only at hC
        rw [x8 2 (by decide), bd_s] at hC
        try dsimp only at hC
        rw [if_neg (b2d_t rfl)] at hC
        try dsimp only at hC
        rw [eK', bd_s] at hM
        try dsimp only at hM
        rw [if_pos (show (-1 : Int32) < 0 by decide)] at hM
        try dsimp only at hM
        rw [x9 0 (by decide), bd_s] at hM
        try dsimp only at hM
        rw [if_pos (b2d_f (by decide))] at hM
        try dsimp only at hM
        rw [x9 2 (by decide), bd_s] at hM
        try dsimp only at hM
        rw [if_neg (b2d_t rfl)] at hM
        try dsimp only at hM
        rcases say_both (cells := sc) (items := items) hr hv hv' h hN hx hpq hm with ⟨p', q', c', w', o', x', y', hh, a, b, tt, a1, a2, a3, a4, a5, a7, a81, a9, a10⟩ | ⟨pk, c1, q1, x1', sz, cl, e1, s1, z1, it1, m1, b1, hpk, a9, a10⟩
        · left
          rw [a9, bd_s] at hC
          try dsimp only at hC
          rw [show isb (1 : Int32) = true from rfl, gd_tt] at hC
          try dsimp only at hC
          rw [a10, bd_s] at hM
          try dsimp only at hM
          refine ⟨p', q', c', w', o', x', y', adS v' hh a b tt, e', _, _, _, _, _, _, _, _, _, a1, a2, ⟨adS_vd hv' a81 a3 (by omega) (by omega) a7, he', (adS_old (by decide) (by omega)).trans h0, by rw [adS_old (k := 3) (by decide) (by omega)], fun j hj => by rw [hb j hj, adS_old (by omega) (by omega)], by rw [adS_5], rl_say hs hh a b tt, rfl, hdl, by rw [adS_old (k := 1) (by decide) (by omega)], by rw [adS_old (k := 2) (by decide) (by omega)]⟩, is_say hm a81 (by omega) (by omega) (by omega) (by omega), fun j hj => it6_old _ _ _ _ _ _ _ _ hj, hC.symm, ?_⟩
          rw [← hM, adS_5, adS_dc h3, adS_old (k := 3) (by decide) (by omega)]
        · right
          rw [a9, bd_s] at hC
          try dsimp only at hC
          rw [show isb (0 : Int32) = true from rfl, gd_tt] at hC
          try dsimp only at hC
          rw [a10, bd_s] at hM
          try dsimp only at hM
          exact ⟨pk, _, _, hpk, hC.symm, hM.symm, rfl, rfl, rfl, rfl⟩
      · by_cases g5 : 5 = o
        · subst g5
          obtain ⟨pa, qa, ca, wa, oa, xa, ya, la1, la2, la3, la4⟩ := lx_next h hN (q := q) x2
          obtain ⟨y1, y2, y3, y4, y5, y6, y7, y8, y9⟩ := id la2
          obtain ⟨pb, qb, cb, wb, ob, xb, yb, lb1, lb2, lb3, lb4⟩ := lx_next h hN (q := qa) y2
          have hpq := lx_word hx (by decide)
          rw [x8 0 (by decide), bd_s] at hC
          try dsimp only at hC
          rw [if_pos (b2d_f (by decide))] at hC
          try dsimp only at hC
          rw [x8 2 (by decide), bd_s] at hC
          try dsimp only at hC
          rw [if_pos (b2d_f (by decide))] at hC
          try dsimp only at hC
          rw [x8 5 (by decide), bd_s] at hC
          try dsimp only at hC
          rw [if_neg (b2d_t rfl)] at hC
          try dsimp only at hC
          unfold f_X3_switchItem at hC
          rw [la3 _ _ _, bd_s] at hC
          try dsimp only at hC
          rw [eK', bd_s] at hM
          try dsimp only at hM
          rw [if_pos (show (-1 : Int32) < 0 by decide)] at hM
          try dsimp only at hM
          rw [x9 0 (by decide), bd_s] at hM
          try dsimp only at hM
          rw [if_pos (b2d_f (by decide))] at hM
          try dsimp only at hM
          rw [x9 2 (by decide), bd_s] at hM
          try dsimp only at hM
          rw [if_pos (b2d_f (by decide))] at hM
          try dsimp only at hM
          rw [x9 8 (by decide), bd_s] at hM
          try dsimp only at hM
          rw [if_pos (b2d_f (by decide)), bd_s] at hM
          try dsimp only at hM
          rw [x9 5 (by decide), bd_s] at hM
          try dsimp only at hM
          rw [if_neg (b2d_t rfl), bd_s] at hM
          try dsimp only at hM
          rw [m_must_1 (la4 _ _ _), bd_s] at hM
          try dsimp only at hM
          rw [y9 7 (by decide), bd_s] at hM
          try dsimp only at hM
          by_cases g7 : 7 = oa
          · left
            rw [c_one2 (t := t) y8 (w1 := 6) (w2 := 7) (by decide) (by decide) (by omega) g7 (lb3 _ _ _), bd_s] at hC
            try dsimp only at hC
            rw [if_neg (show ¬ (1 : Int32) = -1 by decide)] at hC
            try dsimp only at hC
            rw [if_pos rfl, bd_s] at hC
            try dsimp only at hC
            rw [if_neg (b2d_t g7), bd_s] at hM
            try dsimp only at hM
            rw [bd_s] at hM
            try dsimp only at hM
            rw [if_neg (b2d_t g7), bd_s] at hM
            try dsimp only at hM
            rw [m_must_1 (lb4 _ _ _), bd_s] at hM
            try dsimp only at hM
            rw [m_item hm _ _ _ _ _ _, bd_s] at hM
            try dsimp only at hM
            refine ⟨pb, qb, cb, wb, ob, xb, yb, un v' (1 + 0) 1, e', _, _, _, _, _, _, _, _, _, by omega, lb2, ⟨vd_sw hv' (by decide) (by decide), he', (un_n (by decide)).trans h0, rfl, fun j hj => by rw [hb j hj, un_n (by omega)], rfl, fun j hj => by rw [hs j hj, un_n (by omega)], rfl, hdl, rfl, rfl⟩, is_sw (k := 0) (z := 1) hm (by decide) (by decide), fun j hj => it6_old _ _ _ _ _ _ _ _ hj, hC.symm, ?_⟩
            rw [← hM]
            have hd : dc (un v' (1 + 0) 1) = dc v' := dbc_congr (v' 3) (fun b hb => un_n (by omega))
            rw [hd]; rfl
          · by_cases g6 : 6 = oa
            · left
              rw [c_one1 (t := t) y8 (w1 := 6) (w2 := 7) (by decide) g6 (lb3 _ _ _), bd_s] at hC
              try dsimp only at hC
              rw [if_neg (show ¬ (0 : Int32) = -1 by decide)] at hC
              try dsimp only at hC
              rw [if_neg (show ¬ (0 : Int32) = 1 by decide), bd_s] at hC
              try dsimp only at hC
              rw [if_pos (b2d_f g7), bd_s] at hM
              try dsimp only at hM
              rw [bd_s] at hM
              try dsimp only at hM
              rw [if_pos (b2d_f g7), y9 6 (by decide), bd_s, if_neg (b2d_t g6), bd_s] at hM
              try dsimp only at hM
              rw [m_must_1 (lb4 _ _ _), bd_s] at hM
              try dsimp only at hM
              rw [m_item hm _ _ _ _ _ _, bd_s] at hM
              try dsimp only at hM
              refine ⟨pb, qb, cb, wb, ob, xb, yb, un v' (1 + 0) 0, e', _, _, _, _, _, _, _, _, _, by omega, lb2, ⟨vd_sw hv' (by decide) (by decide), he', (un_n (by decide)).trans h0, rfl, fun j hj => by rw [hb j hj, un_n (by omega)], rfl, fun j hj => by rw [hs j hj, un_n (by omega)], rfl, hdl, rfl, rfl⟩, is_sw (k := 0) (z := 0) hm (by decide) (by decide), fun j hj => it6_old _ _ _ _ _ _ _ _ hj, hC.symm, ?_⟩
              rw [← hM]
              have hd : dc (un v' (1 + 0) 0) = dc v' := dbc_congr (v' 3) (fun b hb => un_n (by omega))
              rw [hd]; rfl
            · right
              rw [c_one0 (t := t) y8 (w1 := 6) (w2 := 7) (by decide) (by decide) g6 g7, bd_s] at hC
              try dsimp only at hC
              rw [if_pos rfl, bd_s] at hC
              try dsimp only at hC
              rw [if_pos (b2d_f g7), bd_s] at hM
              try dsimp only at hM
              rw [bd_s] at hM
              try dsimp only at hM
              rw [if_pos (b2d_f g7), y9 6 (by decide), bd_s, if_pos (b2d_f g6), bd_s] at hM
              try dsimp only at hM
              rw [m_must_0, bd_s] at hM
              try dsimp only at hM
              rw [m_item hm _ _ _ _ _ _, bd_s] at hM
              try dsimp only at hM
              exact ⟨pa, _, _, lx_le la2, hC.symm, hM.symm, rfl, rfl, rfl, rfl⟩
        · by_cases g8 : 8 = o
          · subst g8
            obtain ⟨pa, qa, ca, wa, oa, xa, ya, la1, la2, la3, la4⟩ := lx_next h hN (q := q) x2
            obtain ⟨y1, y2, y3, y4, y5, y6, y7, y8, y9⟩ := id la2
            obtain ⟨pb, qb, cb, wb, ob, xb, yb, lb1, lb2, lb3, lb4⟩ := lx_next h hN (q := qa) y2
            have hpq := lx_word hx (by decide)
            rw [x8 0 (by decide), bd_s] at hC
            try dsimp only at hC
            rw [if_pos (b2d_f (by decide))] at hC
            try dsimp only at hC
            rw [x8 2 (by decide), bd_s] at hC
            try dsimp only at hC
            rw [if_pos (b2d_f (by decide))] at hC
            try dsimp only at hC
            rw [x8 5 (by decide), bd_s] at hC
            try dsimp only at hC
            rw [if_pos (b2d_f (by decide))] at hC
            try dsimp only at hC
            rw [x8 8 (by decide), bd_s] at hC
            try dsimp only at hC
            rw [if_neg (b2d_t rfl)] at hC
            try dsimp only at hC
            unfold f_X3_switchItem at hC
            rw [la3 _ _ _, bd_s] at hC
            try dsimp only at hC
            rw [eK', bd_s] at hM
            try dsimp only at hM
            rw [if_pos (show (-1 : Int32) < 0 by decide)] at hM
            try dsimp only at hM
            rw [x9 0 (by decide), bd_s] at hM
            try dsimp only at hM
            rw [if_pos (b2d_f (by decide))] at hM
            try dsimp only at hM
            rw [x9 2 (by decide), bd_s] at hM
            try dsimp only at hM
            rw [if_pos (b2d_f (by decide))] at hM
            try dsimp only at hM
            rw [x9 8 (by decide), bd_s] at hM
            try dsimp only at hM
            rw [if_neg (b2d_t rfl), bd_s] at hM
            try dsimp only at hM
            rw [x9 5 (by decide), bd_s] at hM
            try dsimp only at hM
            rw [if_pos (b2d_f (by decide)), bd_s, if_neg (b2d_t rfl), bd_s] at hM
            try dsimp only at hM
            rw [m_must_1 (la4 _ _ _), bd_s] at hM
            try dsimp only at hM
            rw [y9 7 (by decide), bd_s] at hM
            try dsimp only at hM
            by_cases g7 : 7 = oa
            · left
              rw [c_one2 (t := t) y8 (w1 := 6) (w2 := 7) (by decide) (by decide) (by omega) g7 (lb3 _ _ _), bd_s] at hC
              try dsimp only at hC
              rw [if_neg (show ¬ (1 : Int32) = -1 by decide)] at hC
              try dsimp only at hC
              rw [if_pos rfl, bd_s] at hC
              try dsimp only at hC
              rw [if_neg (b2d_t g7), bd_s] at hM
              try dsimp only at hM
              rw [bd_s] at hM
              try dsimp only at hM
              rw [if_neg (b2d_t g7), bd_s] at hM
              try dsimp only at hM
              rw [m_must_1 (lb4 _ _ _), bd_s] at hM
              try dsimp only at hM
              rw [m_item hm _ _ _ _ _ _, bd_s] at hM
              try dsimp only at hM
              refine ⟨pb, qb, cb, wb, ob, xb, yb, un v' (1 + 1) 1, e', _, _, _, _, _, _, _, _, _, by omega, lb2, ⟨vd_sw hv' (by decide) (by decide), he', (un_n (by decide)).trans h0, rfl, fun j hj => by rw [hb j hj, un_n (by omega)], rfl, fun j hj => by rw [hs j hj, un_n (by omega)], rfl, hdl, rfl, rfl⟩, is_sw (k := 1) (z := 1) hm (by decide) (by decide), fun j hj => it6_old _ _ _ _ _ _ _ _ hj, hC.symm, ?_⟩
              rw [← hM]
              have hd : dc (un v' (1 + 1) 1) = dc v' := dbc_congr (v' 3) (fun b hb => un_n (by omega))
              rw [hd]; rfl
            · by_cases g6 : 6 = oa
              · left
                rw [c_one1 (t := t) y8 (w1 := 6) (w2 := 7) (by decide) g6 (lb3 _ _ _), bd_s] at hC
                try dsimp only at hC
                rw [if_neg (show ¬ (0 : Int32) = -1 by decide)] at hC
                try dsimp only at hC
                rw [if_neg (show ¬ (0 : Int32) = 1 by decide), bd_s] at hC
                try dsimp only at hC
                rw [if_pos (b2d_f g7), bd_s] at hM
                try dsimp only at hM
                rw [bd_s] at hM
                try dsimp only at hM
                rw [if_pos (b2d_f g7), y9 6 (by decide), bd_s, if_neg (b2d_t g6), bd_s] at hM
                try dsimp only at hM
                rw [m_must_1 (lb4 _ _ _), bd_s] at hM
                try dsimp only at hM
                rw [m_item hm _ _ _ _ _ _, bd_s] at hM
                try dsimp only at hM
                refine ⟨pb, qb, cb, wb, ob, xb, yb, un v' (1 + 1) 0, e', _, _, _, _, _, _, _, _, _, by omega, lb2, ⟨vd_sw hv' (by decide) (by decide), he', (un_n (by decide)).trans h0, rfl, fun j hj => by rw [hb j hj, un_n (by omega)], rfl, fun j hj => by rw [hs j hj, un_n (by omega)], rfl, hdl, rfl, rfl⟩, is_sw (k := 1) (z := 0) hm (by decide) (by decide), fun j hj => it6_old _ _ _ _ _ _ _ _ hj, hC.symm, ?_⟩
                rw [← hM]
                have hd : dc (un v' (1 + 1) 0) = dc v' := dbc_congr (v' 3) (fun b hb => un_n (by omega))
                rw [hd]; rfl
              · right
                rw [c_one0 (t := t) y8 (w1 := 6) (w2 := 7) (by decide) (by decide) g6 g7, bd_s] at hC
                try dsimp only at hC
                rw [if_pos rfl, bd_s] at hC
                try dsimp only at hC
                rw [if_pos (b2d_f g7), bd_s] at hM
                try dsimp only at hM
                rw [bd_s] at hM
                try dsimp only at hM
                rw [if_pos (b2d_f g7), y9 6 (by decide), bd_s, if_pos (b2d_f g6), bd_s] at hM
                try dsimp only at hM
                rw [m_must_0, bd_s] at hM
                try dsimp only at hM
                rw [m_item hm _ _ _ _ _ _, bd_s] at hM
                try dsimp only at hM
                exact ⟨pa, _, _, lx_le la2, hC.symm, hM.symm, rfl, rfl, rfl, rfl⟩
          · right
            have e60 := c_item60n (N := N) (tb := tb) (x := x) (bs := nI (v' 3)) (ss := nI (v' 5)) (ds := nI (e' 60)) (pe := nI (v 0)) (ru := nI (v' 1)) (be := nI (v' 2)) (bc := bc) (sc := sc) (dcl := dcl) (K := (fun u_16 => some (0, nI c, nI p, nI q, x, nI (v' 3), bc, nI (v' 5), sc, nI (e' 60), dcl, nI (v' 1), nI (v' 2)))) x8 (fun k hk z => hj ⟨k, hk, z⟩) 6 N 0 (by omega) (by omega)
            have ex1 : ∀ b : Bool, ∃ z : Int32, (if b2 b = (0 : Int32) then some (0 : Int32) else some 1) = some z := fun b => by cases b; exact ⟨_, rfl⟩; exact ⟨_, rfl⟩
            have ex2 : ∀ a b : Bool, ∃ z : Int32, (if b2 a = (0 : Int32) then (bd (some (b2 b)) (fun u_9 => (if u_9 = (0 : Int32) then some (0 : Int32) else some 1))) else some 1) = some z := fun a b => by cases a <;> cases b <;> exact ⟨_, rfl⟩
            obtain ⟨z1, ez1⟩ := ex1 (decide (7 = o))
            obtain ⟨z2, ez2⟩ := ex2 (decide (7 = o)) (decide (6 = o))
            rw [x8 0 (by decide), bd_s] at hC
            try dsimp only at hC
            rw [if_pos (b2d_f g0)] at hC
            try dsimp only at hC
            rw [x8 2 (by decide), bd_s] at hC
            try dsimp only at hC
            rw [if_pos (b2d_f g2)] at hC
            try dsimp only at hC
            rw [x8 5 (by decide), bd_s] at hC
            try dsimp only at hC
            rw [if_pos (b2d_f g5)] at hC
            try dsimp only at hC
            rw [x8 8 (by decide), bd_s] at hC
            try dsimp only at hC
            rw [if_pos (b2d_f g8)] at hC
            try dsimp only at hC
            rw [show f_X3_item_60 N (nI c) (nI p) (nI q) x tb (nI n) (nI (v' 3)) bc (nI (v' 5)) sc (nI (e' 60)) dcl (nI (v 0)) (nI (v' 1)) (nI (v' 2)) (fun u_16 => some (0, nI c, nI p, nI q, x, nI (v' 3), bc, nI (v' 5), sc, nI (e' 60), dcl, nI (v' 1), nI (v' 2))) N (0 : Int32) = _ from e60] at hC
            rw [eK', bd_s] at hM
            try dsimp only at hM
            rw [if_pos (show (-1 : Int32) < 0 by decide)] at hM
            try dsimp only at hM
            rw [x9 0 (by decide), bd_s] at hM
            try dsimp only at hM
            rw [if_pos (b2d_f g0)] at hM
            try dsimp only at hM
            rw [x9 2 (by decide), bd_s] at hM
            try dsimp only at hM
            rw [if_pos (b2d_f g2)] at hM
            try dsimp only at hM
            rw [x9 8 (by decide), bd_s] at hM
            try dsimp only at hM
            rw [if_pos (b2d_f g8), bd_s] at hM
            try dsimp only at hM
            rw [x9 5 (by decide), bd_s] at hM
            try dsimp only at hM
            rw [if_pos (b2d_f g5), bd_s, if_pos (b2d_f g8), bd_s] at hM
            try dsimp only at hM
            rw [m_must_0, bd_s] at hM
            try dsimp only at hM
            rw [x9 7 (by decide), bd_s] at hM
            try dsimp only at hM
            rw [ez1, bd_s] at hM
            try dsimp only at hM
            rw [bd_s] at hM
            try dsimp only at hM
            rw [x9 6 (by decide)] at hM
            try dsimp only at hM
            rw [ez2, bd_s] at hM
            try dsimp only at hM
            rw [m_must_w, bd_s] at hM
            try dsimp only at hM
            rw [m_item hm _ _ _ _ _ _, bd_s] at hM
            try dsimp only at hM
            exact ⟨p, _, _, lx_le hx, hC.symm, hM.symm, rfl, rfl, rfl, rfl⟩
