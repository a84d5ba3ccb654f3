theorem c_addDeed {s : Nat} {cells : Nat → Int32} {k hh a b tt : Int32} (hs : s < 12) : f_X0_addDeed (nI s) cells k hh a b tt = some (nI s, nI (s + 1), upd (upd (upd (upd (upd cells (s * 5 + 0) k) (s * 5 + 1) hh) (s * 5 + 2) a) (s * 5 + 3) b) (s * 5 + 4) tt) := by
  have e1 : f_X4_add 12 5 (nI s) cells 60 k hh a b = _ := c_add (w := 5) (l := 12) (n := s) (nc := 60) (cells := cells) (a1 := k) (a2 := hh) (a3 := a) (a4 := b) hs (by decide) (by decide) (by decide) (by decide) (by decide)
  unfold f_X0_addDeed
  rw [e1, bd_s]
  dsimp only
  rw [show (5 : Int32) = nI 5 from rfl, show (4 : Int32) = nI 4 from rfl, c_put (w := 5) (n := s + 1) (b := s) (i := 4) (nc := 60) (by omega) (by omega) (by decide) (by decide) (by omega) (by decide), bd_s]
theorem deed_both {v e' : Nat → Nat} {now : Nat → Int32} (hr : RN v now) (hv : Vd v) (h60 : e' 60 ≤ 12) {t : Nat → Nat} {n : Nat} {tb tp : Nat → Int32} (h : TPx t n tb tp) {N : Nat} (hN : 2000 ≤ N) {p q c w o : Nat} {x y : Int32} (hx : LX t n N tb tp p q c w o x y) (hpq : p < q)
    {cells items : Nat → Int32} {m : Nat} (hm : m < 120) (k : Int32) :
    (∃ p' q' c' w' o' x' y' hh a b tt, p < p' ∧ LX t n N tb tp p' q' c' w' o' x' y' ∧ hh < 100 ∧ a < v 0 ∧ b < v 0 ∧ a ≠ b ∧ tt < 1000 ∧ e' 60 < 12 ∧
      f_X3_deedItem N (nI c) (nI p) (nI q) x tb (nI n) (nI (e' 60)) cells (nI (v 0)) k = some (1, nI c', nI p', nI q', x', nI (e' 60 + 1), upd (upd (upd (upd (upd cells (e' 60 * 5 + 0) k) (e' 60 * 5 + 1) (nI hh)) (e' 60 * 5 + 2) (nI a)) (e' 60 * 5 + 3) (nI b)) (e' 60 * 5 + 4) (nI tt)) ∧
      f_X8_readDeed N now tp (nI n) (nI p) (nI q) (nI (srt c)) y 0 items (nI m) (nI (e' 60)) k = some (nI p', nI q', nI (srt c'), y', 0, it6 items m k (nI hh) (nI a) (nI b) (nI tt) 0, nI (m + 1), nI (e' 60 + 1))) ∨
    (∃ pk : Nat, ∃ c1 q1 x1 sz cl e s z it m1 b1, pk ≤ n ∧ f_X3_deedItem N (nI c) (nI p) (nI q) x tb (nI n) (nI (e' 60)) cells (nI (v 0)) k = some (0, c1, nI pk, q1, x1, sz, cl) ∧
      f_X8_readDeed N now tp (nI n) (nI p) (nI q) (nI (srt c)) y 0 items (nI m) (nI (e' 60)) k = some (nI pk, e, s, z, 1, it, m1, b1)) := by
  have h8 := vd_hi hv
  obtain ⟨x1, x2, x3, x4, x5, x6, x7, x8, x9⟩ := id hx
  have eF : f_X4_isFull 12 (nI (e' 60)) = some (b2 (decide (12 ≤ e' 60))) := c_isFull (l := 12) (by decide) (by omega)
  have n0 : now (0 : Int32).toNatClampNeg = nI (v 0) := rn_at hr (k := 0) (by decide) (by decide) (by decide)
  generalize hC : f_X3_deedItem N (nI c) (nI p) (nI q) x tb (nI n) (nI (e' 60)) cells (nI (v 0)) k = RC
  generalize hM : f_X8_readDeed N now tp (nI n) (nI p) (nI q) (nI (srt c)) y 0 items (nI m) (nI (e' 60)) k = RM
  unfold f_X3_deedItem at hC
  unfold f_X8_readDeed at hM
  have w10 : ¬ (1 : Int32) = 0 := by decide
  by_cases f0 : 12 ≤ e' 60
  · right
    rw [eF, bd_s] at hC
    try dsimp only at hC
    rw [if_neg (b2d_t f0)] at hC
    try dsimp only at hC
    rw [if_pos (show (12 : Int32) ≤ nI (e' 60) from nI_le (a := 12) f0 (by omega)), bd_s] at hM
    try dsimp only at hM
    rw [m_must_0, bd_s] at hM
    try dsimp only at hM
    rw [m_num_w, bd_s] at hM
    try dsimp only at hM
    rw [m_mask_w, bd_s] at hM
    try dsimp only at hM
    rw [x9 15 (by decide), bd_s] at hM
    try dsimp only at hM
    rw [m_must_w, bd_s] at hM
    try dsimp only at hM
    rw [m_other_w hr hv, bd_s] at hM
    try dsimp only at hM
    rw [if_neg w10, bd_s] at hM
    try dsimp only at hM
    rw [m_item hm _ _ _ _ _ _, bd_s] at hM
    try dsimp only at hM
    exact ⟨_, _, _, _, _, _, _, _, _, _, _, _, (by first | exact lx_le hx | exact lx_le la2 | exact lx_le lb2 | exact lx_le lc2 | exact lx_le ld2 | exact lx_le le2 | exact lx_le lf2 | exact lx_le lg2), hC.symm, hM.symm⟩
  · obtain ⟨pa, qa, ca, wa, oa, xa, ya, la1, la2, la3, la4⟩ := lx_next h hN (q := q) x2
    rw [eF, bd_s] at hC
    try dsimp only at hC
    rw [if_pos (b2d_f f0)] at hC
    try dsimp only at hC
    rw [la3 _ _ _, bd_s] at hC
    try dsimp only at hC
    rw [if_neg (show ¬ (12 : Int32) ≤ nI (e' 60) from nI_ge (b := 12) (by omega) (by omega)), bd_s] at hM
    try dsimp only at hM
    rw [m_must_1 (la4 _ _ _), bd_s] at hM
    try dsimp only at hM
    rcases num_both h hN la2 (a1 := 100) (by omega) (A := 100) rfl (H := 99) (hH_c (k := 99) (by decide)) with ⟨-, u1, pb, qb, cb, wb, ob, xb, yb, lb1, lb2, lb3, lb4⟩ | ⟨-, lb3, lb4⟩
    · skip
      rw [lb3, bd_s] at hC
      try dsimp only at hC
      rw [if_neg (nI_m1' (by omega))] at hC
      try dsimp only at hC
      rw [lb4, bd_s] at hM
      try dsimp only at hM
      rcases num_both h hN lb2 (a1 := v 0) (by omega) (A := nI (v 0)) rfl (H := nI (v 0) - 1) (hH_n (by omega)) with ⟨-, u2, pc, qc, cc, wc', oc, xc, yc, lc1, lc2, lc3, lc4⟩ | ⟨-, lc3, lc4⟩
      · have em : f_X8_mask N now tp (nI n) (nI pb) (nI qb) (nI (srt cb)) yb 0 = some (nI wb, nI pc, nI qc, nI (srt cc), yc, 0) := by
          unfold f_X8_mask
          rw [n0, lc4, bd_s]
        obtain ⟨y1, y2, y3, y4, y5, y6, y7, y8, y9⟩ := id lc2
        rw [lc3, bd_s, bd_s] at hC
        try dsimp only at hC
        rw [if_neg (nI_m1' (by omega))] at hC
        try dsimp only at hC
        rw [y8 15 (by decide), bd_s] at hC
        try dsimp only at hC
        rw [em, bd_s] at hM
        try dsimp only at hM
        rw [y9 15 (by decide), bd_s] at hM
        try dsimp only at hM
        by_cases g1 : 15 = oc
        · obtain ⟨pd, qd, cd, wd, od, xd, yd, ld1, ld2, ld3, ld4⟩ := lx_next h hN (q := qc) y2
          rw [if_neg (b2d_t g1)] at hC
          try dsimp only at hC
          rw [ld3 _ _ _, bd_s] at hC
          try dsimp only at hC
          rw [b2d_1 g1] at hM
          try dsimp only at hM
          rw [m_must_1 (ld4 _ _ _), bd_s] at hM
          try dsimp only at hM
          rcases other_both hr hv h hN ld2 u2 with ⟨u3, u4, pe, qe, ce, we, oe, xe, ye, le1, le2, le3, le4, le5⟩ | ⟨le3, le5⟩ | ⟨le3, le4, le5⟩
          · obtain ⟨z1, z2, z3, z4, z5, z6, z7, z8, z9⟩ := id le2
            rw [le3, bd_s] at hC
            try dsimp only at hC
            rw [if_pos rfl] at hC
            try dsimp only at hC
            rw [le4, bd_s, bd_s] at hC
            try dsimp only at hC
            rw [if_neg (nI_m1' (by omega))] at hC
            try dsimp only at hC
            rw [z8 16 (by decide), bd_s] at hC
            try dsimp only at hC
            rw [le5, bd_s] at hM
            try dsimp only at hM
            rw [if_pos rfl] at hM
            try dsimp only at hM
            rw [z9 16 (by decide), bd_s] at hM
            try dsimp only at hM
            by_cases g2 : 16 = oe
            · obtain ⟨pf, qf, cf, wf, of, xf, yf, lf1, lf2, lf3, lf4⟩ := lx_next h hN (q := qe) z2
              rw [if_neg (b2d_t g2)] at hC
              try dsimp only at hC
              rw [lf3 _ _ _, bd_s] at hC
              try dsimp only at hC
              rw [if_neg (b2d_t g2)] at hM
              try dsimp only at hM
              rw [m_must_1 (lf4 _ _ _), bd_s] at hM
              try dsimp only at hM
              rcases num_both h hN lf2 (a1 := 1000) (by omega) (A := 1000) rfl (H := 999) (hH_c (k := 999) (by decide)) with ⟨-, u5, pg, qg, cg, wg, og, xg, yg, lg1, lg2, lg3, lg4⟩ | ⟨-, lg3, lg4⟩
              · left
                rw [lg3, bd_s, bd_s] at hC
                try dsimp only at hC
                rw [if_neg (nI_m1' (by omega))] at hC
                try dsimp only at hC
                rw [c_addDeed (by omega), bd_s] at hC
                try dsimp only at hC
                rw [if_neg (nI_m1' (by omega))] at hC
                try dsimp only at hC
                rw [lg4, bd_s, bd_s] at hM
                try dsimp only at hM
                rw [m_item hm _ _ _ _ _ _, bd_s] at hM
                try dsimp only at hM
                refine ⟨pg, qg, cg, wg, og, xg, yg, wa, wb, wd, wf, (by have := la2.1; have := lb2.1; have := lc2.1; have := ld2.1; have := le2.1; have := lf2.1; omega), lg2, u1, u2, u3, Ne.symm u4, u5, by omega, hC.symm, ?_⟩
                rw [← hM, nI_1]
              · right
                rw [lg3, bd_s, bd_s] at hC
                try dsimp only at hC
                rw [if_pos rfl] at hC
                try dsimp only at hC
                rw [lg4, bd_s, bd_s] at hM
                try dsimp only at hM
                rw [m_item hm _ _ _ _ _ _, bd_s] at hM
                try dsimp only at hM
                exact ⟨_, _, _, _, _, _, _, _, _, _, _, _, (by first | exact lx_le hx | exact lx_le la2 | exact lx_le lb2 | exact lx_le lc2 | exact lx_le ld2 | exact lx_le le2 | exact lx_le lf2 | exact lx_le lg2), hC.symm, hM.symm⟩
            · left
              rw [if_pos (b2d_f g2), bd_s] at hC
              try dsimp only at hC
              rw [if_neg (show ¬ (10 : Int32) = -1 by decide)] at hC
              try dsimp only at hC
              rw [c_addDeed (by omega), bd_s] at hC
              try dsimp only at hC
              rw [if_neg (nI_m1' (by omega))] at hC
              try dsimp only at hC
              rw [if_pos (b2d_f g2), bd_s] at hM
              try dsimp only at hM
              rw [m_item hm _ _ _ _ _ _, bd_s] at hM
              try dsimp only at hM
              refine ⟨pe, qe, ce, we, oe, xe, ye, wa, wb, wd, 10, (by have := la2.1; have := lb2.1; have := lc2.1; have := ld2.1; omega), le2, u1, u2, u3, Ne.symm u4, by omega, by omega, hC.symm, ?_⟩
              rw [← hM, nI_1]; rfl
          · right
            rw [le3, bd_s] at hC
            try dsimp only at hC
            rw [if_neg w10, bd_s] at hC
            try dsimp only at hC
            rw [if_pos rfl] at hC
            try dsimp only at hC
            rw [le5, bd_s] at hM
            try dsimp only at hM
            rw [if_neg w10, bd_s] at hM
            try dsimp only at hM
            rw [m_item hm _ _ _ _ _ _, bd_s] at hM
            try dsimp only at hM
            exact ⟨_, _, _, _, _, _, _, _, _, _, _, _, (by first | exact lx_le hx | exact lx_le la2 | exact lx_le lb2 | exact lx_le lc2 | exact lx_le ld2 | exact lx_le le2 | exact lx_le lf2 | exact lx_le lg2), hC.symm, hM.symm⟩
          · right
            rw [le3, bd_s] at hC
            try dsimp only at hC
            rw [if_pos rfl] at hC
            try dsimp only at hC
            rw [le4, bd_s, bd_s] at hC
            try dsimp only at hC
            rw [if_pos rfl] at hC
            try dsimp only at hC
            rw [le5, bd_s] at hM
            try dsimp only at hM
            rw [if_neg w10, bd_s] at hM
            try dsimp only at hM
            rw [m_item hm _ _ _ _ _ _, bd_s] at hM
            try dsimp only at hM
            exact ⟨_, _, _, _, _, _, _, _, _, _, _, _, (by first | exact lx_le hx | exact lx_le la2 | exact lx_le lb2 | exact lx_le lc2 | exact lx_le ld2 | exact lx_le le2 | exact lx_le lf2 | exact lx_le lg2), hC.symm, hM.symm⟩
        · right
          rw [if_pos (b2d_f g1)] at hC
          try dsimp only at hC
          rw [b2d_f g1] at hM
          try dsimp only at hM
          rw [m_must_0, bd_s] at hM
          try dsimp only at hM
          rw [m_other_w hr hv, bd_s] at hM
          try dsimp only at hM
          rw [if_neg w10, bd_s] at hM
          try dsimp only at hM
          rw [m_item hm _ _ _ _ _ _, bd_s] at hM
          try dsimp only at hM
          exact ⟨_, _, _, _, _, _, _, _, _, _, _, _, (by first | exact lx_le hx | exact lx_le la2 | exact lx_le lb2 | exact lx_le lc2 | exact lx_le ld2 | exact lx_le le2 | exact lx_le lf2 | exact lx_le lg2), hC.symm, hM.symm⟩
      · right
        have em : f_X8_mask N now tp (nI n) (nI pb) (nI qb) (nI (srt cb)) yb 0 = some (yb, nI pb, nI qb, nI (srt cb), yb, 1) := by
          unfold f_X8_mask
          rw [n0, lc4, bd_s]
        have y9 := lb2.2.2.2.2.2.2.2.2
        rw [lc3, bd_s, bd_s] at hC
        try dsimp only at hC
        rw [if_pos rfl] at hC
        try dsimp only at hC
        rw [em, bd_s] at hM
        try dsimp only at hM
        rw [y9 15 (by decide), bd_s] at hM
        try dsimp only at hM
        rw [m_must_w, bd_s] at hM
        try dsimp only at hM
        rw [m_other_w hr hv, bd_s] at hM
        try dsimp only at hM
        rw [if_neg w10, bd_s] at hM
        try dsimp only at hM
        rw [m_item hm _ _ _ _ _ _, bd_s] at hM
        try dsimp only at hM
        exact ⟨_, _, _, _, _, _, _, _, _, _, _, _, (by first | exact lx_le hx | exact lx_le la2 | exact lx_le lb2 | exact lx_le lc2 | exact lx_le ld2 | exact lx_le le2 | exact lx_le lf2 | exact lx_le lg2), hC.symm, hM.symm⟩
    · right
      have y9 := la2.2.2.2.2.2.2.2.2
      rw [lb3, bd_s] at hC
      try dsimp only at hC
      rw [if_pos rfl, bd_s] at hC
      try dsimp only at hC
      rw [if_pos rfl] at hC
      try dsimp only at hC
      rw [lb4, bd_s] at hM
      try dsimp only at hM
      rw [m_mask_w, bd_s] at hM
      try dsimp only at hM
      rw [y9 15 (by decide), bd_s] at hM
      try dsimp only at hM
      rw [m_must_w, bd_s] at hM
      try dsimp only at hM
      rw [m_other_w hr hv, bd_s] at hM
      try dsimp only at hM
      rw [if_neg w10, bd_s] at hM
      try dsimp only at hM
      rw [m_item hm _ _ _ _ _ _, bd_s] at hM
      try dsimp only at hM
      exact ⟨_, _, _, _, _, _, _, _, _, _, _, _, (by first | exact lx_le hx | exact lx_le la2 | exact lx_le lb2 | exact lx_le lc2 | exact lx_le ld2 | exact lx_le le2 | exact lx_le lf2 | exact lx_le lg2), hC.symm, hM.symm⟩
