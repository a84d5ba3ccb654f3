/-! ===== a bow in the text ===== -/
theorem bow_both {v v' : Nat → Nat} {now : Nat → Int32} (hr : RN v now) (hv : Vd v) (hv' : Vd v') (h0 : v' 0 = v 0) {t : Nat → Nat} {n : Nat} {tb tp : Nat → Int32} (h : TPx t n tb tp) {N : Nat} (hN : 2000 ≤ N) {p q c w o : Nat} {x y : Int32} (hx : LX t n N tb tp p q c w o x y) (hpq : p < q)
    {cells items : Nat → Int32} (hb : ∀ j, j < 80 → cells j = nI (v' (6 + j))) {m : Nat} (hm : m < 120) :
    (∃ p' q' c' w' o' x' y' hh a b tt, p < p' ∧ LX t n N tb tp p' q' c' w' o' x' y' ∧ hh < 100 ∧ a < v 0 ∧ b < v 0 ∧ a ≠ b ∧ tt ≤ 10 ∧ (tt < 10 → dc v' < 6) ∧ v' 3 < 20 ∧
      f_X3_bowItem N (nI c) (nI p) (nI q) x tb (nI n) (nI (v' 3)) cells (nI (v 0)) = some (1, nI c', nI p', nI q', x', nI (v' 3 + 1), upd (upd (upd (upd cells (v' 3 * 4 + 0) (nI hh)) (v' 3 * 4 + 1) (nI a)) (v' 3 * 4 + 2) (nI b)) (v' 3 * 4 + 3) (nI tt)) ∧
      f_X8_readBow N now tp (nI n) (nI p) (nI q) (nI (srt c)) y 0 items (nI m) (nI (v' 3)) (nI (dc v')) = some (nI p', nI q', nI (srt c'), y', 0, it6 items m 10 (nI hh) (nI a) (nI b) (nI tt) 0, nI (m + 1), nI (v' 3 + 1), nI (dc v' + if tt < 10 then 1 else 0))) ∨
    (∃ pk : Nat, ∃ c1 q1 x1 sz cl e s z it m1 b1 d1, pk ≤ n ∧ f_X3_bowItem N (nI c) (nI p) (nI q) x tb (nI n) (nI (v' 3)) cells (nI (v 0)) = some (0, c1, nI pk, q1, x1, sz, cl) ∧
      f_X8_readBow N now tp (nI n) (nI p) (nI q) (nI (srt c)) y 0 items (nI m) (nI (v' 3)) (nI (dc v')) = some (nI pk, e, s, z, 1, it, m1, b1, d1)) := by
  have h8 := vd_hi hv
  have h3 := vd_3 hv'
  have h6 := vd_dc hv'
  obtain ⟨x1, x2, x3, x4, x5, x6, x7, x8, x9⟩ := id hx
  have eF : f_X4_isFull 20 (nI (v' 3)) = some (b2 (decide (20 ≤ v' 3))) := c_isFull (l := 20) (by decide) (by omega)
  generalize hC : f_X3_bowItem N (nI c) (nI p) (nI q) x tb (nI n) (nI (v' 3)) cells (nI (v 0)) = RC
  generalize hM : f_X8_readBow N now tp (nI n) (nI p) (nI q) (nI (srt c)) y 0 items (nI m) (nI (v' 3)) (nI (dc v')) = RM
  unfold f_X3_bowItem at hC
  unfold f_X8_readBow at hM
  by_cases f0 : 20 ≤ v' 3
  · right
    rw [eF, bd_s] at hC
    try dsimp only at hC
    rw [if_neg (b2d_t f0)] at hC
    try dsimp only at hC
    rw [if_pos (show (20 : Int32) ≤ nI (v' 3) from nI_le (a := 20) f0 (by omega)), bd_s] at hM
    try dsimp only at hM
    rw [m_must_0, bd_s] at hM
    try dsimp only at hM
    rw [m_num_w, bd_s] at hM
    try dsimp only at hM
    rw [m_mask_w, bd_s] at hM
    try dsimp only at hM
    rw [m_other_w hr hv, bd_s] at hM
    try dsimp only at hM
    rw [if_neg (show ¬ (1 : Int32) = 0 by decide), bd_s] at hM
    try dsimp only at hM
    rw [m_item hm _ _ _ _ _ _, bd_s] at hM
    try dsimp only at hM
    exact ⟨_, _, _, _, _, _, _, _, _, _, _, _, _, (by first | exact lx_le hx | exact lx_le la2 | exact lx_le lb2 | exact lx_le lc2 | exact lx_le ld2 | exact lx_le le2 | exact lx_le lf2 | exact lx_le lg2), hC.symm, hM.symm⟩
  · obtain ⟨pa, qa, ca, wa, oa, xa, ya, la1, la2, la3, la4⟩ := lx_next h hN (q := q) x2
    rw [eF, bd_s] at hC
    try dsimp only at hC
    rw [if_pos (b2d_f f0)] at hC
    try dsimp only at hC
    rw [la3 _ _ _, bd_s] at hC
    try dsimp only at hC
    rw [if_neg (show ¬ (20 : Int32) ≤ nI (v' 3) from nI_ge (b := 20) (by omega) (by omega)), bd_s] at hM
    try dsimp only at hM
    rw [m_must_1 (la4 _ _ _), bd_s] at hM
    try dsimp only at hM
    rcases num_both h hN la2 (a1 := 100) (by omega) (A := 100) rfl (H := 99) (hH_c (k := 99) (by decide)) with ⟨-, u1, pb, qb, cb, wb, ob, xb, yb, lb1, lb2, lb3, lb4⟩ | ⟨-, lb3, lb4⟩
    · skip
      rw [lb3, bd_s] at hC
      try dsimp only at hC
      rw [if_neg (nI_m1' (by omega))] at hC
      try dsimp only at hC
      rw [lb4, bd_s] at hM
      try dsimp only at hM
      rcases num_both h hN lb2 (a1 := v 0) (by omega) (A := nI (v 0)) rfl (H := nI (v 0) - 1) (hH_n (by omega)) with ⟨-, u2, pc, qc, cc, wc', oc, xc, yc, lc1, lc2, lc3, lc4⟩ | ⟨-, lc3, lc4⟩
      · have em : f_X8_mask N now tp (nI n) (nI pb) (nI qb) (nI (srt cb)) yb 0 = some (nI wb, nI pc, nI qc, nI (srt cc), yc, 0) := by
          unfold f_X8_mask
          rw [show (0 : Int32).toNatClampNeg = 0 from rfl, rn_at hr (k := 0) (by decide) (by decide) (by decide), lc4, bd_s]
        rw [lc3, bd_s, bd_s] at hC
        try dsimp only at hC
        rw [if_neg (nI_m1' (by omega))] at hC
        try dsimp only at hC
        rw [em, bd_s] at hM
        try dsimp only at hM
        rcases other_both hr hv h hN lc2 u2 with ⟨u3, u4, pd, qd, cd, wd, od, xd, yd, ld1, ld2, ld3, ld4, ld5⟩ | ⟨ld3, ld5⟩ | ⟨ld3, ld4, ld5⟩
        · skip
          rw [ld3, bd_s] at hC
          try dsimp only at hC
          rw [if_pos rfl] at hC
          try dsimp only at hC
          rw [ld4, bd_s, bd_s] at hC
          try dsimp only at hC
          rw [if_neg (nI_m1' (by omega))] at hC
          try dsimp only at hC
          rw [ld5, bd_s] at hM
          try dsimp only at hM
          rw [if_pos rfl] at hM
          try dsimp only at hM
          obtain ⟨y1, y2, y3, y4, y5, y6, y7, y8, y9⟩ := id ld2
          have s1 := y8 1 (by decide)
          have s2 := y9 1 (by decide)
          by_cases g1 : 1 = od
          · rw [decide_eq_true g1] at s1 s2
            have eR := c_room hb h3 (fun b hb => (vd_b hv' b hb).2.2.2.2) h6 hN
            by_cases g2 : dc v' < 6
            · rw [decide_eq_true g2] at eR
              obtain ⟨pe, qe, ce, we, oe, xe, ye, le1, le2, le3, le4⟩ := lx_next h hN (q := qd) y2
              rw [s1, bd_s] at hC
              try dsimp only at hC
              rw [jn_s] at hC
              try dsimp only at hC
              rw [if_neg (show ¬ b2 true = 0 by decide)] at hC
              try dsimp only at hC
              rw [eR, bd_s] at hC
              try dsimp only at hC
              rw [if_neg (show ¬ b2 true = 0 by decide)] at hC
              try dsimp only at hC
              rw [le3 _ _ _, bd_s] at hC
              try dsimp only at hC
              rw [s2, bd_s] at hM
              try dsimp only at hM
              rw [if_neg (show ¬ b2 true = 0 by decide)] at hM
              try dsimp only at hM
              rw [if_neg (show ¬ (6 : Int32) ≤ nI (dc v') from nI_ge (b := 6) (by omega) (by omega)), bd_s] at hM
              try dsimp only at hM
              rw [m_must_1 (le4 _ _ _), bd_s] at hM
              try dsimp only at hM
              rcases num_both h hN le2 (a1 := 10) (by omega) (A := 10) rfl (H := 9) (hH_c (k := 9) (by decide)) with ⟨-, u5, pf, qf, cf, wf, of, xf, yf, lf1, lf2, lf3, lf4⟩ | ⟨-, lf3, lf4⟩
              · left
                have ea := c_add (w := 4) (l := 20) (n := v' 3) (nc := 80) (cells := cells) (a1 := nI wa) (a2 := nI wb) (a3 := nI wc') (a4 := nI we) (by omega) (by decide) (by decide) (by decide) (by decide) (by decide)
                have ea' : f_X4_add 20 4 (nI (v' 3)) cells 80 (nI wa) (nI wb) (nI wc') (nI we) = _ := ea
                rw [lf3, bd_s] at hC
                try dsimp only at hC
                rw [if_neg (nI_m1' (by omega))] at hC
                try dsimp only at hC
                rw [ea', bd_s] at hC
                try dsimp only at hC
                rw [if_neg (nI_m1' (by omega))] at hC
                try dsimp only at hC
                rw [lf4, bd_s, bd_s] at hM
                try dsimp only at hM
                rw [m_item hm _ _ _ _ _ _, bd_s] at hM
                try dsimp only at hM
                refine ⟨pf, qf, cf, wf, of, xf, yf, wa, wb, wc', we, (by have := la2.1; have := lb2.1; have := lc2.1; have := ld2.1; have := le2.1; omega), lf2, u1, u2, u3, Ne.symm u4, by omega, fun _ => g2, by omega, hC.symm, ?_⟩
                rw [← hM, if_pos u5, nI_1, nI_1]
              · right
                rw [lf3, bd_s] at hC
                try dsimp only at hC
                rw [if_pos rfl] at hC
                try dsimp only at hC
                rw [lf4, bd_s, bd_s] at hM
                try dsimp only at hM
                rw [m_item hm _ _ _ _ _ _, bd_s] at hM
                try dsimp only at hM
                exact ⟨_, _, _, _, _, _, _, _, _, _, _, _, _, (by first | exact lx_le hx | exact lx_le la2 | exact lx_le lb2 | exact lx_le lc2 | exact lx_le ld2 | exact lx_le le2 | exact lx_le lf2 | exact lx_le lg2), hC.symm, hM.symm⟩
            · rw [decide_eq_false g2] at eR
              right
              rw [s1, bd_s] at hC
              try dsimp only at hC
              rw [jn_s] at hC
              try dsimp only at hC
              rw [if_neg (show ¬ b2 true = 0 by decide)] at hC
              try dsimp only at hC
              rw [eR, bd_s] at hC
              try dsimp only at hC
              rw [if_pos (show b2 false = 0 by decide)] at hC
              try dsimp only at hC
              rw [s2, bd_s] at hM
              try dsimp only at hM
              rw [if_neg (show ¬ b2 true = 0 by decide)] at hM
              try dsimp only at hM
              rw [if_pos (show (6 : Int32) ≤ nI (dc v') from nI_le (a := 6) (by omega) (by omega)), bd_s] at hM
              try dsimp only at hM
              rw [m_must_0, bd_s] at hM
              try dsimp only at hM
              rw [m_num_w, bd_s, bd_s] at hM
              try dsimp only at hM
              rw [m_item hm _ _ _ _ _ _, bd_s] at hM
              try dsimp only at hM
              exact ⟨_, _, _, _, _, _, _, _, _, _, _, _, _, (by first | exact lx_le hx | exact lx_le la2 | exact lx_le lb2 | exact lx_le lc2 | exact lx_le ld2 | exact lx_le le2 | exact lx_le lf2 | exact lx_le lg2), hC.symm, hM.symm⟩
          · rw [decide_eq_false g1] at s1 s2
            left
            have ea' : f_X4_add 20 4 (nI (v' 3)) cells 80 (nI wa) (nI wb) (nI wc') 10 = _ := c_add (w := 4) (l := 20) (n := v' 3) (nc := 80) (cells := cells) (a1 := nI wa) (a2 := nI wb) (a3 := nI wc') (a4 := nI 10) (by omega) (by decide) (by decide) (by decide) (by decide) (by decide)
            rw [s1, bd_s] at hC
            try dsimp only at hC
            rw [jn_s] at hC
            try dsimp only at hC
            rw [if_pos (show b2 false = 0 by decide)] at hC
            try dsimp only at hC
            rw [if_neg (show ¬ (10 : Int32) = -1 by decide)] at hC
            try dsimp only at hC
            rw [ea', bd_s] at hC
            try dsimp only at hC
            rw [if_neg (nI_m1' (by omega))] at hC
            try dsimp only at hC
            rw [s2, bd_s] at hM
            try dsimp only at hM
            rw [if_pos (show b2 false = 0 by decide), bd_s] at hM
            try dsimp only at hM
            rw [m_item hm _ _ _ _ _ _, bd_s] at hM
            try dsimp only at hM
            refine ⟨pd, qd, cd, wd, od, xd, yd, wa, wb, wc', 10, (by have := la2.1; have := lb2.1; have := lc2.1; omega), ld2, u1, u2, u3, Ne.symm u4, by omega, fun z => absurd z (by decide), by omega, hC.symm, ?_⟩
            rw [← hM, if_neg (by decide), nI_1]; rfl
        · right
          rw [ld3, bd_s] at hC
          try dsimp only at hC
          rw [if_neg (show ¬ (1 : Int32) = 0 by decide), bd_s] at hC
          try dsimp only at hC
          rw [if_pos rfl] at hC
          try dsimp only at hC
          rw [ld5, bd_s] at hM
          try dsimp only at hM
          rw [if_neg (show ¬ (1 : Int32) = 0 by decide), bd_s] at hM
          try dsimp only at hM
          rw [m_item hm _ _ _ _ _ _, bd_s] at hM
          try dsimp only at hM
          exact ⟨_, _, _, _, _, _, _, _, _, _, _, _, _, (by first | exact lx_le hx | exact lx_le la2 | exact lx_le lb2 | exact lx_le lc2 | exact lx_le ld2 | exact lx_le le2 | exact lx_le lf2 | exact lx_le lg2), hC.symm, hM.symm⟩
        · right
          rw [ld3, bd_s] at hC
          try dsimp only at hC
          rw [if_pos rfl] at hC
          try dsimp only at hC
          rw [ld4, bd_s, bd_s] at hC
          try dsimp only at hC
          rw [if_pos rfl] at hC
          try dsimp only at hC
          rw [ld5, bd_s] at hM
          try dsimp only at hM
          rw [if_neg (show ¬ (1 : Int32) = 0 by decide), bd_s] at hM
          try dsimp only at hM
          rw [m_item hm _ _ _ _ _ _, bd_s] at hM
          try dsimp only at hM
          exact ⟨_, _, _, _, _, _, _, _, _, _, _, _, _, (by first | exact lx_le hx | exact lx_le la2 | exact lx_le lb2 | exact lx_le lc2 | exact lx_le ld2 | exact lx_le le2 | exact lx_le lf2 | exact lx_le lg2), hC.symm, hM.symm⟩
      · right
        have em : f_X8_mask N now tp (nI n) (nI pb) (nI qb) (nI (srt cb)) yb 0 = some (yb, nI pb, nI qb, nI (srt cb), yb, 1) := by
          unfold f_X8_mask
          rw [show (0 : Int32).toNatClampNeg = 0 from rfl, rn_at hr (k := 0) (by decide) (by decide) (by decide), lc4, bd_s]
        rw [lc3, bd_s, bd_s] at hC
        try dsimp only at hC
        rw [if_pos rfl, bd_s] at hC
        try dsimp only at hC
        rw [if_pos rfl] at hC
        try dsimp only at hC
        rw [em, bd_s] at hM
        try dsimp only at hM
        rw [m_other_w hr hv, bd_s] at hM
        try dsimp only at hM
        rw [if_neg (show ¬ (1 : Int32) = 0 by decide), bd_s] at hM
        try dsimp only at hM
        rw [m_item hm _ _ _ _ _ _, bd_s] at hM
        try dsimp only at hM
        exact ⟨_, _, _, _, _, _, _, _, _, _, _, _, _, (by first | exact lx_le hx | exact lx_le la2 | exact lx_le lb2 | exact lx_le lc2 | exact lx_le ld2 | exact lx_le le2 | exact lx_le lf2 | exact lx_le lg2), hC.symm, hM.symm⟩
    · right
      rw [lb3, bd_s] at hC
      try dsimp only at hC
      rw [if_pos rfl, bd_s] at hC
      try dsimp only at hC
      rw [if_pos rfl, bd_s] at hC
      try dsimp only at hC
      rw [if_pos rfl] at hC
      try dsimp only at hC
      rw [lb4, bd_s] at hM
      try dsimp only at hM
      rw [m_mask_w, bd_s] at hM
      try dsimp only at hM
      rw [m_other_w hr hv, bd_s] at hM
      try dsimp only at hM
      rw [if_neg (show ¬ (1 : Int32) = 0 by decide), bd_s] at hM
      try dsimp only at hM
      rw [m_item hm _ _ _ _ _ _, bd_s] at hM
      try dsimp only at hM
      exact ⟨_, _, _, _, _, _, _, _, _, _, _, _, _, (by first | exact lx_le hx | exact lx_le la2 | exact lx_le lb2 | exact lx_le lc2 | exact lx_le ld2 | exact lx_le le2 | exact lx_le lf2 | exact lx_le lg2), hC.symm, hM.symm⟩
