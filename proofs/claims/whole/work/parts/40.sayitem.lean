/-! ===== a saying, a deed, a switch in the text ===== -/
theorem c_one1 {t : Nat → Nat} {n N : Nat} {tb : Nat → Int32} {p q c o w1 w2 : Nat} {x : Int32} (x8 : ∀ a, a < 17 → f_X3_isWord N (nI c) (nI p) (nI q) tb (nI n) a = some (b2 (decide (a = o)))) (h1 : w1 < 17) (e : w1 = o) {c' p' q' x' : Int32} (hs : f_X3_step N (nI c) (nI p) (nI q) x tb (nI n) = some (c', p', q', x')) : f_X3_oneOf N (nI c) (nI p) (nI q) x tb (nI n) w1 w2 = some (0, c', p', q', x') := by
  unfold f_X3_oneOf
  rw [x8 w1 h1, bd_s, decide_eq_true e, if_neg (by decide), bd_s, if_neg (by decide), hs, bd_s]
theorem c_one2 {t : Nat → Nat} {n N : Nat} {tb : Nat → Int32} {p q c o w1 w2 : Nat} {x : Int32} (x8 : ∀ a, a < 17 → f_X3_isWord N (nI c) (nI p) (nI q) tb (nI n) a = some (b2 (decide (a = o)))) (h1 : w1 < 17) (h2 : w2 < 17) (e1 : ¬ w1 = o) (e : w2 = o) {c' p' q' x' : Int32} (hs : f_X3_step N (nI c) (nI p) (nI q) x tb (nI n) = some (c', p', q', x')) : f_X3_oneOf N (nI c) (nI p) (nI q) x tb (nI n) w1 w2 = some (1, c', p', q', x') := by
  unfold f_X3_oneOf
  rw [x8 w1 h1, bd_s, decide_eq_false e1, if_pos (by decide), x8 w2 h2, bd_s, decide_eq_true e, if_neg (by decide), bd_s, if_neg (by decide), hs, bd_s]
theorem c_one0 {t : Nat → Nat} {n N : Nat} {tb : Nat → Int32} {p q c o w1 w2 : Nat} {x : Int32} (x8 : ∀ a, a < 17 → f_X3_isWord N (nI c) (nI p) (nI q) tb (nI n) a = some (b2 (decide (a = o)))) (h1 : w1 < 17) (h2 : w2 < 17) (e1 : ¬ w1 = o) (e : ¬ w2 = o) : f_X3_oneOf N (nI c) (nI p) (nI q) x tb (nI n) w1 w2 = some (-1, nI c, nI p, nI q, x) := by
  unfold f_X3_oneOf
  rw [x8 w1 h1, bd_s, decide_eq_false e1, if_pos (by decide), x8 w2 h2, bd_s, decide_eq_false e, if_pos (by decide), bd_s, if_pos rfl]
theorem say_both {v v' : Nat → Nat} {now : Nat → Int32} (hr : RN v now) (hv : Vd v) (hv' : Vd v') {t : Nat → Nat} {n : Nat} {tb tp : Nat → Int32} (h : TPx t n tb tp) {N : Nat} (hN : 2000 ≤ N) {p q c w o : Nat} {x y : Int32} (hx : LX t n N tb tp p q c w o x y) (hpq : p < q)
    {cells items : Nat → Int32} {m : Nat} (hm : m < 120) :
    (∃ p' q' c' w' o' x' y' hh a b tt, p < p' ∧ LX t n N tb tp p' q' c' w' o' x' y' ∧ hh < 100 ∧ a < v 0 ∧ b < v 0 ∧ tt ≤ 1 ∧ v' 5 < 10 ∧
      f_X3_sayingItem N (nI c) (nI p) (nI q) x tb (nI n) (nI (v' 5)) cells (nI (v 0)) = some (1, nI c', nI p', nI q', x', nI (v' 5 + 1), upd (upd (upd (upd cells (v' 5 * 4 + 0) (nI hh)) (v' 5 * 4 + 1) (nI a)) (v' 5 * 4 + 2) (nI b)) (v' 5 * 4 + 3) (nI tt)) ∧
      f_X8_readSaying N now tp (nI n) (nI p) (nI q) (nI (srt c)) y 0 items (nI m) (nI (v' 5)) = some (nI p', nI q', nI (srt c'), y', 0, it6 items m 11 (nI hh) (nI a) (nI b) (nI tt) 0, nI (m + 1), nI (v' 5 + 1))) ∨
    (∃ pk : Nat, ∃ c1 q1 x1 sz cl e s z it m1 b1, pk ≤ n ∧ f_X3_sayingItem N (nI c) (nI p) (nI q) x tb (nI n) (nI (v' 5)) cells (nI (v 0)) = some (0, c1, nI pk, q1, x1, sz, cl) ∧
      f_X8_readSaying N now tp (nI n) (nI p) (nI q) (nI (srt c)) y 0 items (nI m) (nI (v' 5)) = some (nI pk, e, s, z, 1, it, m1, b1)) := by
  have h8 := vd_hi hv
  have h5 := vd_5 hv'
  obtain ⟨x1, x2, x3, x4, x5, x6, x7, x8, x9⟩ := id hx
  have eF : f_X4_isFull 10 (nI (v' 5)) = some (b2 (decide (10 ≤ v' 5))) := c_isFull (l := 10) (by decide) (by omega)
  have n0 : now (0 : Int32).toNatClampNeg = nI (v 0) := rn_at hr (k := 0) (by decide) (by decide) (by decide)
  generalize hC : f_X3_sayingItem N (nI c) (nI p) (nI q) x tb (nI n) (nI (v' 5)) cells (nI (v 0)) = RC
  generalize hM : f_X8_readSaying N now tp (nI n) (nI p) (nI q) (nI (srt c)) y 0 items (nI m) (nI (v' 5)) = RM
  unfold f_X3_sayingItem at hC
  unfold f_X8_readSaying at hM
  have ex1 : ∀ b : Bool, ∃ z : Int32, (if b2 b = (0 : Int32) then some (0 : Int32) else some 1) = some z := fun b => by cases b; exact ⟨_, rfl⟩; exact ⟨_, rfl⟩
  have ex2 : ∀ a b : Bool, ∃ z : Int32, (if b2 a = (0 : Int32) then (bd (some (b2 b)) (fun u_9 => (if u_9 = (0 : Int32) then some (0 : Int32) else some 1))) else some 1) = some z := fun a b => by cases a <;> cases b <;> exact ⟨_, rfl⟩
  by_cases f0 : 10 ≤ v' 5
  · right
    obtain ⟨z1, ez1⟩ := ex1 (decide (4 = o))
    obtain ⟨z2, ez2⟩ := ex2 (decide (4 = o)) (decide (3 = o))
    rw [eF, bd_s] at hC
    try dsimp only at hC
    rw [if_neg (b2d_t f0)] at hC
    try dsimp only at hC
    rw [if_pos (show (10 : Int32) ≤ nI (v' 5) from nI_le (a := 10) f0 (by omega)), bd_s] at hM
    try dsimp only at hM
    rw [m_must_0, bd_s] at hM
    try dsimp only at hM
    rw [m_num_w, bd_s] at hM
    try dsimp only at hM
    rw [m_mask_w, bd_s] at hM
    try dsimp only at hM
    rw [x9 4 (by decide), bd_s] at hM
    try dsimp only at hM
    rw [ez1, bd_s] at hM
    try dsimp only at hM
    rw [bd_s] at hM
    try dsimp only at hM
    rw [x9 3 (by decide)] at hM
    try dsimp only at hM
    rw [ez2, bd_s] at hM
    try dsimp only at hM
    rw [m_must_w, bd_s] at hM
    try dsimp only at hM
    rw [m_mask_w, bd_s] at hM
    try dsimp only at hM
    rw [m_item hm _ _ _ _ _ _, bd_s] at hM
    try dsimp only at hM
    exact ⟨_, _, _, _, _, _, _, _, _, _, _, _, (by first | exact lx_le hx | exact lx_le la2 | exact lx_le lb2 | exact lx_le lc2 | exact lx_le ld2 | exact lx_le le2 | exact lx_le lf2 | exact lx_le lg2), hC.symm, hM.symm⟩
  · obtain ⟨pa, qa, ca, wa, oa, xa, ya, la1, la2, la3, la4⟩ := lx_next h hN (q := q) x2
    rw [eF, bd_s] at hC
    try dsimp only at hC
    rw [if_pos (b2d_f f0)] at hC
    try dsimp only at hC
    rw [la3 _ _ _, bd_s] at hC
    try dsimp only at hC
    rw [if_neg (show ¬ (10 : Int32) ≤ nI (v' 5) from nI_ge (b := 10) (by omega) (by omega)), bd_s] at hM
    try dsimp only at hM
    rw [m_must_1 (la4 _ _ _), bd_s] at hM
    try dsimp only at hM
    rcases num_both h hN la2 (a1 := 100) (by omega) (A := 100) rfl (H := 99) (hH_c (k := 99) (by decide)) with ⟨-, u1, pb, qb, cb, wb, ob, xb, yb, lb1, lb2, lb3, lb4⟩ | ⟨-, lb3, lb4⟩
    · skip
      rw [lb3, bd_s] at hC
      try dsimp only at hC
      rw [if_neg (nI_m1' (by omega))] at hC
      try dsimp only at hC
      rw [lb4, bd_s] at hM
      try dsimp only at hM
      rcases num_both h hN lb2 (a1 := v 0) (by omega) (A := nI (v 0)) rfl (H := nI (v 0) - 1) (hH_n (by omega)) with ⟨-, u2, pc, qc, cc, wc', oc, xc, yc, lc1, lc2, lc3, lc4⟩ | ⟨-, lc3, lc4⟩
      · have em : f_X8_mask N now tp (nI n) (nI pb) (nI qb) (nI (srt cb)) yb 0 = some (nI wb, nI pc, nI qc, nI (srt cc), yc, 0) := by
          unfold f_X8_mask
          rw [n0, lc4, bd_s]
        obtain ⟨y1, y2, y3, y4, y5, y6, y7, y8, y9⟩ := id lc2
        rw [lc3, bd_s, bd_s] at hC
        try dsimp only at hC
        rw [if_neg (nI_m1' (by omega))] at hC
        try dsimp only at hC
        rw [em, bd_s] at hM
        try dsimp only at hM
        rw [y9 4 (by decide), bd_s] at hM
        try dsimp only at hM
        obtain ⟨pd, qd, cd, wd, od, xd, yd, ld1, ld2, ld3, ld4⟩ := lx_next h hN (q := qc) y2
        by_cases g4 : 4 = oc
        · skip
          rw [c_one2 (t := t) y8 (w1 := 3) (w2 := 4) (by decide) (by decide) (by omega) g4 (ld3 _ _ _), bd_s, bd_s] at hC
          try dsimp only at hC
          rw [if_neg (show ¬ (1 : Int32) = -1 by decide)] at hC
          try dsimp only at hC
          rw [if_neg (b2d_t g4), bd_s] at hM
          try dsimp only at hM
          rw [bd_s] at hM
          try dsimp only at hM
          rw [if_neg (b2d_t g4), bd_s] at hM
          try dsimp only at hM
          rw [m_must_1 (ld4 _ _ _), bd_s] at hM
          try dsimp only at hM
          rcases num_both h hN ld2 (a1 := v 0) (by omega) (A := nI (v 0)) rfl (H := nI (v 0) - 1) (hH_n (by omega)) with ⟨-, u3, pe, qe, ce, we, oe, xe, ye, le1, le2, le3, le4⟩ | ⟨-, le3, le4⟩
          · have em : f_X8_mask N now tp (nI n) (nI pd) (nI qd) (nI (srt cd)) yd 0 = some (nI wd, nI pe, nI qe, nI (srt ce), ye, 0) := by
              unfold f_X8_mask
              rw [n0, le4, bd_s]
            left
            have ea' : f_X4_add 10 4 (nI (v' 5)) cells 40 (nI wa) (nI wb) (nI wd) 1 = _ := c_add (w := 4) (l := 10) (n := v' 5) (nc := 40) (cells := cells) (a1 := nI wa) (a2 := nI wb) (a3 := nI wd) (a4 := nI 1) (by omega) (by decide) (by decide) (by decide) (by decide) (by decide)
            rw [le3, bd_s, bd_s] at hC
            try dsimp only at hC
            rw [if_neg (nI_m1' (by omega))] at hC
            try dsimp only at hC
            rw [ea', bd_s] at hC
            try dsimp only at hC
            rw [if_neg (nI_m1' (by omega))] at hC
            try dsimp only at hC
            rw [em, bd_s] at hM
            try dsimp only at hM
            rw [m_item hm _ _ _ _ _ _, bd_s] at hM
            try dsimp only at hM
            refine ⟨pe, qe, ce, we, oe, xe, ye, wa, wb, wd, 1, (by have := la2.1; have := lb2.1; have := lc2.1; have := ld2.1; omega), le2, u1, u2, u3, by omega, by omega, hC.symm, ?_⟩
            rw [← hM, nI_1]; rfl
          · have em : f_X8_mask N now tp (nI n) (nI pd) (nI qd) (nI (srt cd)) yd 0 = some (yd, nI pd, nI qd, nI (srt cd), yd, 1) := by
              unfold f_X8_mask
              rw [n0, le4, bd_s]
            right
            rw [le3, bd_s, bd_s] at hC
            try dsimp only at hC
            rw [if_pos rfl] at hC
            try dsimp only at hC
            rw [em, bd_s] at hM
            try dsimp only at hM
            rw [m_item hm _ _ _ _ _ _, bd_s] at hM
            try dsimp only at hM
            exact ⟨_, _, _, _, _, _, _, _, _, _, _, _, (by first | exact lx_le hx | exact lx_le la2 | exact lx_le lb2 | exact lx_le lc2 | exact lx_le ld2 | exact lx_le le2 | exact lx_le lf2 | exact lx_le lg2), hC.symm, hM.symm⟩
        · by_cases g3 : 3 = oc
          · skip
            rw [c_one1 (t := t) y8 (w1 := 3) (w2 := 4) (by decide) g3 (ld3 _ _ _), bd_s, bd_s] at hC
            try dsimp only at hC
            rw [if_neg (show ¬ (0 : Int32) = -1 by decide)] at hC
            try dsimp only at hC
            rw [if_pos (b2d_f g4), bd_s] at hM
            try dsimp only at hM
            rw [bd_s] at hM
            try dsimp only at hM
            rw [if_pos (b2d_f g4), y9 3 (by decide), bd_s, if_neg (b2d_t g3), bd_s] at hM
            try dsimp only at hM
            rw [m_must_1 (ld4 _ _ _), bd_s] at hM
            try dsimp only at hM
            rcases num_both h hN ld2 (a1 := v 0) (by omega) (A := nI (v 0)) rfl (H := nI (v 0) - 1) (hH_n (by omega)) with ⟨-, u3, pe, qe, ce, we, oe, xe, ye, le1, le2, le3, le4⟩ | ⟨-, le3, le4⟩
            · have em : f_X8_mask N now tp (nI n) (nI pd) (nI qd) (nI (srt cd)) yd 0 = some (nI wd, nI pe, nI qe, nI (srt ce), ye, 0) := by
                unfold f_X8_mask
                rw [n0, le4, bd_s]
              left
              have ea' : f_X4_add 10 4 (nI (v' 5)) cells 40 (nI wa) (nI wb) (nI wd) 0 = _ := c_add (w := 4) (l := 10) (n := v' 5) (nc := 40) (cells := cells) (a1 := nI wa) (a2 := nI wb) (a3 := nI wd) (a4 := nI 0) (by omega) (by decide) (by decide) (by decide) (by decide) (by decide)
              rw [le3, bd_s, bd_s] at hC
              try dsimp only at hC
              rw [if_neg (nI_m1' (by omega))] at hC
              try dsimp only at hC
              rw [ea', bd_s] at hC
              try dsimp only at hC
              rw [if_neg (nI_m1' (by omega))] at hC
              try dsimp only at hC
              rw [em, bd_s] at hM
              try dsimp only at hM
              rw [m_item hm _ _ _ _ _ _, bd_s] at hM
              try dsimp only at hM
              refine ⟨pe, qe, ce, we, oe, xe, ye, wa, wb, wd, 0, (by have := la2.1; have := lb2.1; have := lc2.1; have := ld2.1; omega), le2, u1, u2, u3, by omega, by omega, hC.symm, ?_⟩
              rw [← hM, nI_1]; rfl
            · have em : f_X8_mask N now tp (nI n) (nI pd) (nI qd) (nI (srt cd)) yd 0 = some (yd, nI pd, nI qd, nI (srt cd), yd, 1) := by
                unfold f_X8_mask
                rw [n0, le4, bd_s]
              right
              rw [le3, bd_s, bd_s] at hC
              try dsimp only at hC
              rw [if_pos rfl] at hC
              try dsimp only at hC
              rw [em, bd_s] at hM
              try dsimp only at hM
              rw [m_item hm _ _ _ _ _ _, bd_s] at hM
              try dsimp only at hM
              exact ⟨_, _, _, _, _, _, _, _, _, _, _, _, (by first | exact lx_le hx | exact lx_le la2 | exact lx_le lb2 | exact lx_le lc2 | exact lx_le ld2 | exact lx_le le2 | exact lx_le lf2 | exact lx_le lg2), hC.symm, hM.symm⟩
          · right
            rw [c_one0 (t := t) y8 (w1 := 3) (w2 := 4) (by decide) (by decide) g3 g4, bd_s, bd_s] at hC
            try dsimp only at hC
            rw [if_pos rfl, bd_s] at hC
            try dsimp only at hC
            rw [if_pos rfl] at hC
            try dsimp only at hC
            rw [if_pos (b2d_f g4), bd_s] at hM
            try dsimp only at hM
            rw [bd_s] at hM
            try dsimp only at hM
            rw [if_pos (b2d_f g4), y9 3 (by decide), bd_s, if_pos (b2d_f g3), bd_s] at hM
            try dsimp only at hM
            rw [m_must_0, bd_s] at hM
            try dsimp only at hM
            rw [m_mask_w, bd_s] at hM
            try dsimp only at hM
            rw [m_item hm _ _ _ _ _ _, bd_s] at hM
            try dsimp only at hM
            exact ⟨_, _, _, _, _, _, _, _, _, _, _, _, (by first | exact lx_le hx | exact lx_le la2 | exact lx_le lb2 | exact lx_le lc2 | exact lx_le ld2 | exact lx_le le2 | exact lx_le lf2 | exact lx_le lg2), hC.symm, hM.symm⟩
      · right
        have em : f_X8_mask N now tp (nI n) (nI pb) (nI qb) (nI (srt cb)) yb 0 = some (yb, nI pb, nI qb, nI (srt cb), yb, 1) := by
          unfold f_X8_mask
          rw [n0, lc4, bd_s]
        obtain ⟨y1, y2, y3, y4, y5, y6, y7, y8, y9⟩ := id lb2
        obtain ⟨z1, ez1⟩ := ex1 (decide (4 = ob))
        obtain ⟨z2, ez2⟩ := ex2 (decide (4 = ob)) (decide (3 = ob))
        rw [lc3, bd_s, bd_s] at hC
        try dsimp only at hC
        rw [if_pos rfl, bd_s] at hC
        try dsimp only at hC
        rw [if_pos rfl, bd_s] at hC
        try dsimp only at hC
        rw [if_pos rfl] at hC
        try dsimp only at hC
        rw [em, bd_s] at hM
        try dsimp only at hM
        rw [y9 4 (by decide), bd_s] at hM
        try dsimp only at hM
        rw [ez1, bd_s] at hM
        try dsimp only at hM
        rw [bd_s] at hM
        try dsimp only at hM
        rw [y9 3 (by decide)] at hM
        try dsimp only at hM
        rw [ez2, bd_s] at hM
        try dsimp only at hM
        rw [m_must_w, bd_s] at hM
        try dsimp only at hM
        rw [m_mask_w, bd_s] at hM
        try dsimp only at hM
        rw [m_item hm _ _ _ _ _ _, bd_s] at hM
        try dsimp only at hM
        exact ⟨_, _, _, _, _, _, _, _, _, _, _, _, (by first | exact lx_le hx | exact lx_le la2 | exact lx_le lb2 | exact lx_le lc2 | exact lx_le ld2 | exact lx_le le2 | exact lx_le lf2 | exact lx_le lg2), hC.symm, hM.symm⟩
    · right
      obtain ⟨y1, y2, y3, y4, y5, y6, y7, y8, y9⟩ := id la2
      obtain ⟨z1, ez1⟩ := ex1 (decide (4 = oa))
      obtain ⟨z2, ez2⟩ := ex2 (decide (4 = oa)) (decide (3 = oa))
      rw [lb3, bd_s] at hC
      try dsimp only at hC
      rw [if_pos rfl, bd_s] at hC
      try dsimp only at hC
      rw [if_pos rfl, bd_s] at hC
      try dsimp only at hC
      rw [if_pos rfl, bd_s] at hC
      try dsimp only at hC
      rw [if_pos rfl] at hC
      try dsimp only at hC
      rw [lb4, bd_s] at hM
      try dsimp only at hM
      rw [m_mask_w, bd_s] at hM
      try dsimp only at hM
      rw [y9 4 (by decide), bd_s] at hM
      try dsimp only at hM
      rw [ez1, bd_s] at hM
      try dsimp only at hM
      rw [bd_s] at hM
      try dsimp only at hM
      rw [y9 3 (by decide)] at hM
      try dsimp only at hM
      rw [ez2, bd_s] at hM
      try dsimp only at hM
      rw [m_must_w, bd_s] at hM
      try dsimp only at hM
      rw [m_mask_w, bd_s] at hM
      try dsimp only at hM
      rw [m_item hm _ _ _ _ _ _, bd_s] at hM
      try dsimp only at hM
      exact ⟨_, _, _, _, _, _, _, _, _, _, _, _, (by first | exact lx_le hx | exact lx_le la2 | exact lx_le lb2 | exact lx_le lc2 | exact lx_le ld2 | exact lx_le le2 | exact lx_le lf2 | exact lx_le lg2), hC.symm, hM.symm⟩
