/-! ===== the fresh states are related ===== -/
def v00 : Nat → Nat := fun k => if k = 0 then 4 else 0
def e00 : Nat → Nat := fun _ => 0
theorem rl_fresh : Rl ((0 : Int32) : Int32) ((0 : Int32) : Int32) ((fun _ => 0) : (Nat → Int32)) ((0 : Int32) : Int32) ((fun _ => 0) : (Nat → Int32)) ((0 : Int32) : Int32) ((fun _ => 0) : (Nat → Int32)) ((4 : Int32) : Int32) ((0 : Int32) : Int32) ((0 : Int32) : Int32) ((0 : Int32) : Int32) ((fun _ => 0) : (Nat → Int32)) ((0 : Int32) : Int32) ((fun _ => 0) : (Nat → Int32)) ((0 : Int32) : Int32) ((fun _ => 0) : (Nat → Int32)) ((4 : Int32) : Int32) ((0 : Int32) : Int32) ((0 : Int32) : Int32) ((0 : Int32) : Int32) ((fun _ => 0) : (Nat → Int32)) ((0 : Int32) : Int32) ((fun _ => 0) : (Nat → Int32)) ((0 : Int32) : Int32) ((fun _ => 0) : (Nat → Int32)) ((4 : Int32) : Int32) ((0 : Int32) : Int32) ((0 : Int32) : Int32) ((fun _ => 0) : (Nat → Int32)) ((fun _ => 0) : (Nat → Int32)) ((fun _ => 0) : (Nat → Int32)) ((fun _ => 0) : (Nat → Int32)) ((fun _ => 0) : (Nat → Int32)) ((fun _ => 0) : (Nat → Int32)) ((fun _ => 0) : (Nat → Int32)) ((1 : Int32) : Int32) ((0 : Int32) : Int32) ((0 : Int32) : Int32) ((0 : Int32) : Int32) ((-1 : Int32) : Int32) ((0 : Int32) : Int32) ((fun _ => 0) : (Nat → Int64)) ((fun _ => 0) : (Nat → Int32)) ((fun _ => 0) : (Nat → Int32)) ((0 : Int32) : Int32) ((0 : Int32) : Int32) ((0 : Int32) : Int32) ((0 : Int32) : Int32) ((0 : Int32) : Int32) ((fun _ => 0) : (Nat → Int64)) ((0 : Int32) : Int32) ((0 : Int32) : Int32) ((fun _ => 0) : (Nat → Int64)) ((0 : Int32) : Int32) ((0 : Int32) : Int32) ((fun _ => 0) : (Nat → Int64)) ((0 : Int32) : Int32) ((0 : Int32) : Int32) ((fun _ => 0) : (Nat → Int64)) ((0 : Int32) : Int32) ((0 : Int32) : Int32) ((fun _ => 0) : (Nat → Int32)) ((upd (fun _ => 0) (0 : Int32).toNatClampNeg (4 : Int32)) : (Nat → Int32)) ((fun _ => 0) : (Nat → Int32)) (0 : Int32) ((fun _ => 0) : (Nat → Int32)) ((fun _ => 0) : (Nat → Int32)) ((fun _ => 0) : (Nat → Int32)) (0 : Int32) ((fun _ => 0) : (Nat → Int64)) ((fun _ => 0) : (Nat → Int32)) (0 : Int64) (0 : Int32) ((fun _ => 0) : (Nat → Int32)) ((fun _ => 0) : (Nat → Int32)) ((fun _ => 0) : (Nat → Int64)) ((fun _ => 0) : (Nat → Int32)) (0 : Int32) (0 : Int32) (0 : Int32) (0 : Int32) (0 : Int32) (0 : Int32) ((fun _ => 0) : (Nat → Int32)) (0 : Int32) (0 : Int32) (0 : Int32) (0 : Int32) (0 : Int32) ((fun _ => 0) : (Nat → Int32)) ((fun _ => 0) : (Nat → Int32)) ((fun _ => 0) : (Nat → Int64)) ((fun _ => 0) : (Nat → Int64)) := by
  have hv : Vd v00 := ⟨by decide, by decide, by decide, by decide, by decide, by decide, by decide, fun b hb => absurd hb (by show ¬ b < 0; omega), fun s hs => absurd hs (by show ¬ s < 0; omega)⟩
  have he : Ve v00 e00 := ⟨by decide, fun d hd => absurd hd (by show ¬ d < 0; omega)⟩
  have hm : RN v00 (upd (fun _ => 0) (0 : Int32).toNatClampNeg (4 : Int32)) := fun k h1 h2 h3 => by
    by_cases q : k = 0
    · subst q; exact ⟨rfl, by decide⟩
    · rw [show (0 : Int32).toNatClampNeg = 0 from rfl, pk_un q]
      have : v00 k = 0 := if_neg q
      rw [this]; exact ⟨rfl, by decide⟩
  have hd : RE e00 (upd (fun _ => 0) (0 : Int32).toNatClampNeg (4 : Int32)) := by
    refine ⟨?_, fun j hj => ?_⟩
    · rw [show (0 : Int32).toNatClampNeg = 0 from rfl, pk_un (by decide)]; rfl
    · rw [show (0 : Int32).toNatClampNeg = 0 from rfl, pk_un (by omega)]; exact ⟨rfl, show 0 < 1000 by decide⟩
  have rs : ∀ i, RS i (fun _ => 0) 0 0 (fun _ => 0) (fun _ => 0) (fun _ => 0) := fun i => ⟨0, 0, by decide, Or.inl rfl, fun _ => rfl, rfl, rfl, rfl, rfl, fun j hj => absurd hj (Nat.not_lt_zero _)⟩
  refine ⟨v00, e00, hv, he, hm, hd, ⟨rfl, fun j hj => ?_, rfl, fun j hj => ?_, rfl, fun j _ => rfl, rfl, rfl, rfl⟩, Or.inr rfl, fun z => absurd (show (1 : Int32) = nI 0 from z) (by decide), Or.inl rfl, rfl, fun z => absurd (show (0 : Int32) = nI 1 from z) (by decide), ⟨fun _ _ => rfl, by decide⟩, ⟨0, fun _ => 0, by decide, rfl, rfl, fun j hj => absurd hj (Nat.not_lt_zero _)⟩, rs 0, rs 1, rs 2, rs 3⟩
  · have : v00 (6 + j) = 0 := if_neg (by omega)
    rw [this]; rfl
  · have : v00 (146 + j) = 0 := if_neg (by omega)
    rw [this]; rfl
