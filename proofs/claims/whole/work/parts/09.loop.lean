theorem sw46 (x : Int32) : (x.toInt < 0 ∨ 45 < x.toInt) ∨ x = (0 : Int32) ∨ x = (1 : Int32) ∨ x = (2 : Int32) ∨ x = (3 : Int32) ∨ x = (4 : Int32) ∨ x = (5 : Int32) ∨ x = (6 : Int32) ∨ x = (7 : Int32) ∨ x = (8 : Int32) ∨ x = (9 : Int32) ∨ x = (10 : Int32) ∨ x = (11 : Int32) ∨ x = (12 : Int32) ∨ x = (13 : Int32) ∨ x = (14 : Int32) ∨ x = (15 : Int32) ∨ x = (16 : Int32) ∨ x = (17 : Int32) ∨ x = (18 : Int32) ∨ x = (19 : Int32) ∨ x = (20 : Int32) ∨ x = (21 : Int32) ∨ x = (22 : Int32) ∨ x = (23 : Int32) ∨ x = (24 : Int32) ∨ x = (25 : Int32) ∨ x = (26 : Int32) ∨ x = (27 : Int32) ∨ x = (28 : Int32) ∨ x = (29 : Int32) ∨ x = (30 : Int32) ∨ x = (31 : Int32) ∨ x = (32 : Int32) ∨ x = (33 : Int32) ∨ x = (34 : Int32) ∨ x = (35 : Int32) ∨ x = (36 : Int32) ∨ x = (37 : Int32) ∨ x = (38 : Int32) ∨ x = (39 : Int32) ∨ x = (40 : Int32) ∨ x = (41 : Int32) ∨ x = (42 : Int32) ∨ x = (43 : Int32) ∨ x = (44 : Int32) ∨ x = (45 : Int32) := by
  by_cases h : x.toInt < 0 ∨ 45 < x.toInt
  · exact Or.inl h
  · right
    have z : x.toInt = 0 ∨ x.toInt = 1 ∨ x.toInt = 2 ∨ x.toInt = 3 ∨ x.toInt = 4 ∨ x.toInt = 5 ∨ x.toInt = 6 ∨ x.toInt = 7 ∨ x.toInt = 8 ∨ x.toInt = 9 ∨ x.toInt = 10 ∨ x.toInt = 11 ∨ x.toInt = 12 ∨ x.toInt = 13 ∨ x.toInt = 14 ∨ x.toInt = 15 ∨ x.toInt = 16 ∨ x.toInt = 17 ∨ x.toInt = 18 ∨ x.toInt = 19 ∨ x.toInt = 20 ∨ x.toInt = 21 ∨ x.toInt = 22 ∨ x.toInt = 23 ∨ x.toInt = 24 ∨ x.toInt = 25 ∨ x.toInt = 26 ∨ x.toInt = 27 ∨ x.toInt = 28 ∨ x.toInt = 29 ∨ x.toInt = 30 ∨ x.toInt = 31 ∨ x.toInt = 32 ∨ x.toInt = 33 ∨ x.toInt = 34 ∨ x.toInt = 35 ∨ x.toInt = 36 ∨ x.toInt = 37 ∨ x.toInt = 38 ∨ x.toInt = 39 ∨ x.toInt = 40 ∨ x.toInt = 41 ∨ x.toInt = 42 ∨ x.toInt = 43 ∨ x.toInt = 44 ∨ x.toInt = 45 := by omega
    rcases z with z | z | z | z | z | z | z | z | z | z | z | z | z | z | z | z | z | z | z | z | z | z | z | z | z | z | z | z | z | z | z | z | z | z | z | z | z | z | z | z | z | z | z | z | z | z
    · exact (Or.inl (Int32.toInt_inj.mp (z.trans (by decide))))
    · exact (Or.inr (Or.inl (Int32.toInt_inj.mp (z.trans (by decide)))))
    · exact (Or.inr (Or.inr (Or.inl (Int32.toInt_inj.mp (z.trans (by decide))))))
    · exact (Or.inr (Or.inr (Or.inr (Or.inl (Int32.toInt_inj.mp (z.trans (by decide)))))))
    · exact (Or.inr (Or.inr (Or.inr (Or.inr (Or.inl (Int32.toInt_inj.mp (z.trans (by decide))))))))
    · exact (Or.inr (Or.inr (Or.inr (Or.inr (Or.inr (Or.inl (Int32.toInt_inj.mp (z.trans (by decide)))))))))
    · exact (Or.inr (Or.inr (Or.inr (Or.inr (Or.inr (Or.inr (Or.inl (Int32.toInt_inj.mp (z.trans (by decide))))))))))
    · exact (Or.inr (Or.inr (Or.inr (Or.inr (Or.inr (Or.inr (Or.inr (Or.inl (Int32.toInt_inj.mp (z.trans (by decide)))))))))))
    · exact (Or.inr (Or.inr (Or.inr (Or.inr (Or.inr (Or.inr (Or.inr (Or.inr (Or.inl (Int32.toInt_inj.mp (z.trans (by decide))))))))))))
    · exact (Or.inr (Or.inr (Or.inr (Or.inr (Or.inr (Or.inr (Or.inr (Or.inr (Or.inr (Or.inl (Int32.toInt_inj.mp (z.trans (by decide)))))))))))))
    · exact (Or.inr (Or.inr (Or.inr (Or.inr (Or.inr (Or.inr (Or.inr (Or.inr (Or.inr (Or.inr (Or.inl (Int32.toInt_inj.mp (z.trans (by decide))))))))))))))
    · exact (Or.inr (Or.inr (Or.inr (Or.inr (Or.inr (Or.inr (Or.inr (Or.inr (Or.inr (Or.inr (Or.inr (Or.inl (Int32.toInt_inj.mp (z.trans (by decide)))))))))))))))
    · exact (Or.inr (Or.inr (Or.inr (Or.inr (Or.inr (Or.inr (Or.inr (Or.inr (Or.inr (Or.inr (Or.inr (Or.inr (Or.inl (Int32.toInt_inj.mp (z.trans (by decide))))))))))))))))
    · exact (Or.inr (Or.inr (Or.inr (Or.inr (Or.inr (Or.inr (Or.inr (Or.inr (Or.inr (Or.inr (Or.inr (Or.inr (Or.inr (Or.inl (Int32.toInt_inj.mp (z.trans (by decide)))))))))))))))))
    · exact (Or.inr (Or.inr (Or.inr (Or.inr (Or.inr (Or.inr (Or.inr (Or.inr (Or.inr (Or.inr (Or.inr (Or.inr (Or.inr (Or.inr (Or.inl (Int32.toInt_inj.mp (z.trans (by decide))))))))))))))))))
    · exact (Or.inr (Or.inr (Or.inr (Or.inr (Or.inr (Or.inr (Or.inr (Or.inr (Or.inr (Or.inr (Or.inr (Or.inr (Or.inr (Or.inr (Or.inr (Or.inl (Int32.toInt_inj.mp (z.trans (by decide)))))))))))))))))))
    · exact (Or.inr (Or.inr (Or.inr (Or.inr (Or.inr (Or.inr (Or.inr (Or.inr (Or.inr (Or.inr (Or.inr (Or.inr (Or.inr (Or.inr (Or.inr (Or.inr (Or.inl (Int32.toInt_inj.mp (z.trans (by decide))))))))))))))))))))
    · exact (Or.inr (Or.inr (Or.inr (Or.inr (Or.inr (Or.inr (Or.inr (Or.inr (Or.inr (Or.inr (Or.inr (Or.inr (Or.inr (Or.inr (Or.inr (Or.inr (Or.inr (Or.inl (Int32.toInt_inj.mp (z.trans (by decide)))))))))))))))))))))
    · exact (Or.inr (Or.inr (Or.inr (Or.inr (Or.inr (Or.inr (Or.inr (Or.inr (Or.inr (Or.inr (Or.inr (Or.inr (Or.inr (Or.inr (Or.inr (Or.inr (Or.inr (Or.inr (Or.inl (Int32.toInt_inj.mp (z.trans (by decide))))))))))))))))))))))
    · exact (Or.inr (Or.inr (Or.inr (Or.inr (Or.inr (Or.inr (Or.inr (Or.inr (Or.inr (Or.inr (Or.inr (Or.inr (Or.inr (Or.inr (Or.inr (Or.inr (Or.inr (Or.inr (Or.inr (Or.inl (Int32.toInt_inj.mp (z.trans (by decide)))))))))))))))))))))))
    · exact (Or.inr (Or.inr (Or.inr (Or.inr (Or.inr (Or.inr (Or.inr (Or.inr (Or.inr (Or.inr (Or.inr (Or.inr (Or.inr (Or.inr (Or.inr (Or.inr (Or.inr (Or.inr (Or.inr (Or.inr (Or.inl (Int32.toInt_inj.mp (z.trans (by decide))))))))))))))))))))))))
    · exact (Or.inr (Or.inr (Or.inr (Or.inr (Or.inr (Or.inr (Or.inr (Or.inr (Or.inr (Or.inr (Or.inr (Or.inr (Or.inr (Or.inr (Or.inr (Or.inr (Or.inr (Or.inr (Or.inr (Or.inr (Or.inr (Or.inl (Int32.toInt_inj.mp (z.trans (by decide)))))))))))))))))))))))))
    · exact (Or.inr (Or.inr (Or.inr (Or.inr (Or.inr (Or.inr (Or.inr (Or.inr (Or.inr (Or.inr (Or.inr (Or.inr (Or.inr (Or.inr (Or.inr (Or.inr (Or.inr (Or.inr (Or.inr (Or.inr (Or.inr (Or.inr (Or.inl (Int32.toInt_inj.mp (z.trans (by decide))))))))))))))))))))))))))
    · exact (Or.inr (Or.inr (Or.inr (Or.inr (Or.inr (Or.inr (Or.inr (Or.inr (Or.inr (Or.inr (Or.inr (Or.inr (Or.inr (Or.inr (Or.inr (Or.inr (Or.inr (Or.inr (Or.inr (Or.inr (Or.inr (Or.inr (Or.inr (Or.inl (Int32.toInt_inj.mp (z.trans (by decide)))))))))))))))))))))))))))
    · exact (Or.inr (Or.inr (Or.inr (Or.inr (Or.inr (Or.inr (Or.inr (Or.inr (Or.inr (Or.inr (Or.inr (Or.inr (Or.inr (Or.inr (Or.inr (Or.inr (Or.inr (Or.inr (Or.inr (Or.inr (Or.inr (Or.inr (Or.inr (Or.inr (Or.inl (Int32.toInt_inj.mp (z.trans (by decide))))))))))))))))))))))))))))
    · exact (Or.inr (Or.inr (Or.inr (Or.inr (Or.inr (Or.inr (Or.inr (Or.inr (Or.inr (Or.inr (Or.inr (Or.inr (Or.inr (Or.inr (Or.inr (Or.inr (Or.inr (Or.inr (Or.inr (Or.inr (Or.inr (Or.inr (Or.inr (Or.inr (Or.inr (Or.inl (Int32.toInt_inj.mp (z.trans (by decide)))))))))))))))))))))))))))))
    · exact (Or.inr (Or.inr (Or.inr (Or.inr (Or.inr (Or.inr (Or.inr (Or.inr (Or.inr (Or.inr (Or.inr (Or.inr (Or.inr (Or.inr (Or.inr (Or.inr (Or.inr (Or.inr (Or.inr (Or.inr (Or.inr (Or.inr (Or.inr (Or.inr (Or.inr (Or.inr (Or.inl (Int32.toInt_inj.mp (z.trans (by decide))))))))))))))))))))))))))))))
    · exact (Or.inr (Or.inr (Or.inr (Or.inr (Or.inr (Or.inr (Or.inr (Or.inr (Or.inr (Or.inr (Or.inr (Or.inr (Or.inr (Or.inr (Or.inr (Or.inr (Or.inr (Or.inr (Or.inr (Or.inr (Or.inr (Or.inr (Or.inr (Or.inr (Or.inr (Or.inr (Or.inr (Or.inl (Int32.toInt_inj.mp (z.trans (by decide)))))))))))))))))))))))))))))))
    · exact (Or.inr (Or.inr (Or.inr (Or.inr (Or.inr (Or.inr (Or.inr (Or.inr (Or.inr (Or.inr (Or.inr (Or.inr (Or.inr (Or.inr (Or.inr (Or.inr (Or.inr (Or.inr (Or.inr (Or.inr (Or.inr (Or.inr (Or.inr (Or.inr (Or.inr (Or.inr (Or.inr (Or.inr (Or.inl (Int32.toInt_inj.mp (z.trans (by decide))))))))))))))))))))))))))))))))
    · exact (Or.inr (Or.inr (Or.inr (Or.inr (Or.inr (Or.inr (Or.inr (Or.inr (Or.inr (Or.inr (Or.inr (Or.inr (Or.inr (Or.inr (Or.inr (Or.inr (Or.inr (Or.inr (Or.inr (Or.inr (Or.inr (Or.inr (Or.inr (Or.inr (Or.inr (Or.inr (Or.inr (Or.inr (Or.inr (Or.inl (Int32.toInt_inj.mp (z.trans (by decide)))))))))))))))))))))))))))))))))
    · exact (Or.inr (Or.inr (Or.inr (Or.inr (Or.inr (Or.inr (Or.inr (Or.inr (Or.inr (Or.inr (Or.inr (Or.inr (Or.inr (Or.inr (Or.inr (Or.inr (Or.inr (Or.inr (Or.inr (Or.inr (Or.inr (Or.inr (Or.inr (Or.inr (Or.inr (Or.inr (Or.inr (Or.inr (Or.inr (Or.inr (Or.inl (Int32.toInt_inj.mp (z.trans (by decide))))))))))))))))))))))))))))))))))
    · exact (Or.inr (Or.inr (Or.inr (Or.inr (Or.inr (Or.inr (Or.inr (Or.inr (Or.inr (Or.inr (Or.inr (Or.inr (Or.inr (Or.inr (Or.inr (Or.inr (Or.inr (Or.inr (Or.inr (Or.inr (Or.inr (Or.inr (Or.inr (Or.inr (Or.inr (Or.inr (Or.inr (Or.inr (Or.inr (Or.inr (Or.inr (Or.inl (Int32.toInt_inj.mp (z.trans (by decide)))))))))))))))))))))))))))))))))))
    · exact (Or.inr (Or.inr (Or.inr (Or.inr (Or.inr (Or.inr (Or.inr (Or.inr (Or.inr (Or.inr (Or.inr (Or.inr (Or.inr (Or.inr (Or.inr (Or.inr (Or.inr (Or.inr (Or.inr (Or.inr (Or.inr (Or.inr (Or.inr (Or.inr (Or.inr (Or.inr (Or.inr (Or.inr (Or.inr (Or.inr (Or.inr (Or.inr (Or.inl (Int32.toInt_inj.mp (z.trans (by decide))))))))))))))))))))))))))))))))))))
    · exact (Or.inr (Or.inr (Or.inr (Or.inr (Or.inr (Or.inr (Or.inr (Or.inr (Or.inr (Or.inr (Or.inr (Or.inr (Or.inr (Or.inr (Or.inr (Or.inr (Or.inr (Or.inr (Or.inr (Or.inr (Or.inr (Or.inr (Or.inr (Or.inr (Or.inr (Or.inr (Or.inr (Or.inr (Or.inr (Or.inr (Or.inr (Or.inr (Or.inr (Or.inl (Int32.toInt_inj.mp (z.trans (by decide)))))))))))))))))))))))))))))))))))))
    · exact (Or.inr (Or.inr (Or.inr (Or.inr (Or.inr (Or.inr (Or.inr (Or.inr (Or.inr (Or.inr (Or.inr (Or.inr (Or.inr (Or.inr (Or.inr (Or.inr (Or.inr (Or.inr (Or.inr (Or.inr (Or.inr (Or.inr (Or.inr (Or.inr (Or.inr (Or.inr (Or.inr (Or.inr (Or.inr (Or.inr (Or.inr (Or.inr (Or.inr (Or.inr (Or.inl (Int32.toInt_inj.mp (z.trans (by decide))))))))))))))))))))))))))))))))))))))
    · exact (Or.inr (Or.inr (Or.inr (Or.inr (Or.inr (Or.inr (Or.inr (Or.inr (Or.inr (Or.inr (Or.inr (Or.inr (Or.inr (Or.inr (Or.inr (Or.inr (Or.inr (Or.inr (Or.inr (Or.inr (Or.inr (Or.inr (Or.inr (Or.inr (Or.inr (Or.inr (Or.inr (Or.inr (Or.inr (Or.inr (Or.inr (Or.inr (Or.inr (Or.inr (Or.inr (Or.inl (Int32.toInt_inj.mp (z.trans (by decide)))))))))))))))))))))))))))))))))))))))
    · exact (Or.inr (Or.inr (Or.inr (Or.inr (Or.inr (Or.inr (Or.inr (Or.inr (Or.inr (Or.inr (Or.inr (Or.inr (Or.inr (Or.inr (Or.inr (Or.inr (Or.inr (Or.inr (Or.inr (Or.inr (Or.inr (Or.inr (Or.inr (Or.inr (Or.inr (Or.inr (Or.inr (Or.inr (Or.inr (Or.inr (Or.inr (Or.inr (Or.inr (Or.inr (Or.inr (Or.inr (Or.inl (Int32.toInt_inj.mp (z.trans (by decide))))))))))))))))))))))))))))))))))))))))
    · exact (Or.inr (Or.inr (Or.inr (Or.inr (Or.inr (Or.inr (Or.inr (Or.inr (Or.inr (Or.inr (Or.inr (Or.inr (Or.inr (Or.inr (Or.inr (Or.inr (Or.inr (Or.inr (Or.inr (Or.inr (Or.inr (Or.inr (Or.inr (Or.inr (Or.inr (Or.inr (Or.inr (Or.inr (Or.inr (Or.inr (Or.inr (Or.inr (Or.inr (Or.inr (Or.inr (Or.inr (Or.inr (Or.inl (Int32.toInt_inj.mp (z.trans (by decide)))))))))))))))))))))))))))))))))))))))))
    · exact (Or.inr (Or.inr (Or.inr (Or.inr (Or.inr (Or.inr (Or.inr (Or.inr (Or.inr (Or.inr (Or.inr (Or.inr (Or.inr (Or.inr (Or.inr (Or.inr (Or.inr (Or.inr (Or.inr (Or.inr (Or.inr (Or.inr (Or.inr (Or.inr (Or.inr (Or.inr (Or.inr (Or.inr (Or.inr (Or.inr (Or.inr (Or.inr (Or.inr (Or.inr (Or.inr (Or.inr (Or.inr (Or.inr (Or.inl (Int32.toInt_inj.mp (z.trans (by decide))))))))))))))))))))))))))))))))))))))))))
    · exact (Or.inr (Or.inr (Or.inr (Or.inr (Or.inr (Or.inr (Or.inr (Or.inr (Or.inr (Or.inr (Or.inr (Or.inr (Or.inr (Or.inr (Or.inr (Or.inr (Or.inr (Or.inr (Or.inr (Or.inr (Or.inr (Or.inr (Or.inr (Or.inr (Or.inr (Or.inr (Or.inr (Or.inr (Or.inr (Or.inr (Or.inr (Or.inr (Or.inr (Or.inr (Or.inr (Or.inr (Or.inr (Or.inr (Or.inr (Or.inl (Int32.toInt_inj.mp (z.trans (by decide)))))))))))))))))))))))))))))))))))))))))))
    · exact (Or.inr (Or.inr (Or.inr (Or.inr (Or.inr (Or.inr (Or.inr (Or.inr (Or.inr (Or.inr (Or.inr (Or.inr (Or.inr (Or.inr (Or.inr (Or.inr (Or.inr (Or.inr (Or.inr (Or.inr (Or.inr (Or.inr (Or.inr (Or.inr (Or.inr (Or.inr (Or.inr (Or.inr (Or.inr (Or.inr (Or.inr (Or.inr (Or.inr (Or.inr (Or.inr (Or.inr (Or.inr (Or.inr (Or.inr (Or.inr (Or.inl (Int32.toInt_inj.mp (z.trans (by decide))))))))))))))))))))))))))))))))))))))))))))
    · exact (Or.inr (Or.inr (Or.inr (Or.inr (Or.inr (Or.inr (Or.inr (Or.inr (Or.inr (Or.inr (Or.inr (Or.inr (Or.inr (Or.inr (Or.inr (Or.inr (Or.inr (Or.inr (Or.inr (Or.inr (Or.inr (Or.inr (Or.inr (Or.inr (Or.inr (Or.inr (Or.inr (Or.inr (Or.inr (Or.inr (Or.inr (Or.inr (Or.inr (Or.inr (Or.inr (Or.inr (Or.inr (Or.inr (Or.inr (Or.inr (Or.inr (Or.inl (Int32.toInt_inj.mp (z.trans (by decide)))))))))))))))))))))))))))))))))))))))))))))
    · exact (Or.inr (Or.inr (Or.inr (Or.inr (Or.inr (Or.inr (Or.inr (Or.inr (Or.inr (Or.inr (Or.inr (Or.inr (Or.inr (Or.inr (Or.inr (Or.inr (Or.inr (Or.inr (Or.inr (Or.inr (Or.inr (Or.inr (Or.inr (Or.inr (Or.inr (Or.inr (Or.inr (Or.inr (Or.inr (Or.inr (Or.inr (Or.inr (Or.inr (Or.inr (Or.inr (Or.inr (Or.inr (Or.inr (Or.inr (Or.inr (Or.inr (Or.inr (Or.inl (Int32.toInt_inj.mp (z.trans (by decide))))))))))))))))))))))))))))))))))))))))))))))
    · exact (Or.inr (Or.inr (Or.inr (Or.inr (Or.inr (Or.inr (Or.inr (Or.inr (Or.inr (Or.inr (Or.inr (Or.inr (Or.inr (Or.inr (Or.inr (Or.inr (Or.inr (Or.inr (Or.inr (Or.inr (Or.inr (Or.inr (Or.inr (Or.inr (Or.inr (Or.inr (Or.inr (Or.inr (Or.inr (Or.inr (Or.inr (Or.inr (Or.inr (Or.inr (Or.inr (Or.inr (Or.inr (Or.inr (Or.inr (Or.inr (Or.inr (Or.inr (Or.inr (Or.inl (Int32.toInt_inj.mp (z.trans (by decide)))))))))))))))))))))))))))))))))))))))))))))))
    · exact (Or.inr (Or.inr (Or.inr (Or.inr (Or.inr (Or.inr (Or.inr (Or.inr (Or.inr (Or.inr (Or.inr (Or.inr (Or.inr (Or.inr (Or.inr (Or.inr (Or.inr (Or.inr (Or.inr (Or.inr (Or.inr (Or.inr (Or.inr (Or.inr (Or.inr (Or.inr (Or.inr (Or.inr (Or.inr (Or.inr (Or.inr (Or.inr (Or.inr (Or.inr (Or.inr (Or.inr (Or.inr (Or.inr (Or.inr (Or.inr (Or.inr (Or.inr (Or.inr (Or.inr (Or.inl (Int32.toInt_inj.mp (z.trans (by decide))))))))))))))))))))))))))))))))))))))))))))))))
    · exact (Or.inr (Or.inr (Or.inr (Or.inr (Or.inr (Or.inr (Or.inr (Or.inr (Or.inr (Or.inr (Or.inr (Or.inr (Or.inr (Or.inr (Or.inr (Or.inr (Or.inr (Or.inr (Or.inr (Or.inr (Or.inr (Or.inr (Or.inr (Or.inr (Or.inr (Or.inr (Or.inr (Or.inr (Or.inr (Or.inr (Or.inr (Or.inr (Or.inr (Or.inr (Or.inr (Or.inr (Or.inr (Or.inr (Or.inr (Or.inr (Or.inr (Or.inr (Or.inr (Or.inr (Or.inr (Int32.toInt_inj.mp (z.trans (by decide))))))))))))))))))))))))))))))))))))))))))))))))
theorem lw_go {i L : Nat} (hL : L ≤ 384) (hi : i ≤ L + 6) (h : ¬ nI L - (6 : Int32) < nI i) : i + 6 ≤ L := by
  have h6 : (nI L - (6 : Int32)).toInt = (L : Int) - 6 := pk_sub_toInt (a := L) (b := 6) (by omega) (by omega)
  have hI : (nI i).toInt = (i : Int) := nI_toInt (by omega)
  have h1 : ¬ (nI L - (6 : Int32)).toInt < (nI i).toInt := fun z => h (Int32.lt_iff_toInt_lt.mpr z)
  rw [h6, hI] at h1
  omega
set_option maxHeartbeats 8000000 in
set_option maxRecDepth 100000 in
theorem law_loop {p : Program} {l : Launch} {e : Env} {s : State} {m : MethodId} {below : List Frame} {meth : Method} {c : Code} {b L : Nat} {xs : Nat → Int32} {G : va_G} {ca : Nat → ClassId} {ev : Nat → Nat} {cN sN N : Nat} {x_m0 x_l0 x_l1 x_l2 x_l3 x_l4 x_l5 x_l6 x_k0 x_k1 x_k2 x_k3 x_k4 x_k5 x_k6 x_d0 x_d1 x_d2 x_d3 x_d4 x_d5 x_d6 x_n0 x_n1 x_n2 x_n3 x_n4 x_n5 x_n6 x_n7 x_b0 x_b1 x_b2 x_t0 x_t1 x_r0 x_sa x_sa0 x_sa1 x_sb0 x_sb1 x_sc0 x_sc1 x_sd0 x_sd1 x_fa y_h0 y_h1 y_h2 y_h3 y_h4 y_h5 y_h6 y_h7 y_h8 y_h9 y_h10 y_h11 y_h12 y_h13 y_h14 y_h15 y_h16 y_h17 : Nat} {Rel : Int32 → Int32 → (Nat → Int32) → Int32 → (Nat → Int32) → Int32 → (Nat → Int32) → Int32 → Int32 → Int32 → Int32 → (Nat → Int32) → Int32 → (Nat → Int32) → Int32 → (Nat → Int32) → Int32 → Int32 → Int32 → Int32 → (Nat → Int32) → Int32 → (Nat → Int32) → Int32 → (Nat → Int32) → Int32 → Int32 → Int32 → (Nat → Int32) → (Nat → Int32) → (Nat → Int32) → (Nat → Int32) → (Nat → Int32) → (Nat → Int32) → (Nat → Int32) → Int32 → Int32 → Int32 → Int32 → Int32 → Int32 → (Nat → Int64) → (Nat → Int32) → (Nat → Int32) → Int32 → Int32 → Int32 → Int32 → Int32 → (Nat → Int64) → Int32 → Int32 → (Nat → Int64) → Int32 → Int32 → (Nat → Int64) → Int32 → Int32 → (Nat → Int64) → Int32 → Int32 → (Nat → Int32) → (Nat → Int32) → (Nat → Int32) → Int32 → (Nat → Int32) → (Nat → Int32) → (Nat → Int32) → Int32 → (Nat → Int64) → (Nat → Int32) → Int64 → Int32 → (Nat → Int32) → (Nat → Int32) → (Nat → Int64) → (Nat → Int32) → Int32 → Int32 → Int32 → Int32 → Int32 → Int32 → (Nat → Int32) → Int32 → Int32 → Int32 → Int32 → Int32 → (Nat → Int32) → (Nat → Int32) → (Nat → Int64) → (Nat → Int64) → Prop} (C0 : LwC p s m c b L xs G ca ev) (hr : meth.sig.returnType = ret) (hlocks : meth.locks = false) (hcs : cN ≤ room_1.cells ∧ sN ≤ room_1.slots) (hL : L ≤ 384) (o_people : Op_people Rel N) (o_bow : Op_bow Rel N) (o_bowOf : Op_bowOf Rel N) (o_doubt : Op_doubt Rel N) (o_let : Op_let Rel N) (o_says : Op_says Rel N) (o_sayingOf : Op_sayingOf Rel N) (o_nights : Op_nights Rel N) (o_all : Op_all Rel N) (o_likeliest : Op_likeliest Rel N) (o_wore : Op_wore Rel N) (o_may : Op_may Rel N) (o_odds : Op_odds Rel N) (o_behind : Op_behind Rel N) (o_met : Op_met Rel N) (o_lie : Op_lie Rel N) (o_deed : Op_deed Rel N) (o_deedOf : Op_deedOf Rel N) (o_turn : Op_turn Rel N) (o_as : Op_as Rel N) (o_who : Op_who Rel N) (o_same : Op_same Rel N) (o_owes : Op_owes Rel N) (o_owesTo : Op_owesTo Rel N) (o_bound : Op_bound Rel N) (o_ask : Op_ask Rel N) (o_witnesses : Op_witnesses Rel N) (o_unsure : Op_unsure Rel N) (o_home : Op_home Rel N) (o_homeBow : Op_homeBow Rel N) (o_atHome : Op_atHome Rel N) (o_since : Op_since Rel N) (o_feed : Op_feed Rel N) (o_wipe : Op_wipe Rel N) (o_carnival : Op_carnival Rel N) (o_sheet : Op_sheet Rel N) (o_write : Op_write Rel N) (o_copy : Op_copy Rel N) (o_lays : Op_lays Rel N) (o_ledger : Op_ledger Rel N) (o_read : Op_read Rel N) (o_image : Op_image Rel N) (o_undo : Op_undo Rel N) (o_tear : Op_tear Rel N) (o_count : Op_count Rel N) (o_status : Op_status Rel N) :
    ∀ (n i : Nat), i ≤ L + 6 → L + 7 ≤ i + n → ∀ {C_isKept : Int32} {C_l_bsize : Int32} {C_l_bcells : (Nat → Int32)} {C_l_ssize : Int32} {C_l_scells : (Nat → Int32)} {C_l_dsize : Int32} {C_l_dcells : (Nat → Int32)} {C_l_people : Int32} {C_l_rule : Int32} {C_l_believed : Int32} {C_k_bsize : Int32} {C_k_bcells : (Nat → Int32)} {C_k_ssize : Int32} {C_k_scells : (Nat → Int32)} {C_k_dsize : Int32} {C_k_dcells : (Nat → Int32)} {C_k_people : Int32} {C_k_rule : Int32} {C_k_believed : Int32} {C_d_bsize : Int32} {C_d_bcells : (Nat → Int32)} {C_d_ssize : Int32} {C_d_scells : (Nat → Int32)} {C_d_dsize : Int32} {C_d_dcells : (Nat → Int32)} {C_d_people : Int32} {C_d_rule : Int32} {C_d_believed : Int32} {C_order : (Nat → Int32)} {C_stepsAt : (Nat → Int32)} {C_doubts : (Nat → Int32)} {C_weights : (Nat → Int32)} {C_rows : (Nat → Int32)} {C_metEver : (Nat → Int32)} {C_bowedTo : (Nat → Int32)} {C_isStale : Int32} {C_bowCount : Int32} {C_doubtCount : Int32} {C_seenBows : Int32} {C_likeliest : Int32} {C_mostSayingsSo : Int32} {C_doers : (Nat → Int64)} {C_isTelling : (Nat → Int32)} {C_tbytes : (Nat → Int32)} {C_tlen : Int32} {C_token : Int32} {C_place : Int32} {C_behindIt : Int32} {C_value : Int32} {C_sa_nums : (Nat → Int64)} {C_sa_bits : Int32} {C_sa_len : Int32} {C_sb_nums : (Nat → Int64)} {C_sb_bits : Int32} {C_sb_len : Int32} {C_sc_nums : (Nat → Int64)} {C_sc_bits : Int32} {C_sc_len : Int32} {C_sd_nums : (Nat → Int64)} {C_sd_bits : Int32} {C_sd_len : Int32} {C_findings : (Nat → Int32)} {M_now : (Nat → Int32)} {M_kept : (Nat → Int32)} {M_isKept : Int32} {M_found : (Nat → Int32)} {M_order : (Nat → Int32)} {M_doubts : (Nat → Int32)} {M_doubtMany : Int32} {M_weights : (Nat → Int64)} {M_worn : (Nat → Int32)} {M_pairs : Int64} {M_isTwice : Int32} {M_doer : (Nat → Int32)} {M_doneTo : (Nat → Int32)} {M_doers : (Nat → Int64)} {M_tape : (Nat → Int32)} {M_taped : Int32} {M_begins : Int32} {M_ends : Int32} {M_sort : Int32} {M_value : Int32} {M_isWrong : Int32} {M_items : (Nat → Int32)} {M_itemMany : Int32} {M_bowThen : Int32} {M_doubtThen : Int32} {M_deedThen : Int32} {M_sayingThen : Int32} {M_widths : (Nat → Int32)} {M_sizes : (Nat → Int32)} {M_numbers : (Nat → Int64)} {M_moved : (Nat → Int64)} {H : Heap} {locs : List Loc} {ls : Array Slot}, Rel C_isKept C_l_bsize C_l_bcells C_l_ssize C_l_scells C_l_dsize C_l_dcells C_l_people C_l_rule C_l_believed C_k_bsize C_k_bcells C_k_ssize C_k_scells C_k_dsize C_k_dcells C_k_people C_k_rule C_k_believed C_d_bsize C_d_bcells C_d_ssize C_d_scells C_d_dsize C_d_dcells C_d_people C_d_rule C_d_believed C_order C_stepsAt C_doubts C_weights C_rows C_metEver C_bowedTo C_isStale C_bowCount C_doubtCount C_seenBows C_likeliest C_mostSayingsSo C_doers C_isTelling C_tbytes C_tlen C_token C_place C_behindIt C_value C_sa_nums C_sa_bits C_sa_len C_sb_nums C_sb_bits C_sb_len C_sc_nums C_sc_bits C_sc_len C_sd_nums C_sd_bits C_sd_len C_findings M_now M_kept M_isKept M_found M_order M_doubts M_doubtMany M_weights M_worn M_pairs M_isTwice M_doer M_doneTo M_doers M_tape M_taped M_begins M_ends M_sort M_value M_isWrong M_items M_itemMany M_bowThen M_doubtThen M_deedThen M_sayingThen M_widths M_sizes M_numbers M_moved → va_P G vwCl ((wX ca ev x_m0 x_l0 x_l1 x_l2 x_l3 x_l4 x_l5 x_l6 x_k0 x_k1 x_k2 x_k3 x_k4 x_k5 x_k6 x_d0 x_d1 x_d2 x_d3 x_d4 x_d5 x_d6 x_n0 x_n1 x_n2 x_n3 x_n4 x_n5 x_n6 x_n7 x_b0 x_b1 x_b2 x_t0 x_t1 x_r0 x_sa x_sa0 x_sa1 x_sb0 x_sb1 x_sc0 x_sc1 x_sd0 x_sd1 x_fa C_isKept C_l_bsize C_l_bcells C_l_ssize C_l_scells C_l_dsize C_l_dcells C_l_people C_l_rule C_l_believed C_k_bsize C_k_bcells C_k_ssize C_k_scells C_k_dsize C_k_dcells C_k_people C_k_rule C_k_believed C_d_bsize C_d_bcells C_d_ssize C_d_scells C_d_dsize C_d_dcells C_d_people C_d_rule C_d_believed C_order C_stepsAt C_doubts C_weights C_rows C_metEver C_bowedTo C_isStale C_bowCount C_doubtCount C_seenBows C_likeliest C_mostSayingsSo C_doers C_isTelling C_tbytes C_tlen C_token C_place C_behindIt C_value C_sa_nums C_sa_bits C_sa_len C_sb_nums C_sb_bits C_sb_len C_sc_nums C_sc_bits C_sc_len C_sd_nums C_sd_bits C_sd_len C_findings) ++ (wM ca ev y_h0 y_h1 y_h2 y_h3 y_h4 y_h5 y_h6 y_h7 y_h8 y_h9 y_h10 y_h11 y_h12 y_h13 y_h14 y_h15 y_h16 y_h17 M_now M_kept M_isKept M_found M_order M_doubts M_doubtMany M_weights M_worn M_pairs M_isTwice M_doer M_doneTo M_doers M_tape M_taped M_begins M_ends M_sort M_value M_isWrong M_items M_itemMany M_bowThen M_doubtThen M_deedThen M_sayingThen M_widths M_sizes M_numbers M_moved)) H → va_D (fun q : Nat => s.heap.size ≤ q) ((wX ca ev x_m0 x_l0 x_l1 x_l2 x_l3 x_l4 x_l5 x_l6 x_k0 x_k1 x_k2 x_k3 x_k4 x_k5 x_k6 x_d0 x_d1 x_d2 x_d3 x_d4 x_d5 x_d6 x_n0 x_n1 x_n2 x_n3 x_n4 x_n5 x_n6 x_n7 x_b0 x_b1 x_b2 x_t0 x_t1 x_r0 x_sa x_sa0 x_sa1 x_sb0 x_sb1 x_sc0 x_sc1 x_sd0 x_sd1 x_fa C_isKept C_l_bsize C_l_bcells C_l_ssize C_l_scells C_l_dsize C_l_dcells C_l_people C_l_rule C_l_believed C_k_bsize C_k_bcells C_k_ssize C_k_scells C_k_dsize C_k_dcells C_k_people C_k_rule C_k_believed C_d_bsize C_d_bcells C_d_ssize C_d_scells C_d_dsize C_d_dcells C_d_people C_d_rule C_d_believed C_order C_stepsAt C_doubts C_weights C_rows C_metEver C_bowedTo C_isStale C_bowCount C_doubtCount C_seenBows C_likeliest C_mostSayingsSo C_doers C_isTelling C_tbytes C_tlen C_token C_place C_behindIt C_value C_sa_nums C_sa_bits C_sa_len C_sb_nums C_sb_bits C_sb_len C_sc_nums C_sc_bits C_sc_len C_sd_nums C_sd_bits C_sd_len C_findings) ++ (wM ca ev y_h0 y_h1 y_h2 y_h3 y_h4 y_h5 y_h6 y_h7 y_h8 y_h9 y_h10 y_h11 y_h12 y_h13 y_h14 y_h15 y_h16 y_h17 M_now M_kept M_isKept M_found M_order M_doubts M_doubtMany M_weights M_worn M_pairs M_isTwice M_doer M_doneTo M_doers M_tape M_taped M_begins M_ends M_sort M_value M_isWrong M_items M_itemMany M_bowThen M_doubtThen M_deedThen M_sayingThen M_widths M_sizes M_numbers M_moved)) → va_S (fun q : Nat => s.heap.size ≤ q) s.heap H locs → lv_has ls 4 [(0, .ref b), (1, .ref x_m0), (2, .ref y_h0), (3, .int (nI i))] → W p l e room_1 s m #[Value.ref b] below meth c H locs cN sN (lw_Z below #[Value.ref b] s) (F0 m 18 ls []) := by
  obtain ⟨hx, hb, hml, hown, hts, hX, hbl, hK, hE⟩ := id C0
  have hbA : ¬ (fun q : Nat => s.heap.size ≤ q) b := Nat.not_le.mpr hbl
  intro n
  induction n with
  | zero => intro i h1 h2; omega
  | succ n ih =>
    intro i hi hn C_isKept C_l_bsize C_l_bcells C_l_ssize C_l_scells C_l_dsize C_l_dcells C_l_people C_l_rule C_l_believed C_k_bsize C_k_bcells C_k_ssize C_k_scells C_k_dsize C_k_dcells C_k_people C_k_rule C_k_believed C_d_bsize C_d_bcells C_d_ssize C_d_scells C_d_dsize C_d_dcells C_d_people C_d_rule C_d_believed C_order C_stepsAt C_doubts C_weights C_rows C_metEver C_bowedTo C_isStale C_bowCount C_doubtCount C_seenBows C_likeliest C_mostSayingsSo C_doers C_isTelling C_tbytes C_tlen C_token C_place C_behindIt C_value C_sa_nums C_sa_bits C_sa_len C_sb_nums C_sb_bits C_sb_len C_sc_nums C_sc_bits C_sc_len C_sd_nums C_sd_bits C_sd_len C_findings M_now M_kept M_isKept M_found M_order M_doubts M_doubtMany M_weights M_worn M_pairs M_isTwice M_doer M_doneTo M_doers M_tape M_taped M_begins M_ends M_sort M_value M_isWrong M_items M_itemMany M_bowThen M_doubtThen M_deedThen M_sayingThen M_widths M_sizes M_numbers M_moved H locs ls hR hP hD hS hl
    refine lv_iload_n hx hb dL_law_18 rfl (lv_at hl 3 rfl) ?_
    refine lv_aload_n hx hb dL_law_19 rfl (lv_at hl 0 rfl) ?_
    refine va_slen hx hb hX hbl hbA hS dL_law_20 ?_
    refine lv_bipush (v := (6 : Int32)) hx hb dL_law_21 (by decide) ?_
    refine lv_isub hx hb dL_law_23 ?_
    refine lv_icmp_gt (tgt := 1605) hx hb dL_law_24 (by decide) (fun c0 => ?_) (fun c0 => ?_)
    · refine lv_iconst (v := (1 : Int32)) hx hb dL_law_1605 (by decide) ?_
      refine va_forget (fun q hq => hS.2.2 q hq) ?_
      refine W.widen (k := 600000) (n := 7302250) hcs.1 hcs.2 ?_
      exact lw_ret hx hb hr hlocks dL_law_1606
    · have h6 : i + 6 ≤ L := lw_go hL hi c0
      have i0 : vp_in (nI i) L := vp_in_nI (by omega) (by omega)
      refine lv_aload_n hx hb dL_law_27 rfl (lv_at hl 0 rfl) ?_
      refine lv_iload_n hx hb dL_law_28 rfl (lv_at hl 3 rfl) ?_
      refine va_sld hx hb hX hbl hbA hS i0 dL_law_29 ?_
      refine lv_bipush (v := (63 : Int32)) hx hb dL_law_30 (by decide) ?_
      refine lv_iand hx hb dL_law_32 ?_
      have next : ∀ {C_isKept : Int32} {C_l_bsize : Int32} {C_l_bcells : (Nat → Int32)} {C_l_ssize : Int32} {C_l_scells : (Nat → Int32)} {C_l_dsize : Int32} {C_l_dcells : (Nat → Int32)} {C_l_people : Int32} {C_l_rule : Int32} {C_l_believed : Int32} {C_k_bsize : Int32} {C_k_bcells : (Nat → Int32)} {C_k_ssize : Int32} {C_k_scells : (Nat → Int32)} {C_k_dsize : Int32} {C_k_dcells : (Nat → Int32)} {C_k_people : Int32} {C_k_rule : Int32} {C_k_believed : Int32} {C_d_bsize : Int32} {C_d_bcells : (Nat → Int32)} {C_d_ssize : Int32} {C_d_scells : (Nat → Int32)} {C_d_dsize : Int32} {C_d_dcells : (Nat → Int32)} {C_d_people : Int32} {C_d_rule : Int32} {C_d_believed : Int32} {C_order : (Nat → Int32)} {C_stepsAt : (Nat → Int32)} {C_doubts : (Nat → Int32)} {C_weights : (Nat → Int32)} {C_rows : (Nat → Int32)} {C_metEver : (Nat → Int32)} {C_bowedTo : (Nat → Int32)} {C_isStale : Int32} {C_bowCount : Int32} {C_doubtCount : Int32} {C_seenBows : Int32} {C_likeliest : Int32} {C_mostSayingsSo : Int32} {C_doers : (Nat → Int64)} {C_isTelling : (Nat → Int32)} {C_tbytes : (Nat → Int32)} {C_tlen : Int32} {C_token : Int32} {C_place : Int32} {C_behindIt : Int32} {C_value : Int32} {C_sa_nums : (Nat → Int64)} {C_sa_bits : Int32} {C_sa_len : Int32} {C_sb_nums : (Nat → Int64)} {C_sb_bits : Int32} {C_sb_len : Int32} {C_sc_nums : (Nat → Int64)} {C_sc_bits : Int32} {C_sc_len : Int32} {C_sd_nums : (Nat → Int64)} {C_sd_bits : Int32} {C_sd_len : Int32} {C_findings : (Nat → Int32)} {M_now : (Nat → Int32)} {M_kept : (Nat → Int32)} {M_isKept : Int32} {M_found : (Nat → Int32)} {M_order : (Nat → Int32)} {M_doubts : (Nat → Int32)} {M_doubtMany : Int32} {M_weights : (Nat → Int64)} {M_worn : (Nat → Int32)} {M_pairs : Int64} {M_isTwice : Int32} {M_doer : (Nat → Int32)} {M_doneTo : (Nat → Int32)} {M_doers : (Nat → Int64)} {M_tape : (Nat → Int32)} {M_taped : Int32} {M_begins : Int32} {M_ends : Int32} {M_sort : Int32} {M_value : Int32} {M_isWrong : Int32} {M_items : (Nat → Int32)} {M_itemMany : Int32} {M_bowThen : Int32} {M_doubtThen : Int32} {M_deedThen : Int32} {M_sayingThen : Int32} {M_widths : (Nat → Int32)} {M_sizes : (Nat → Int32)} {M_numbers : (Nat → Int64)} {M_moved : (Nat → Int64)} {H : Heap} {locs : List Loc}, Rel C_isKept C_l_bsize C_l_bcells C_l_ssize C_l_scells C_l_dsize C_l_dcells C_l_people C_l_rule C_l_believed C_k_bsize C_k_bcells C_k_ssize C_k_scells C_k_dsize C_k_dcells C_k_people C_k_rule C_k_believed C_d_bsize C_d_bcells C_d_ssize C_d_scells C_d_dsize C_d_dcells C_d_people C_d_rule C_d_believed C_order C_stepsAt C_doubts C_weights C_rows C_metEver C_bowedTo C_isStale C_bowCount C_doubtCount C_seenBows C_likeliest C_mostSayingsSo C_doers C_isTelling C_tbytes C_tlen C_token C_place C_behindIt C_value C_sa_nums C_sa_bits C_sa_len C_sb_nums C_sb_bits C_sb_len C_sc_nums C_sc_bits C_sc_len C_sd_nums C_sd_bits C_sd_len C_findings M_now M_kept M_isKept M_found M_order M_doubts M_doubtMany M_weights M_worn M_pairs M_isTwice M_doer M_doneTo M_doers M_tape M_taped M_begins M_ends M_sort M_value M_isWrong M_items M_itemMany M_bowThen M_doubtThen M_deedThen M_sayingThen M_widths M_sizes M_numbers M_moved → va_P G vwCl ((wX ca ev x_m0 x_l0 x_l1 x_l2 x_l3 x_l4 x_l5 x_l6 x_k0 x_k1 x_k2 x_k3 x_k4 x_k5 x_k6 x_d0 x_d1 x_d2 x_d3 x_d4 x_d5 x_d6 x_n0 x_n1 x_n2 x_n3 x_n4 x_n5 x_n6 x_n7 x_b0 x_b1 x_b2 x_t0 x_t1 x_r0 x_sa x_sa0 x_sa1 x_sb0 x_sb1 x_sc0 x_sc1 x_sd0 x_sd1 x_fa C_isKept C_l_bsize C_l_bcells C_l_ssize C_l_scells C_l_dsize C_l_dcells C_l_people C_l_rule C_l_believed C_k_bsize C_k_bcells C_k_ssize C_k_scells C_k_dsize C_k_dcells C_k_people C_k_rule C_k_believed C_d_bsize C_d_bcells C_d_ssize C_d_scells C_d_dsize C_d_dcells C_d_people C_d_rule C_d_believed C_order C_stepsAt C_doubts C_weights C_rows C_metEver C_bowedTo C_isStale C_bowCount C_doubtCount C_seenBows C_likeliest C_mostSayingsSo C_doers C_isTelling C_tbytes C_tlen C_token C_place C_behindIt C_value C_sa_nums C_sa_bits C_sa_len C_sb_nums C_sb_bits C_sb_len C_sc_nums C_sc_bits C_sc_len C_sd_nums C_sd_bits C_sd_len C_findings) ++ (wM ca ev y_h0 y_h1 y_h2 y_h3 y_h4 y_h5 y_h6 y_h7 y_h8 y_h9 y_h10 y_h11 y_h12 y_h13 y_h14 y_h15 y_h16 y_h17 M_now M_kept M_isKept M_found M_order M_doubts M_doubtMany M_weights M_worn M_pairs M_isTwice M_doer M_doneTo M_doers M_tape M_taped M_begins M_ends M_sort M_value M_isWrong M_items M_itemMany M_bowThen M_doubtThen M_deedThen M_sayingThen M_widths M_sizes M_numbers M_moved)) H → va_D (fun q : Nat => s.heap.size ≤ q) ((wX ca ev x_m0 x_l0 x_l1 x_l2 x_l3 x_l4 x_l5 x_l6 x_k0 x_k1 x_k2 x_k3 x_k4 x_k5 x_k6 x_d0 x_d1 x_d2 x_d3 x_d4 x_d5 x_d6 x_n0 x_n1 x_n2 x_n3 x_n4 x_n5 x_n6 x_n7 x_b0 x_b1 x_b2 x_t0 x_t1 x_r0 x_sa x_sa0 x_sa1 x_sb0 x_sb1 x_sc0 x_sc1 x_sd0 x_sd1 x_fa C_isKept C_l_bsize C_l_bcells C_l_ssize C_l_scells C_l_dsize C_l_dcells C_l_people C_l_rule C_l_believed C_k_bsize C_k_bcells C_k_ssize C_k_scells C_k_dsize C_k_dcells C_k_people C_k_rule C_k_believed C_d_bsize C_d_bcells C_d_ssize C_d_scells C_d_dsize C_d_dcells C_d_people C_d_rule C_d_believed C_order C_stepsAt C_doubts C_weights C_rows C_metEver C_bowedTo C_isStale C_bowCount C_doubtCount C_seenBows C_likeliest C_mostSayingsSo C_doers C_isTelling C_tbytes C_tlen C_token C_place C_behindIt C_value C_sa_nums C_sa_bits C_sa_len C_sb_nums C_sb_bits C_sb_len C_sc_nums C_sc_bits C_sc_len C_sd_nums C_sd_bits C_sd_len C_findings) ++ (wM ca ev y_h0 y_h1 y_h2 y_h3 y_h4 y_h5 y_h6 y_h7 y_h8 y_h9 y_h10 y_h11 y_h12 y_h13 y_h14 y_h15 y_h16 y_h17 M_now M_kept M_isKept M_found M_order M_doubts M_doubtMany M_weights M_worn M_pairs M_isTwice M_doer M_doneTo M_doers M_tape M_taped M_begins M_ends M_sort M_value M_isWrong M_items M_itemMany M_bowThen M_doubtThen M_deedThen M_sayingThen M_widths M_sizes M_numbers M_moved)) → va_S (fun q : Nat => s.heap.size ≤ q) s.heap H locs → W p l e room_1 s m #[Value.ref b] below meth c H locs cN sN (lw_Z below #[Value.ref b] s) (F0 m 1599 ls []) := by
        intro C_isKept C_l_bsize C_l_bcells C_l_ssize C_l_scells C_l_dsize C_l_dcells C_l_people C_l_rule C_l_believed C_k_bsize C_k_bcells C_k_ssize C_k_scells C_k_dsize C_k_dcells C_k_people C_k_rule C_k_believed C_d_bsize C_d_bcells C_d_ssize C_d_scells C_d_dsize C_d_dcells C_d_people C_d_rule C_d_believed C_order C_stepsAt C_doubts C_weights C_rows C_metEver C_bowedTo C_isStale C_bowCount C_doubtCount C_seenBows C_likeliest C_mostSayingsSo C_doers C_isTelling C_tbytes C_tlen C_token C_place C_behindIt C_value C_sa_nums C_sa_bits C_sa_len C_sb_nums C_sb_bits C_sb_len C_sc_nums C_sc_bits C_sc_len C_sd_nums C_sd_bits C_sd_len C_findings M_now M_kept M_isKept M_found M_order M_doubts M_doubtMany M_weights M_worn M_pairs M_isTwice M_doer M_doneTo M_doers M_tape M_taped M_begins M_ends M_sort M_value M_isWrong M_items M_itemMany M_bowThen M_doubtThen M_deedThen M_sayingThen M_widths M_sizes M_numbers M_moved H locs hR hP hD hS
        refine lv_iinc (v := nI (i + 6)) (lv' := [(3, .int (nI (i + 6))), (0, .ref b), (1, .ref x_m0), (2, .ref y_h0)]) hx hb dL_law_1599 hl (k := 3) rfl (nI_add i 6) (by decide) rfl (fun ls hl => ?_)
        refine lv_goto (tgt := 18) hx hb dL_law_1602 (by decide) ?_
        exact ih (i + 6) (by omega) (by omega) hR hP hD hS (lv_sub hl [1, 2, 3, 0] rfl)
      rcases sw46 (xs (nI i).toNatClampNeg &&& (63 : Int32)) with cx | cx | cx | cx | cx | cx | cx | cx | cx | cx | cx | cx | cx | cx | cx | cx | cx | cx | cx | cx | cx | cx | cx | cx | cx | cx | cx | cx | cx | cx | cx | cx | cx | cx | cx | cx | cx | cx | cx | cx | cx | cx | cx | cx | cx | cx | cx
      · refine lv_tableOut (tgt := 1599) hx hb dL_law_33 cx (by decide) ?_
        exact next hR hP hD hS
      · rw [cx]
        refine lv_tableIn (tgt := 232) hx hb dL_law_33 (by decide) (by decide) rfl (by decide) ?_
        exact lc_people (Rel := Rel) (N := N) C0 hcs o_people h6 hL hR hP hD hS hl next
      · rw [cx]
        refine lv_tableIn (tgt := 255) hx hb dL_law_33 (by decide) (by decide) rfl (by decide) ?_
        exact lc_bow (Rel := Rel) (N := N) C0 hcs o_bow h6 hL hR hP hD hS hl next
      · rw [cx]
        refine lv_tableIn (tgt := 308) hx hb dL_law_33 (by decide) (by decide) rfl (by decide) ?_
        exact lc_bowOf (Rel := Rel) (N := N) C0 hcs o_bowOf h6 hL hR hP hD hS hl next
      · rw [cx]
        refine lv_tableIn (tgt := 341) hx hb dL_law_33 (by decide) (by decide) rfl (by decide) ?_
        exact lc_doubt (Rel := Rel) (N := N) C0 hcs o_doubt h6 hL hR hP hD hS hl next
      · rw [cx]
        refine lv_tableIn (tgt := 374) hx hb dL_law_33 (by decide) (by decide) rfl (by decide) ?_
        exact lc_let (Rel := Rel) (N := N) C0 hcs o_let h6 hL hR hP hD hS hl next
      · rw [cx]
        refine lv_tableIn (tgt := 423) hx hb dL_law_33 (by decide) (by decide) rfl (by decide) ?_
        exact lc_says (Rel := Rel) (N := N) C0 hcs o_says h6 hL hR hP hD hS hl next
      · rw [cx]
        refine lv_tableIn (tgt := 492) hx hb dL_law_33 (by decide) (by decide) rfl (by decide) ?_
        exact lc_sayingOf (Rel := Rel) (N := N) C0 hcs o_sayingOf h6 hL hR hP hD hS hl next
      · rw [cx]
        refine lv_tableIn (tgt := 525) hx hb dL_law_33 (by decide) (by decide) rfl (by decide) ?_
        exact lc_nights (Rel := Rel) (N := N) C0 hcs o_nights h6 hL hR hP hD hS hl next
      · rw [cx]
        refine lv_tableIn (tgt := 538) hx hb dL_law_33 (by decide) (by decide) rfl (by decide) ?_
        exact lc_all (Rel := Rel) (N := N) C0 hcs o_all h6 hL hR hP hD hS hl next
      · rw [cx]
        refine lv_tableIn (tgt := 552) hx hb dL_law_33 (by decide) (by decide) rfl (by decide) ?_
        exact lc_likeliest (Rel := Rel) (N := N) C0 hcs o_likeliest h6 hL hR hP hD hS hl next
      · rw [cx]
        refine lv_tableIn (tgt := 565) hx hb dL_law_33 (by decide) (by decide) rfl (by decide) ?_
        exact lc_wore (Rel := Rel) (N := N) C0 hcs o_wore h6 hL hR hP hD hS hl next
      · rw [cx]
        refine lv_tableIn (tgt := 598) hx hb dL_law_33 (by decide) (by decide) rfl (by decide) ?_
        exact lc_may (Rel := Rel) (N := N) C0 hcs o_may h6 hL hR hP hD hS hl next
      · rw [cx]
        refine lv_tableIn (tgt := 631) hx hb dL_law_33 (by decide) (by decide) rfl (by decide) ?_
        exact lc_odds (Rel := Rel) (N := N) C0 hcs o_odds h6 hL hR hP hD hS hl next
      · rw [cx]
        refine lv_tableIn (tgt := 675) hx hb dL_law_33 (by decide) (by decide) rfl (by decide) ?_
        exact lc_behind (Rel := Rel) (N := N) C0 hcs o_behind h6 hL hR hP hD hS hl next
      · rw [cx]
        refine lv_tableIn (tgt := 708) hx hb dL_law_33 (by decide) (by decide) rfl (by decide) ?_
        exact lc_met (Rel := Rel) (N := N) C0 hcs o_met h6 hL hR hP hD hS hl next
      · rw [cx]
        refine lv_tableIn (tgt := 731) hx hb dL_law_33 (by decide) (by decide) rfl (by decide) ?_
        exact lc_lie (Rel := Rel) (N := N) C0 hcs o_lie h6 hL hR hP hD hS hl next
      · rw [cx]
        refine lv_tableIn (tgt := 744) hx hb dL_law_33 (by decide) (by decide) rfl (by decide) ?_
        exact lc_deed (Rel := Rel) (N := N) C0 hcs o_deed h6 hL hR hP hD hS hl next
      · rw [cx]
        refine lv_tableIn (tgt := 807) hx hb dL_law_33 (by decide) (by decide) rfl (by decide) ?_
        exact lc_deedOf (Rel := Rel) (N := N) C0 hcs o_deedOf h6 hL hR hP hD hS hl next
      · rw [cx]
        refine lv_tableIn (tgt := 840) hx hb dL_law_33 (by decide) (by decide) rfl (by decide) ?_
        exact lc_turn (Rel := Rel) (N := N) C0 hcs o_turn h6 hL hR hP hD hS hl next
      · rw [cx]
        refine lv_tableIn (tgt := 873) hx hb dL_law_33 (by decide) (by decide) rfl (by decide) ?_
        exact lc_as (Rel := Rel) (N := N) C0 hcs o_as h6 hL hR hP hD hS hl next
      · rw [cx]
        refine lv_tableIn (tgt := 906) hx hb dL_law_33 (by decide) (by decide) rfl (by decide) ?_
        exact lc_who (Rel := Rel) (N := N) C0 hcs o_who h6 hL hR hP hD hS hl next
      · rw [cx]
        refine lv_tableIn (tgt := 939) hx hb dL_law_33 (by decide) (by decide) rfl (by decide) ?_
        exact lc_same (Rel := Rel) (N := N) C0 hcs o_same h6 hL hR hP hD hS hl next
      · rw [cx]
        refine lv_tableIn (tgt := 973) hx hb dL_law_33 (by decide) (by decide) rfl (by decide) ?_
        exact lc_owes (Rel := Rel) (N := N) C0 hcs o_owes h6 hL hR hP hD hS hl next
      · rw [cx]
        refine lv_tableIn (tgt := 997) hx hb dL_law_33 (by decide) (by decide) rfl (by decide) ?_
        exact lc_owesTo (Rel := Rel) (N := N) C0 hcs o_owesTo h6 hL hR hP hD hS hl next
      · rw [cx]
        refine lv_tableIn (tgt := 1030) hx hb dL_law_33 (by decide) (by decide) rfl (by decide) ?_
        exact lc_bound (Rel := Rel) (N := N) C0 hcs o_bound h6 hL hR hP hD hS hl next
      · rw [cx]
        refine lv_tableIn (tgt := 1064) hx hb dL_law_33 (by decide) (by decide) rfl (by decide) ?_
        exact lc_ask (Rel := Rel) (N := N) C0 hcs o_ask h6 hL hR hP hD hS hl next
      · rw [cx]
        refine lv_tableIn (tgt := 1077) hx hb dL_law_33 (by decide) (by decide) rfl (by decide) ?_
        exact lc_witnesses (Rel := Rel) (N := N) C0 hcs o_witnesses h6 hL hR hP hD hS hl next
      · rw [cx]
        refine lv_tableIn (tgt := 1090) hx hb dL_law_33 (by decide) (by decide) rfl (by decide) ?_
        exact lc_unsure (Rel := Rel) (N := N) C0 hcs o_unsure h6 hL hR hP hD hS hl next
      · rw [cx]
        refine lv_tableIn (tgt := 1103) hx hb dL_law_33 (by decide) (by decide) rfl (by decide) ?_
        exact lc_home (Rel := Rel) (N := N) C0 hcs o_home h6 hL hR hP hD hS hl next
      · rw [cx]
        refine lv_tableIn (tgt := 1116) hx hb dL_law_33 (by decide) (by decide) rfl (by decide) ?_
        exact lc_homeBow (Rel := Rel) (N := N) C0 hcs o_homeBow h6 hL hR hP hD hS hl next
      · rw [cx]
        refine lv_tableIn (tgt := 1139) hx hb dL_law_33 (by decide) (by decide) rfl (by decide) ?_
        exact lc_atHome (Rel := Rel) (N := N) C0 hcs o_atHome h6 hL hR hP hD hS hl next
      · rw [cx]
        refine lv_tableIn (tgt := 1162) hx hb dL_law_33 (by decide) (by decide) rfl (by decide) ?_
        exact lc_since (Rel := Rel) (N := N) C0 hcs o_since h6 hL hR hP hD hS hl next
      · rw [cx]
        refine lv_tableIn (tgt := 1185) hx hb dL_law_33 (by decide) (by decide) rfl (by decide) ?_
        exact lc_feed (Rel := Rel) (N := N) C0 hcs o_feed h6 hL hR hP hD hS hl next
      · rw [cx]
        refine lv_tableIn (tgt := 1218) hx hb dL_law_33 (by decide) (by decide) rfl (by decide) ?_
        exact lc_wipe (Rel := Rel) (N := N) C0 hcs o_wipe h6 hL hR hP hD hS hl next
      · rw [cx]
        refine lv_tableIn (tgt := 1231) hx hb dL_law_33 (by decide) (by decide) rfl (by decide) ?_
        exact lc_carnival (Rel := Rel) (N := N) C0 hcs o_carnival h6 hL hR hP hD hS hl next
      · rw [cx]
        refine lv_tableIn (tgt := 1244) hx hb dL_law_33 (by decide) (by decide) rfl (by decide) ?_
        exact lc_sheet (Rel := Rel) (N := N) C0 hcs o_sheet h6 hL hR hP hD hS hl next
      · rw [cx]
        refine lv_tableIn (tgt := 1287) hx hb dL_law_33 (by decide) (by decide) rfl (by decide) ?_
        exact lc_write (Rel := Rel) (N := N) C0 hcs o_write h6 hL hR hP hD hS hl next
      · rw [cx]
        refine lv_tableIn (tgt := 1361) hx hb dL_law_33 (by decide) (by decide) rfl (by decide) ?_
        exact lc_copy (Rel := Rel) (N := N) C0 hcs o_copy h6 hL hR hP hD hS hl next
      · rw [cx]
        refine lv_tableIn (tgt := 1424) hx hb dL_law_33 (by decide) (by decide) rfl (by decide) ?_
        exact lc_lays (Rel := Rel) (N := N) C0 hcs o_lays h6 hL hR hP hD hS hl next
      · rw [cx]
        refine lv_tableIn (tgt := 1447) hx hb dL_law_33 (by decide) (by decide) rfl (by decide) ?_
        exact lc_ledger (Rel := Rel) (N := N) C0 hcs o_ledger h6 hL hR hP hD hS hl next
      · rw [cx]
        refine lv_tableIn (tgt := 1480) hx hb dL_law_33 (by decide) (by decide) rfl (by decide) ?_
        exact lc_read (Rel := Rel) (N := N) C0 hcs o_read h6 hL hR hP hD hS hl next
      · rw [cx]
        refine lv_tableIn (tgt := 1514) hx hb dL_law_33 (by decide) (by decide) rfl (by decide) ?_
        exact lc_image (Rel := Rel) (N := N) C0 hcs o_image h6 hL hR hP hD hS hl next
      · rw [cx]
        refine lv_tableIn (tgt := 1527) hx hb dL_law_33 (by decide) (by decide) rfl (by decide) ?_
        exact lc_undo (Rel := Rel) (N := N) C0 hcs o_undo h6 hL hR hP hD hS hl next
      · rw [cx]
        refine lv_tableIn (tgt := 1540) hx hb dL_law_33 (by decide) (by decide) rfl (by decide) ?_
        exact lc_tear (Rel := Rel) (N := N) C0 hcs o_tear h6 hL hR hP hD hS hl next
      · rw [cx]
        refine lv_tableIn (tgt := 1553) hx hb dL_law_33 (by decide) (by decide) rfl (by decide) ?_
        exact lc_count (Rel := Rel) (N := N) C0 hcs o_count h6 hL hR hP hD hS hl next
      · rw [cx]
        refine lv_tableIn (tgt := 1576) hx hb dL_law_33 (by decide) (by decide) rfl (by decide) ?_
        exact lc_status (Rel := Rel) (N := N) C0 hcs o_status h6 hL hR hP hD hS hl next
