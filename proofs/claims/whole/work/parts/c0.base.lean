/-! THE SHAPE: the cells that the two constructors make, and what their references hold (never changed, but Run.plan) -/
def dsB : Ds := [(6, 16), (13, 8), (14, 8), (10, 8), (10, 384), (10, 62), (10, 2), (11, 96), (11, 96), (3, 9), (10, 96), (10, 96), (10, 96), (10, 96), (11, 96), (10, 4), (10, 4), (10, 4), (3, 9), (10, 96), (10, 96), (10, 96), (10, 96), (11, 96), (10, 4), (10, 4), (10, 4), (1, 8), (10, 400), (10, 400), (10, 1196), (10, 1196), (10, 1196), (11, 1196), (5, 13), (2, 5), (10, 1000), (10, 1000), (10, 1000), (10, 1000), (0, 9), (10, 96), (10, 96), (10, 96), (10, 96), (10, 96), (11, 96), (10, 96), (10, 96), (10, 96), (11, 96), (11, 96), (5, 13), (2, 5), (10, 0), (10, 0), (10, 0), (10, 0), (0, 9), (10, 96), (10, 96), (10, 96), (10, 96), (10, 96), (11, 96), (10, 96), (10, 96), (10, 96), (11, 96), (11, 96), (7, 53), (10, 8), (10, 96), (10, 96), (10, 96), (10, 96), (11, 96), (10, 4), (10, 4), (10, 4), (10, 8), (10, 8), (12, 800), (12, 100), (10, 4320), (10, 117), (10, 2000), (10, 2000), (10, 2000), (11, 2000), (10, 2000), (10, 520), (10, 520), (10, 96), (11, 96), (10, 96), (10, 96), (10, 96), (10, 96), (10, 96), (11, 96), (10, 18), (10, 18000), (10, 288), (10, 288), (10, 288), (10, 288), (11, 96), (11, 96), (11, 288), (10, 384), (10, 64), (10, 2), (11, 96)]
theorem dsB_len : dsB.length = 114 := by decide +kernel
theorem dk_B {tl : Ds} {n : Nat} (h : n < 114) : dk (dsB ++ tl) (n : Int) = (dsB.getD n (99, 0)).1 ∧ dl (dsB ++ tl) (n : Int) = (dsB.getD n (99, 0)).2 := by
  have h2 : n < dsB.length := by rw [dsB_len]; exact h
  simp only [dk, dl]
  show ((dsB ++ tl).getD n (99, 0)).1 = _ ∧ ((dsB ++ tl).getD n (99, 0)).2 = _
  simp only [List.getD_eq_getElem?_getD, List.getElem?_append_left h2]
  exact ⟨trivial, trivial⟩
theorem K_0 {tl : Ds} : dk (dsB ++ tl) 0 = 6 := (dk_B (n := 0) (by decide)).1
theorem L_0 {tl : Ds} : (dl (dsB ++ tl) 0 : Int) = 16 := congrArg Nat.cast (dk_B (n := 0) (by decide)).2
theorem K_1 {tl : Ds} : dk (dsB ++ tl) 1 = 13 := (dk_B (n := 1) (by decide)).1
theorem L_1 {tl : Ds} : (dl (dsB ++ tl) 1 : Int) = 8 := congrArg Nat.cast (dk_B (n := 1) (by decide)).2
theorem K_2 {tl : Ds} : dk (dsB ++ tl) 2 = 14 := (dk_B (n := 2) (by decide)).1
theorem L_2 {tl : Ds} : (dl (dsB ++ tl) 2 : Int) = 8 := congrArg Nat.cast (dk_B (n := 2) (by decide)).2
theorem K_3 {tl : Ds} : dk (dsB ++ tl) 3 = 10 := (dk_B (n := 3) (by decide)).1
theorem L_3 {tl : Ds} : (dl (dsB ++ tl) 3 : Int) = 8 := congrArg Nat.cast (dk_B (n := 3) (by decide)).2
theorem K_4 {tl : Ds} : dk (dsB ++ tl) 4 = 10 := (dk_B (n := 4) (by decide)).1
theorem L_4 {tl : Ds} : (dl (dsB ++ tl) 4 : Int) = 384 := congrArg Nat.cast (dk_B (n := 4) (by decide)).2
theorem K_5 {tl : Ds} : dk (dsB ++ tl) 5 = 10 := (dk_B (n := 5) (by decide)).1
theorem L_5 {tl : Ds} : (dl (dsB ++ tl) 5 : Int) = 62 := congrArg Nat.cast (dk_B (n := 5) (by decide)).2
theorem K_6 {tl : Ds} : dk (dsB ++ tl) 6 = 10 := (dk_B (n := 6) (by decide)).1
theorem L_6 {tl : Ds} : (dl (dsB ++ tl) 6 : Int) = 2 := congrArg Nat.cast (dk_B (n := 6) (by decide)).2
theorem K_7 {tl : Ds} : dk (dsB ++ tl) 7 = 11 := (dk_B (n := 7) (by decide)).1
theorem L_7 {tl : Ds} : (dl (dsB ++ tl) 7 : Int) = 96 := congrArg Nat.cast (dk_B (n := 7) (by decide)).2
theorem K_8 {tl : Ds} : dk (dsB ++ tl) 8 = 11 := (dk_B (n := 8) (by decide)).1
theorem L_8 {tl : Ds} : (dl (dsB ++ tl) 8 : Int) = 96 := congrArg Nat.cast (dk_B (n := 8) (by decide)).2
theorem K_9 {tl : Ds} : dk (dsB ++ tl) 9 = 3 := (dk_B (n := 9) (by decide)).1
theorem L_9 {tl : Ds} : (dl (dsB ++ tl) 9 : Int) = 9 := congrArg Nat.cast (dk_B (n := 9) (by decide)).2
theorem K_10 {tl : Ds} : dk (dsB ++ tl) 10 = 10 := (dk_B (n := 10) (by decide)).1
theorem L_10 {tl : Ds} : (dl (dsB ++ tl) 10 : Int) = 96 := congrArg Nat.cast (dk_B (n := 10) (by decide)).2
theorem K_11 {tl : Ds} : dk (dsB ++ tl) 11 = 10 := (dk_B (n := 11) (by decide)).1
theorem L_11 {tl : Ds} : (dl (dsB ++ tl) 11 : Int) = 96 := congrArg Nat.cast (dk_B (n := 11) (by decide)).2
theorem K_12 {tl : Ds} : dk (dsB ++ tl) 12 = 10 := (dk_B (n := 12) (by decide)).1
theorem L_12 {tl : Ds} : (dl (dsB ++ tl) 12 : Int) = 96 := congrArg Nat.cast (dk_B (n := 12) (by decide)).2
theorem K_13 {tl : Ds} : dk (dsB ++ tl) 13 = 10 := (dk_B (n := 13) (by decide)).1
theorem L_13 {tl : Ds} : (dl (dsB ++ tl) 13 : Int) = 96 := congrArg Nat.cast (dk_B (n := 13) (by decide)).2
theorem K_14 {tl : Ds} : dk (dsB ++ tl) 14 = 11 := (dk_B (n := 14) (by decide)).1
theorem L_14 {tl : Ds} : (dl (dsB ++ tl) 14 : Int) = 96 := congrArg Nat.cast (dk_B (n := 14) (by decide)).2
theorem K_15 {tl : Ds} : dk (dsB ++ tl) 15 = 10 := (dk_B (n := 15) (by decide)).1
theorem L_15 {tl : Ds} : (dl (dsB ++ tl) 15 : Int) = 4 := congrArg Nat.cast (dk_B (n := 15) (by decide)).2
theorem K_16 {tl : Ds} : dk (dsB ++ tl) 16 = 10 := (dk_B (n := 16) (by decide)).1
theorem L_16 {tl : Ds} : (dl (dsB ++ tl) 16 : Int) = 4 := congrArg Nat.cast (dk_B (n := 16) (by decide)).2
theorem K_17 {tl : Ds} : dk (dsB ++ tl) 17 = 10 := (dk_B (n := 17) (by decide)).1
theorem L_17 {tl : Ds} : (dl (dsB ++ tl) 17 : Int) = 4 := congrArg Nat.cast (dk_B (n := 17) (by decide)).2
theorem K_18 {tl : Ds} : dk (dsB ++ tl) 18 = 3 := (dk_B (n := 18) (by decide)).1
theorem L_18 {tl : Ds} : (dl (dsB ++ tl) 18 : Int) = 9 := congrArg Nat.cast (dk_B (n := 18) (by decide)).2
theorem K_19 {tl : Ds} : dk (dsB ++ tl) 19 = 10 := (dk_B (n := 19) (by decide)).1
theorem L_19 {tl : Ds} : (dl (dsB ++ tl) 19 : Int) = 96 := congrArg Nat.cast (dk_B (n := 19) (by decide)).2
theorem K_20 {tl : Ds} : dk (dsB ++ tl) 20 = 10 := (dk_B (n := 20) (by decide)).1
theorem L_20 {tl : Ds} : (dl (dsB ++ tl) 20 : Int) = 96 := congrArg Nat.cast (dk_B (n := 20) (by decide)).2
theorem K_21 {tl : Ds} : dk (dsB ++ tl) 21 = 10 := (dk_B (n := 21) (by decide)).1
theorem L_21 {tl : Ds} : (dl (dsB ++ tl) 21 : Int) = 96 := congrArg Nat.cast (dk_B (n := 21) (by decide)).2
theorem K_22 {tl : Ds} : dk (dsB ++ tl) 22 = 10 := (dk_B (n := 22) (by decide)).1
theorem L_22 {tl : Ds} : (dl (dsB ++ tl) 22 : Int) = 96 := congrArg Nat.cast (dk_B (n := 22) (by decide)).2
theorem K_23 {tl : Ds} : dk (dsB ++ tl) 23 = 11 := (dk_B (n := 23) (by decide)).1
theorem L_23 {tl : Ds} : (dl (dsB ++ tl) 23 : Int) = 96 := congrArg Nat.cast (dk_B (n := 23) (by decide)).2
theorem K_24 {tl : Ds} : dk (dsB ++ tl) 24 = 10 := (dk_B (n := 24) (by decide)).1
theorem L_24 {tl : Ds} : (dl (dsB ++ tl) 24 : Int) = 4 := congrArg Nat.cast (dk_B (n := 24) (by decide)).2
theorem K_25 {tl : Ds} : dk (dsB ++ tl) 25 = 10 := (dk_B (n := 25) (by decide)).1
theorem L_25 {tl : Ds} : (dl (dsB ++ tl) 25 : Int) = 4 := congrArg Nat.cast (dk_B (n := 25) (by decide)).2
theorem K_26 {tl : Ds} : dk (dsB ++ tl) 26 = 10 := (dk_B (n := 26) (by decide)).1
theorem L_26 {tl : Ds} : (dl (dsB ++ tl) 26 : Int) = 4 := congrArg Nat.cast (dk_B (n := 26) (by decide)).2
theorem K_27 {tl : Ds} : dk (dsB ++ tl) 27 = 1 := (dk_B (n := 27) (by decide)).1
theorem L_27 {tl : Ds} : (dl (dsB ++ tl) 27 : Int) = 8 := congrArg Nat.cast (dk_B (n := 27) (by decide)).2
theorem K_28 {tl : Ds} : dk (dsB ++ tl) 28 = 10 := (dk_B (n := 28) (by decide)).1
theorem L_28 {tl : Ds} : (dl (dsB ++ tl) 28 : Int) = 400 := congrArg Nat.cast (dk_B (n := 28) (by decide)).2
theorem K_29 {tl : Ds} : dk (dsB ++ tl) 29 = 10 := (dk_B (n := 29) (by decide)).1
theorem L_29 {tl : Ds} : (dl (dsB ++ tl) 29 : Int) = 400 := congrArg Nat.cast (dk_B (n := 29) (by decide)).2
theorem K_30 {tl : Ds} : dk (dsB ++ tl) 30 = 10 := (dk_B (n := 30) (by decide)).1
theorem L_30 {tl : Ds} : (dl (dsB ++ tl) 30 : Int) = 1196 := congrArg Nat.cast (dk_B (n := 30) (by decide)).2
theorem K_31 {tl : Ds} : dk (dsB ++ tl) 31 = 10 := (dk_B (n := 31) (by decide)).1
theorem L_31 {tl : Ds} : (dl (dsB ++ tl) 31 : Int) = 1196 := congrArg Nat.cast (dk_B (n := 31) (by decide)).2
theorem K_32 {tl : Ds} : dk (dsB ++ tl) 32 = 10 := (dk_B (n := 32) (by decide)).1
theorem L_32 {tl : Ds} : (dl (dsB ++ tl) 32 : Int) = 1196 := congrArg Nat.cast (dk_B (n := 32) (by decide)).2
theorem K_33 {tl : Ds} : dk (dsB ++ tl) 33 = 11 := (dk_B (n := 33) (by decide)).1
theorem L_33 {tl : Ds} : (dl (dsB ++ tl) 33 : Int) = 1196 := congrArg Nat.cast (dk_B (n := 33) (by decide)).2
theorem K_34 {tl : Ds} : dk (dsB ++ tl) 34 = 5 := (dk_B (n := 34) (by decide)).1
theorem L_34 {tl : Ds} : (dl (dsB ++ tl) 34 : Int) = 13 := congrArg Nat.cast (dk_B (n := 34) (by decide)).2
theorem K_35 {tl : Ds} : dk (dsB ++ tl) 35 = 2 := (dk_B (n := 35) (by decide)).1
theorem L_35 {tl : Ds} : (dl (dsB ++ tl) 35 : Int) = 5 := congrArg Nat.cast (dk_B (n := 35) (by decide)).2
theorem K_36 {tl : Ds} : dk (dsB ++ tl) 36 = 10 := (dk_B (n := 36) (by decide)).1
theorem L_36 {tl : Ds} : (dl (dsB ++ tl) 36 : Int) = 1000 := congrArg Nat.cast (dk_B (n := 36) (by decide)).2
theorem K_37 {tl : Ds} : dk (dsB ++ tl) 37 = 10 := (dk_B (n := 37) (by decide)).1
theorem L_37 {tl : Ds} : (dl (dsB ++ tl) 37 : Int) = 1000 := congrArg Nat.cast (dk_B (n := 37) (by decide)).2
theorem K_38 {tl : Ds} : dk (dsB ++ tl) 38 = 10 := (dk_B (n := 38) (by decide)).1
theorem L_38 {tl : Ds} : (dl (dsB ++ tl) 38 : Int) = 1000 := congrArg Nat.cast (dk_B (n := 38) (by decide)).2
theorem K_39 {tl : Ds} : dk (dsB ++ tl) 39 = 10 := (dk_B (n := 39) (by decide)).1
theorem L_39 {tl : Ds} : (dl (dsB ++ tl) 39 : Int) = 1000 := congrArg Nat.cast (dk_B (n := 39) (by decide)).2
theorem K_40 {tl : Ds} : dk (dsB ++ tl) 40 = 0 := (dk_B (n := 40) (by decide)).1
theorem L_40 {tl : Ds} : (dl (dsB ++ tl) 40 : Int) = 9 := congrArg Nat.cast (dk_B (n := 40) (by decide)).2
theorem K_41 {tl : Ds} : dk (dsB ++ tl) 41 = 10 := (dk_B (n := 41) (by decide)).1
theorem L_41 {tl : Ds} : (dl (dsB ++ tl) 41 : Int) = 96 := congrArg Nat.cast (dk_B (n := 41) (by decide)).2
theorem K_42 {tl : Ds} : dk (dsB ++ tl) 42 = 10 := (dk_B (n := 42) (by decide)).1
theorem L_42 {tl : Ds} : (dl (dsB ++ tl) 42 : Int) = 96 := congrArg Nat.cast (dk_B (n := 42) (by decide)).2
theorem K_43 {tl : Ds} : dk (dsB ++ tl) 43 = 10 := (dk_B (n := 43) (by decide)).1
theorem L_43 {tl : Ds} : (dl (dsB ++ tl) 43 : Int) = 96 := congrArg Nat.cast (dk_B (n := 43) (by decide)).2
theorem K_44 {tl : Ds} : dk (dsB ++ tl) 44 = 10 := (dk_B (n := 44) (by decide)).1
theorem L_44 {tl : Ds} : (dl (dsB ++ tl) 44 : Int) = 96 := congrArg Nat.cast (dk_B (n := 44) (by decide)).2
theorem K_45 {tl : Ds} : dk (dsB ++ tl) 45 = 10 := (dk_B (n := 45) (by decide)).1
theorem L_45 {tl : Ds} : (dl (dsB ++ tl) 45 : Int) = 96 := congrArg Nat.cast (dk_B (n := 45) (by decide)).2
theorem K_46 {tl : Ds} : dk (dsB ++ tl) 46 = 11 := (dk_B (n := 46) (by decide)).1
theorem L_46 {tl : Ds} : (dl (dsB ++ tl) 46 : Int) = 96 := congrArg Nat.cast (dk_B (n := 46) (by decide)).2
theorem K_47 {tl : Ds} : dk (dsB ++ tl) 47 = 10 := (dk_B (n := 47) (by decide)).1
theorem L_47 {tl : Ds} : (dl (dsB ++ tl) 47 : Int) = 96 := congrArg Nat.cast (dk_B (n := 47) (by decide)).2
theorem K_48 {tl : Ds} : dk (dsB ++ tl) 48 = 10 := (dk_B (n := 48) (by decide)).1
theorem L_48 {tl : Ds} : (dl (dsB ++ tl) 48 : Int) = 96 := congrArg Nat.cast (dk_B (n := 48) (by decide)).2
theorem K_49 {tl : Ds} : dk (dsB ++ tl) 49 = 10 := (dk_B (n := 49) (by decide)).1
theorem L_49 {tl : Ds} : (dl (dsB ++ tl) 49 : Int) = 96 := congrArg Nat.cast (dk_B (n := 49) (by decide)).2
theorem K_50 {tl : Ds} : dk (dsB ++ tl) 50 = 11 := (dk_B (n := 50) (by decide)).1
theorem L_50 {tl : Ds} : (dl (dsB ++ tl) 50 : Int) = 96 := congrArg Nat.cast (dk_B (n := 50) (by decide)).2
theorem K_51 {tl : Ds} : dk (dsB ++ tl) 51 = 11 := (dk_B (n := 51) (by decide)).1
theorem L_51 {tl : Ds} : (dl (dsB ++ tl) 51 : Int) = 96 := congrArg Nat.cast (dk_B (n := 51) (by decide)).2
theorem K_52 {tl : Ds} : dk (dsB ++ tl) 52 = 5 := (dk_B (n := 52) (by decide)).1
theorem L_52 {tl : Ds} : (dl (dsB ++ tl) 52 : Int) = 13 := congrArg Nat.cast (dk_B (n := 52) (by decide)).2
theorem K_53 {tl : Ds} : dk (dsB ++ tl) 53 = 2 := (dk_B (n := 53) (by decide)).1
theorem L_53 {tl : Ds} : (dl (dsB ++ tl) 53 : Int) = 5 := congrArg Nat.cast (dk_B (n := 53) (by decide)).2
theorem K_54 {tl : Ds} : dk (dsB ++ tl) 54 = 10 := (dk_B (n := 54) (by decide)).1
theorem L_54 {tl : Ds} : (dl (dsB ++ tl) 54 : Int) = 0 := congrArg Nat.cast (dk_B (n := 54) (by decide)).2
theorem K_55 {tl : Ds} : dk (dsB ++ tl) 55 = 10 := (dk_B (n := 55) (by decide)).1
theorem L_55 {tl : Ds} : (dl (dsB ++ tl) 55 : Int) = 0 := congrArg Nat.cast (dk_B (n := 55) (by decide)).2
theorem K_56 {tl : Ds} : dk (dsB ++ tl) 56 = 10 := (dk_B (n := 56) (by decide)).1
theorem L_56 {tl : Ds} : (dl (dsB ++ tl) 56 : Int) = 0 := congrArg Nat.cast (dk_B (n := 56) (by decide)).2
theorem K_57 {tl : Ds} : dk (dsB ++ tl) 57 = 10 := (dk_B (n := 57) (by decide)).1
theorem L_57 {tl : Ds} : (dl (dsB ++ tl) 57 : Int) = 0 := congrArg Nat.cast (dk_B (n := 57) (by decide)).2
theorem K_58 {tl : Ds} : dk (dsB ++ tl) 58 = 0 := (dk_B (n := 58) (by decide)).1
theorem L_58 {tl : Ds} : (dl (dsB ++ tl) 58 : Int) = 9 := congrArg Nat.cast (dk_B (n := 58) (by decide)).2
theorem K_59 {tl : Ds} : dk (dsB ++ tl) 59 = 10 := (dk_B (n := 59) (by decide)).1
theorem L_59 {tl : Ds} : (dl (dsB ++ tl) 59 : Int) = 96 := congrArg Nat.cast (dk_B (n := 59) (by decide)).2
theorem K_60 {tl : Ds} : dk (dsB ++ tl) 60 = 10 := (dk_B (n := 60) (by decide)).1
theorem L_60 {tl : Ds} : (dl (dsB ++ tl) 60 : Int) = 96 := congrArg Nat.cast (dk_B (n := 60) (by decide)).2
theorem K_61 {tl : Ds} : dk (dsB ++ tl) 61 = 10 := (dk_B (n := 61) (by decide)).1
theorem L_61 {tl : Ds} : (dl (dsB ++ tl) 61 : Int) = 96 := congrArg Nat.cast (dk_B (n := 61) (by decide)).2
theorem K_62 {tl : Ds} : dk (dsB ++ tl) 62 = 10 := (dk_B (n := 62) (by decide)).1
theorem L_62 {tl : Ds} : (dl (dsB ++ tl) 62 : Int) = 96 := congrArg Nat.cast (dk_B (n := 62) (by decide)).2
theorem K_63 {tl : Ds} : dk (dsB ++ tl) 63 = 10 := (dk_B (n := 63) (by decide)).1
theorem L_63 {tl : Ds} : (dl (dsB ++ tl) 63 : Int) = 96 := congrArg Nat.cast (dk_B (n := 63) (by decide)).2
theorem K_64 {tl : Ds} : dk (dsB ++ tl) 64 = 11 := (dk_B (n := 64) (by decide)).1
theorem L_64 {tl : Ds} : (dl (dsB ++ tl) 64 : Int) = 96 := congrArg Nat.cast (dk_B (n := 64) (by decide)).2
theorem K_65 {tl : Ds} : dk (dsB ++ tl) 65 = 10 := (dk_B (n := 65) (by decide)).1
theorem L_65 {tl : Ds} : (dl (dsB ++ tl) 65 : Int) = 96 := congrArg Nat.cast (dk_B (n := 65) (by decide)).2
theorem K_66 {tl : Ds} : dk (dsB ++ tl) 66 = 10 := (dk_B (n := 66) (by decide)).1
theorem L_66 {tl : Ds} : (dl (dsB ++ tl) 66 : Int) = 96 := congrArg Nat.cast (dk_B (n := 66) (by decide)).2
theorem K_67 {tl : Ds} : dk (dsB ++ tl) 67 = 10 := (dk_B (n := 67) (by decide)).1
theorem L_67 {tl : Ds} : (dl (dsB ++ tl) 67 : Int) = 96 := congrArg Nat.cast (dk_B (n := 67) (by decide)).2
theorem K_68 {tl : Ds} : dk (dsB ++ tl) 68 = 11 := (dk_B (n := 68) (by decide)).1
theorem L_68 {tl : Ds} : (dl (dsB ++ tl) 68 : Int) = 96 := congrArg Nat.cast (dk_B (n := 68) (by decide)).2
theorem K_69 {tl : Ds} : dk (dsB ++ tl) 69 = 11 := (dk_B (n := 69) (by decide)).1
theorem L_69 {tl : Ds} : (dl (dsB ++ tl) 69 : Int) = 96 := congrArg Nat.cast (dk_B (n := 69) (by decide)).2
theorem K_70 {tl : Ds} : dk (dsB ++ tl) 70 = 7 := (dk_B (n := 70) (by decide)).1
theorem L_70 {tl : Ds} : (dl (dsB ++ tl) 70 : Int) = 53 := congrArg Nat.cast (dk_B (n := 70) (by decide)).2
theorem K_71 {tl : Ds} : dk (dsB ++ tl) 71 = 10 := (dk_B (n := 71) (by decide)).1
theorem L_71 {tl : Ds} : (dl (dsB ++ tl) 71 : Int) = 8 := congrArg Nat.cast (dk_B (n := 71) (by decide)).2
theorem K_72 {tl : Ds} : dk (dsB ++ tl) 72 = 10 := (dk_B (n := 72) (by decide)).1
theorem L_72 {tl : Ds} : (dl (dsB ++ tl) 72 : Int) = 96 := congrArg Nat.cast (dk_B (n := 72) (by decide)).2
theorem K_73 {tl : Ds} : dk (dsB ++ tl) 73 = 10 := (dk_B (n := 73) (by decide)).1
theorem L_73 {tl : Ds} : (dl (dsB ++ tl) 73 : Int) = 96 := congrArg Nat.cast (dk_B (n := 73) (by decide)).2
theorem K_74 {tl : Ds} : dk (dsB ++ tl) 74 = 10 := (dk_B (n := 74) (by decide)).1
theorem L_74 {tl : Ds} : (dl (dsB ++ tl) 74 : Int) = 96 := congrArg Nat.cast (dk_B (n := 74) (by decide)).2
theorem K_75 {tl : Ds} : dk (dsB ++ tl) 75 = 10 := (dk_B (n := 75) (by decide)).1
theorem L_75 {tl : Ds} : (dl (dsB ++ tl) 75 : Int) = 96 := congrArg Nat.cast (dk_B (n := 75) (by decide)).2
theorem K_76 {tl : Ds} : dk (dsB ++ tl) 76 = 11 := (dk_B (n := 76) (by decide)).1
theorem L_76 {tl : Ds} : (dl (dsB ++ tl) 76 : Int) = 96 := congrArg Nat.cast (dk_B (n := 76) (by decide)).2
theorem K_77 {tl : Ds} : dk (dsB ++ tl) 77 = 10 := (dk_B (n := 77) (by decide)).1
theorem L_77 {tl : Ds} : (dl (dsB ++ tl) 77 : Int) = 4 := congrArg Nat.cast (dk_B (n := 77) (by decide)).2
theorem K_78 {tl : Ds} : dk (dsB ++ tl) 78 = 10 := (dk_B (n := 78) (by decide)).1
theorem L_78 {tl : Ds} : (dl (dsB ++ tl) 78 : Int) = 4 := congrArg Nat.cast (dk_B (n := 78) (by decide)).2
theorem K_79 {tl : Ds} : dk (dsB ++ tl) 79 = 10 := (dk_B (n := 79) (by decide)).1
theorem L_79 {tl : Ds} : (dl (dsB ++ tl) 79 : Int) = 4 := congrArg Nat.cast (dk_B (n := 79) (by decide)).2
theorem K_80 {tl : Ds} : dk (dsB ++ tl) 80 = 10 := (dk_B (n := 80) (by decide)).1
theorem L_80 {tl : Ds} : (dl (dsB ++ tl) 80 : Int) = 8 := congrArg Nat.cast (dk_B (n := 80) (by decide)).2
theorem K_81 {tl : Ds} : dk (dsB ++ tl) 81 = 10 := (dk_B (n := 81) (by decide)).1
theorem L_81 {tl : Ds} : (dl (dsB ++ tl) 81 : Int) = 8 := congrArg Nat.cast (dk_B (n := 81) (by decide)).2
theorem K_82 {tl : Ds} : dk (dsB ++ tl) 82 = 12 := (dk_B (n := 82) (by decide)).1
theorem L_82 {tl : Ds} : (dl (dsB ++ tl) 82 : Int) = 800 := congrArg Nat.cast (dk_B (n := 82) (by decide)).2
theorem K_83 {tl : Ds} : dk (dsB ++ tl) 83 = 12 := (dk_B (n := 83) (by decide)).1
theorem L_83 {tl : Ds} : (dl (dsB ++ tl) 83 : Int) = 100 := congrArg Nat.cast (dk_B (n := 83) (by decide)).2
theorem K_84 {tl : Ds} : dk (dsB ++ tl) 84 = 10 := (dk_B (n := 84) (by decide)).1
theorem L_84 {tl : Ds} : (dl (dsB ++ tl) 84 : Int) = 4320 := congrArg Nat.cast (dk_B (n := 84) (by decide)).2
theorem K_85 {tl : Ds} : dk (dsB ++ tl) 85 = 10 := (dk_B (n := 85) (by decide)).1
theorem L_85 {tl : Ds} : (dl (dsB ++ tl) 85 : Int) = 117 := congrArg Nat.cast (dk_B (n := 85) (by decide)).2
theorem K_86 {tl : Ds} : dk (dsB ++ tl) 86 = 10 := (dk_B (n := 86) (by decide)).1
theorem L_86 {tl : Ds} : (dl (dsB ++ tl) 86 : Int) = 2000 := congrArg Nat.cast (dk_B (n := 86) (by decide)).2
theorem K_87 {tl : Ds} : dk (dsB ++ tl) 87 = 10 := (dk_B (n := 87) (by decide)).1
theorem L_87 {tl : Ds} : (dl (dsB ++ tl) 87 : Int) = 2000 := congrArg Nat.cast (dk_B (n := 87) (by decide)).2
theorem K_88 {tl : Ds} : dk (dsB ++ tl) 88 = 10 := (dk_B (n := 88) (by decide)).1
theorem L_88 {tl : Ds} : (dl (dsB ++ tl) 88 : Int) = 2000 := congrArg Nat.cast (dk_B (n := 88) (by decide)).2
theorem K_89 {tl : Ds} : dk (dsB ++ tl) 89 = 11 := (dk_B (n := 89) (by decide)).1
theorem L_89 {tl : Ds} : (dl (dsB ++ tl) 89 : Int) = 2000 := congrArg Nat.cast (dk_B (n := 89) (by decide)).2
theorem K_90 {tl : Ds} : dk (dsB ++ tl) 90 = 10 := (dk_B (n := 90) (by decide)).1
theorem L_90 {tl : Ds} : (dl (dsB ++ tl) 90 : Int) = 2000 := congrArg Nat.cast (dk_B (n := 90) (by decide)).2
theorem K_91 {tl : Ds} : dk (dsB ++ tl) 91 = 10 := (dk_B (n := 91) (by decide)).1
theorem L_91 {tl : Ds} : (dl (dsB ++ tl) 91 : Int) = 520 := congrArg Nat.cast (dk_B (n := 91) (by decide)).2
theorem K_92 {tl : Ds} : dk (dsB ++ tl) 92 = 10 := (dk_B (n := 92) (by decide)).1
theorem L_92 {tl : Ds} : (dl (dsB ++ tl) 92 : Int) = 520 := congrArg Nat.cast (dk_B (n := 92) (by decide)).2
theorem K_93 {tl : Ds} : dk (dsB ++ tl) 93 = 10 := (dk_B (n := 93) (by decide)).1
theorem L_93 {tl : Ds} : (dl (dsB ++ tl) 93 : Int) = 96 := congrArg Nat.cast (dk_B (n := 93) (by decide)).2
theorem K_94 {tl : Ds} : dk (dsB ++ tl) 94 = 11 := (dk_B (n := 94) (by decide)).1
theorem L_94 {tl : Ds} : (dl (dsB ++ tl) 94 : Int) = 96 := congrArg Nat.cast (dk_B (n := 94) (by decide)).2
theorem K_95 {tl : Ds} : dk (dsB ++ tl) 95 = 10 := (dk_B (n := 95) (by decide)).1
theorem L_95 {tl : Ds} : (dl (dsB ++ tl) 95 : Int) = 96 := congrArg Nat.cast (dk_B (n := 95) (by decide)).2
theorem K_96 {tl : Ds} : dk (dsB ++ tl) 96 = 10 := (dk_B (n := 96) (by decide)).1
theorem L_96 {tl : Ds} : (dl (dsB ++ tl) 96 : Int) = 96 := congrArg Nat.cast (dk_B (n := 96) (by decide)).2
theorem K_97 {tl : Ds} : dk (dsB ++ tl) 97 = 10 := (dk_B (n := 97) (by decide)).1
theorem L_97 {tl : Ds} : (dl (dsB ++ tl) 97 : Int) = 96 := congrArg Nat.cast (dk_B (n := 97) (by decide)).2
theorem K_98 {tl : Ds} : dk (dsB ++ tl) 98 = 10 := (dk_B (n := 98) (by decide)).1
theorem L_98 {tl : Ds} : (dl (dsB ++ tl) 98 : Int) = 96 := congrArg Nat.cast (dk_B (n := 98) (by decide)).2
theorem K_99 {tl : Ds} : dk (dsB ++ tl) 99 = 10 := (dk_B (n := 99) (by decide)).1
theorem L_99 {tl : Ds} : (dl (dsB ++ tl) 99 : Int) = 96 := congrArg Nat.cast (dk_B (n := 99) (by decide)).2
theorem K_100 {tl : Ds} : dk (dsB ++ tl) 100 = 11 := (dk_B (n := 100) (by decide)).1
theorem L_100 {tl : Ds} : (dl (dsB ++ tl) 100 : Int) = 96 := congrArg Nat.cast (dk_B (n := 100) (by decide)).2
theorem K_101 {tl : Ds} : dk (dsB ++ tl) 101 = 10 := (dk_B (n := 101) (by decide)).1
theorem L_101 {tl : Ds} : (dl (dsB ++ tl) 101 : Int) = 18 := congrArg Nat.cast (dk_B (n := 101) (by decide)).2
theorem K_102 {tl : Ds} : dk (dsB ++ tl) 102 = 10 := (dk_B (n := 102) (by decide)).1
theorem L_102 {tl : Ds} : (dl (dsB ++ tl) 102 : Int) = 18000 := congrArg Nat.cast (dk_B (n := 102) (by decide)).2
theorem K_103 {tl : Ds} : dk (dsB ++ tl) 103 = 10 := (dk_B (n := 103) (by decide)).1
theorem L_103 {tl : Ds} : (dl (dsB ++ tl) 103 : Int) = 288 := congrArg Nat.cast (dk_B (n := 103) (by decide)).2
theorem K_104 {tl : Ds} : dk (dsB ++ tl) 104 = 10 := (dk_B (n := 104) (by decide)).1
theorem L_104 {tl : Ds} : (dl (dsB ++ tl) 104 : Int) = 288 := congrArg Nat.cast (dk_B (n := 104) (by decide)).2
theorem K_105 {tl : Ds} : dk (dsB ++ tl) 105 = 10 := (dk_B (n := 105) (by decide)).1
theorem L_105 {tl : Ds} : (dl (dsB ++ tl) 105 : Int) = 288 := congrArg Nat.cast (dk_B (n := 105) (by decide)).2
theorem K_106 {tl : Ds} : dk (dsB ++ tl) 106 = 10 := (dk_B (n := 106) (by decide)).1
theorem L_106 {tl : Ds} : (dl (dsB ++ tl) 106 : Int) = 288 := congrArg Nat.cast (dk_B (n := 106) (by decide)).2
theorem K_107 {tl : Ds} : dk (dsB ++ tl) 107 = 11 := (dk_B (n := 107) (by decide)).1
theorem L_107 {tl : Ds} : (dl (dsB ++ tl) 107 : Int) = 96 := congrArg Nat.cast (dk_B (n := 107) (by decide)).2
theorem K_108 {tl : Ds} : dk (dsB ++ tl) 108 = 11 := (dk_B (n := 108) (by decide)).1
theorem L_108 {tl : Ds} : (dl (dsB ++ tl) 108 : Int) = 96 := congrArg Nat.cast (dk_B (n := 108) (by decide)).2
theorem K_109 {tl : Ds} : dk (dsB ++ tl) 109 = 11 := (dk_B (n := 109) (by decide)).1
theorem L_109 {tl : Ds} : (dl (dsB ++ tl) 109 : Int) = 288 := congrArg Nat.cast (dk_B (n := 109) (by decide)).2
theorem K_110 {tl : Ds} : dk (dsB ++ tl) 110 = 10 := (dk_B (n := 110) (by decide)).1
theorem L_110 {tl : Ds} : (dl (dsB ++ tl) 110 : Int) = 384 := congrArg Nat.cast (dk_B (n := 110) (by decide)).2
theorem K_111 {tl : Ds} : dk (dsB ++ tl) 111 = 10 := (dk_B (n := 111) (by decide)).1
theorem L_111 {tl : Ds} : (dl (dsB ++ tl) 111 : Int) = 64 := congrArg Nat.cast (dk_B (n := 111) (by decide)).2
theorem K_112 {tl : Ds} : dk (dsB ++ tl) 112 = 10 := (dk_B (n := 112) (by decide)).1
theorem L_112 {tl : Ds} : (dl (dsB ++ tl) 112 : Int) = 2 := congrArg Nat.cast (dk_B (n := 112) (by decide)).2
theorem K_113 {tl : Ds} : dk (dsB ++ tl) 113 = 11 := (dk_B (n := 113) (by decide)).1
theorem L_113 {tl : Ds} : (dl (dsB ++ tl) 113 : Int) = 96 := congrArg Nat.cast (dk_B (n := 113) (by decide)).2
def SL : List (Int × Int × Int) := [(0, 0, 9), (0, 1, 18), (0, 2, 1), (0, 3, 2), (0, 4, 34), (0, 5, 52), (0, 7, 3), (0, 8, 4), (0, 10, 5), (0, 12, 6), (0, 14, 7), (0, 15, 8), (9, 0, 10), (9, 1, 11), (9, 2, 12), (9, 3, 13), (9, 4, 14), (9, 5, 15), (9, 6, 16), (9, 7, 17), (18, 0, 19), (18, 1, 20), (18, 2, 21), (18, 3, 22), (18, 4, 23), (18, 5, 24), (18, 6, 25), (18, 7, 26), (27, 0, 28), (27, 1, 29), (27, 2, 30), (27, 3, 31), (27, 4, 32), (27, 5, 33), (34, 0, 27), (34, 1, 35), (34, 2, 40), (34, 3, 47), (34, 4, 48), (34, 5, 49), (34, 6, 50), (34, 7, 51), (35, 0, 36), (35, 1, 37), (35, 2, 38), (35, 3, 39), (40, 0, 41), (40, 1, 42), (40, 2, 43), (40, 3, 44), (40, 4, 45), (40, 5, 46), (52, 0, 27), (52, 1, 53), (52, 2, 58), (52, 3, 65), (52, 4, 66), (52, 5, 67), (52, 6, 68), (52, 7, 69), (53, 0, 54), (53, 1, 55), (53, 2, 56), (53, 3, 57), (58, 0, 59), (58, 1, 60), (58, 2, 61), (58, 3, 62), (58, 4, 63), (58, 5, 64), (70, 0, 71), (70, 1, 72), (70, 2, 73), (70, 3, 74), (70, 4, 75), (70, 5, 76), (70, 7, 77), (70, 8, 78), (70, 9, 79), (70, 11, 80), (70, 12, 81), (70, 13, 82), (70, 14, 83), (70, 15, 84), (70, 16, 85), (70, 17, 86), (70, 18, 87), (70, 19, 88), (70, 20, 89), (70, 21, 90), (70, 22, 91), (70, 23, 92), (70, 27, 93), (70, 28, 94), (70, 29, 95), (70, 31, 96), (70, 32, 97), (70, 33, 98), (70, 34, 99), (70, 35, 100), (70, 36, 101), (70, 37, 102), (70, 38, 103), (70, 39, 104), (70, 40, 105), (70, 41, 106), (70, 42, 107), (70, 43, 108), (70, 44, 109), (70, 46, 110), (70, 48, 111), (70, 50, 112), (70, 52, 113)]
/-- the shape -/
def Sh (m : Mm) : Prop := ∀ q ∈ SL, m q.1 q.2.1 = q.2.2
theorem sh_0_0 {m : Mm} (S : Sh m) : m 0 0 = 9 := S (0, 0, 9) (List.mem_of_getElem? (i := 0) rfl)
theorem sh_0_1 {m : Mm} (S : Sh m) : m 0 1 = 18 := S (0, 1, 18) (List.mem_of_getElem? (i := 1) rfl)
theorem sh_0_2 {m : Mm} (S : Sh m) : m 0 2 = 1 := S (0, 2, 1) (List.mem_of_getElem? (i := 2) rfl)
theorem sh_0_3 {m : Mm} (S : Sh m) : m 0 3 = 2 := S (0, 3, 2) (List.mem_of_getElem? (i := 3) rfl)
theorem sh_0_4 {m : Mm} (S : Sh m) : m 0 4 = 34 := S (0, 4, 34) (List.mem_of_getElem? (i := 4) rfl)
theorem sh_0_5 {m : Mm} (S : Sh m) : m 0 5 = 52 := S (0, 5, 52) (List.mem_of_getElem? (i := 5) rfl)
theorem sh_0_7 {m : Mm} (S : Sh m) : m 0 7 = 3 := S (0, 7, 3) (List.mem_of_getElem? (i := 6) rfl)
theorem sh_0_8 {m : Mm} (S : Sh m) : m 0 8 = 4 := S (0, 8, 4) (List.mem_of_getElem? (i := 7) rfl)
theorem sh_0_10 {m : Mm} (S : Sh m) : m 0 10 = 5 := S (0, 10, 5) (List.mem_of_getElem? (i := 8) rfl)
theorem sh_0_12 {m : Mm} (S : Sh m) : m 0 12 = 6 := S (0, 12, 6) (List.mem_of_getElem? (i := 9) rfl)
theorem sh_0_14 {m : Mm} (S : Sh m) : m 0 14 = 7 := S (0, 14, 7) (List.mem_of_getElem? (i := 10) rfl)
theorem sh_0_15 {m : Mm} (S : Sh m) : m 0 15 = 8 := S (0, 15, 8) (List.mem_of_getElem? (i := 11) rfl)
theorem sh_9_0 {m : Mm} (S : Sh m) : m 9 0 = 10 := S (9, 0, 10) (List.mem_of_getElem? (i := 12) rfl)
theorem sh_9_1 {m : Mm} (S : Sh m) : m 9 1 = 11 := S (9, 1, 11) (List.mem_of_getElem? (i := 13) rfl)
theorem sh_9_2 {m : Mm} (S : Sh m) : m 9 2 = 12 := S (9, 2, 12) (List.mem_of_getElem? (i := 14) rfl)
theorem sh_9_3 {m : Mm} (S : Sh m) : m 9 3 = 13 := S (9, 3, 13) (List.mem_of_getElem? (i := 15) rfl)
theorem sh_9_4 {m : Mm} (S : Sh m) : m 9 4 = 14 := S (9, 4, 14) (List.mem_of_getElem? (i := 16) rfl)
theorem sh_9_5 {m : Mm} (S : Sh m) : m 9 5 = 15 := S (9, 5, 15) (List.mem_of_getElem? (i := 17) rfl)
theorem sh_9_6 {m : Mm} (S : Sh m) : m 9 6 = 16 := S (9, 6, 16) (List.mem_of_getElem? (i := 18) rfl)
theorem sh_9_7 {m : Mm} (S : Sh m) : m 9 7 = 17 := S (9, 7, 17) (List.mem_of_getElem? (i := 19) rfl)
theorem sh_18_0 {m : Mm} (S : Sh m) : m 18 0 = 19 := S (18, 0, 19) (List.mem_of_getElem? (i := 20) rfl)
theorem sh_18_1 {m : Mm} (S : Sh m) : m 18 1 = 20 := S (18, 1, 20) (List.mem_of_getElem? (i := 21) rfl)
theorem sh_18_2 {m : Mm} (S : Sh m) : m 18 2 = 21 := S (18, 2, 21) (List.mem_of_getElem? (i := 22) rfl)
theorem sh_18_3 {m : Mm} (S : Sh m) : m 18 3 = 22 := S (18, 3, 22) (List.mem_of_getElem? (i := 23) rfl)
theorem sh_18_4 {m : Mm} (S : Sh m) : m 18 4 = 23 := S (18, 4, 23) (List.mem_of_getElem? (i := 24) rfl)
theorem sh_18_5 {m : Mm} (S : Sh m) : m 18 5 = 24 := S (18, 5, 24) (List.mem_of_getElem? (i := 25) rfl)
theorem sh_18_6 {m : Mm} (S : Sh m) : m 18 6 = 25 := S (18, 6, 25) (List.mem_of_getElem? (i := 26) rfl)
theorem sh_18_7 {m : Mm} (S : Sh m) : m 18 7 = 26 := S (18, 7, 26) (List.mem_of_getElem? (i := 27) rfl)
theorem sh_27_0 {m : Mm} (S : Sh m) : m 27 0 = 28 := S (27, 0, 28) (List.mem_of_getElem? (i := 28) rfl)
theorem sh_27_1 {m : Mm} (S : Sh m) : m 27 1 = 29 := S (27, 1, 29) (List.mem_of_getElem? (i := 29) rfl)
theorem sh_27_2 {m : Mm} (S : Sh m) : m 27 2 = 30 := S (27, 2, 30) (List.mem_of_getElem? (i := 30) rfl)
theorem sh_27_3 {m : Mm} (S : Sh m) : m 27 3 = 31 := S (27, 3, 31) (List.mem_of_getElem? (i := 31) rfl)
theorem sh_27_4 {m : Mm} (S : Sh m) : m 27 4 = 32 := S (27, 4, 32) (List.mem_of_getElem? (i := 32) rfl)
theorem sh_27_5 {m : Mm} (S : Sh m) : m 27 5 = 33 := S (27, 5, 33) (List.mem_of_getElem? (i := 33) rfl)
theorem sh_34_0 {m : Mm} (S : Sh m) : m 34 0 = 27 := S (34, 0, 27) (List.mem_of_getElem? (i := 34) rfl)
theorem sh_34_1 {m : Mm} (S : Sh m) : m 34 1 = 35 := S (34, 1, 35) (List.mem_of_getElem? (i := 35) rfl)
theorem sh_34_2 {m : Mm} (S : Sh m) : m 34 2 = 40 := S (34, 2, 40) (List.mem_of_getElem? (i := 36) rfl)
theorem sh_34_3 {m : Mm} (S : Sh m) : m 34 3 = 47 := S (34, 3, 47) (List.mem_of_getElem? (i := 37) rfl)
theorem sh_34_4 {m : Mm} (S : Sh m) : m 34 4 = 48 := S (34, 4, 48) (List.mem_of_getElem? (i := 38) rfl)
theorem sh_34_5 {m : Mm} (S : Sh m) : m 34 5 = 49 := S (34, 5, 49) (List.mem_of_getElem? (i := 39) rfl)
theorem sh_34_6 {m : Mm} (S : Sh m) : m 34 6 = 50 := S (34, 6, 50) (List.mem_of_getElem? (i := 40) rfl)
theorem sh_34_7 {m : Mm} (S : Sh m) : m 34 7 = 51 := S (34, 7, 51) (List.mem_of_getElem? (i := 41) rfl)
theorem sh_35_0 {m : Mm} (S : Sh m) : m 35 0 = 36 := S (35, 0, 36) (List.mem_of_getElem? (i := 42) rfl)
theorem sh_35_1 {m : Mm} (S : Sh m) : m 35 1 = 37 := S (35, 1, 37) (List.mem_of_getElem? (i := 43) rfl)
theorem sh_35_2 {m : Mm} (S : Sh m) : m 35 2 = 38 := S (35, 2, 38) (List.mem_of_getElem? (i := 44) rfl)
theorem sh_35_3 {m : Mm} (S : Sh m) : m 35 3 = 39 := S (35, 3, 39) (List.mem_of_getElem? (i := 45) rfl)
theorem sh_40_0 {m : Mm} (S : Sh m) : m 40 0 = 41 := S (40, 0, 41) (List.mem_of_getElem? (i := 46) rfl)
theorem sh_40_1 {m : Mm} (S : Sh m) : m 40 1 = 42 := S (40, 1, 42) (List.mem_of_getElem? (i := 47) rfl)
theorem sh_40_2 {m : Mm} (S : Sh m) : m 40 2 = 43 := S (40, 2, 43) (List.mem_of_getElem? (i := 48) rfl)
theorem sh_40_3 {m : Mm} (S : Sh m) : m 40 3 = 44 := S (40, 3, 44) (List.mem_of_getElem? (i := 49) rfl)
theorem sh_40_4 {m : Mm} (S : Sh m) : m 40 4 = 45 := S (40, 4, 45) (List.mem_of_getElem? (i := 50) rfl)
theorem sh_40_5 {m : Mm} (S : Sh m) : m 40 5 = 46 := S (40, 5, 46) (List.mem_of_getElem? (i := 51) rfl)
theorem sh_52_0 {m : Mm} (S : Sh m) : m 52 0 = 27 := S (52, 0, 27) (List.mem_of_getElem? (i := 52) rfl)
theorem sh_52_1 {m : Mm} (S : Sh m) : m 52 1 = 53 := S (52, 1, 53) (List.mem_of_getElem? (i := 53) rfl)
theorem sh_52_2 {m : Mm} (S : Sh m) : m 52 2 = 58 := S (52, 2, 58) (List.mem_of_getElem? (i := 54) rfl)
theorem sh_52_3 {m : Mm} (S : Sh m) : m 52 3 = 65 := S (52, 3, 65) (List.mem_of_getElem? (i := 55) rfl)
theorem sh_52_4 {m : Mm} (S : Sh m) : m 52 4 = 66 := S (52, 4, 66) (List.mem_of_getElem? (i := 56) rfl)
theorem sh_52_5 {m : Mm} (S : Sh m) : m 52 5 = 67 := S (52, 5, 67) (List.mem_of_getElem? (i := 57) rfl)
theorem sh_52_6 {m : Mm} (S : Sh m) : m 52 6 = 68 := S (52, 6, 68) (List.mem_of_getElem? (i := 58) rfl)
theorem sh_52_7 {m : Mm} (S : Sh m) : m 52 7 = 69 := S (52, 7, 69) (List.mem_of_getElem? (i := 59) rfl)
theorem sh_53_0 {m : Mm} (S : Sh m) : m 53 0 = 54 := S (53, 0, 54) (List.mem_of_getElem? (i := 60) rfl)
theorem sh_53_1 {m : Mm} (S : Sh m) : m 53 1 = 55 := S (53, 1, 55) (List.mem_of_getElem? (i := 61) rfl)
theorem sh_53_2 {m : Mm} (S : Sh m) : m 53 2 = 56 := S (53, 2, 56) (List.mem_of_getElem? (i := 62) rfl)
theorem sh_53_3 {m : Mm} (S : Sh m) : m 53 3 = 57 := S (53, 3, 57) (List.mem_of_getElem? (i := 63) rfl)
theorem sh_58_0 {m : Mm} (S : Sh m) : m 58 0 = 59 := S (58, 0, 59) (List.mem_of_getElem? (i := 64) rfl)
theorem sh_58_1 {m : Mm} (S : Sh m) : m 58 1 = 60 := S (58, 1, 60) (List.mem_of_getElem? (i := 65) rfl)
theorem sh_58_2 {m : Mm} (S : Sh m) : m 58 2 = 61 := S (58, 2, 61) (List.mem_of_getElem? (i := 66) rfl)
theorem sh_58_3 {m : Mm} (S : Sh m) : m 58 3 = 62 := S (58, 3, 62) (List.mem_of_getElem? (i := 67) rfl)
theorem sh_58_4 {m : Mm} (S : Sh m) : m 58 4 = 63 := S (58, 4, 63) (List.mem_of_getElem? (i := 68) rfl)
theorem sh_58_5 {m : Mm} (S : Sh m) : m 58 5 = 64 := S (58, 5, 64) (List.mem_of_getElem? (i := 69) rfl)
theorem sh_70_0 {m : Mm} (S : Sh m) : m 70 0 = 71 := S (70, 0, 71) (List.mem_of_getElem? (i := 70) rfl)
theorem sh_70_1 {m : Mm} (S : Sh m) : m 70 1 = 72 := S (70, 1, 72) (List.mem_of_getElem? (i := 71) rfl)
theorem sh_70_2 {m : Mm} (S : Sh m) : m 70 2 = 73 := S (70, 2, 73) (List.mem_of_getElem? (i := 72) rfl)
theorem sh_70_3 {m : Mm} (S : Sh m) : m 70 3 = 74 := S (70, 3, 74) (List.mem_of_getElem? (i := 73) rfl)
theorem sh_70_4 {m : Mm} (S : Sh m) : m 70 4 = 75 := S (70, 4, 75) (List.mem_of_getElem? (i := 74) rfl)
theorem sh_70_5 {m : Mm} (S : Sh m) : m 70 5 = 76 := S (70, 5, 76) (List.mem_of_getElem? (i := 75) rfl)
theorem sh_70_7 {m : Mm} (S : Sh m) : m 70 7 = 77 := S (70, 7, 77) (List.mem_of_getElem? (i := 76) rfl)
theorem sh_70_8 {m : Mm} (S : Sh m) : m 70 8 = 78 := S (70, 8, 78) (List.mem_of_getElem? (i := 77) rfl)
theorem sh_70_9 {m : Mm} (S : Sh m) : m 70 9 = 79 := S (70, 9, 79) (List.mem_of_getElem? (i := 78) rfl)
theorem sh_70_11 {m : Mm} (S : Sh m) : m 70 11 = 80 := S (70, 11, 80) (List.mem_of_getElem? (i := 79) rfl)
theorem sh_70_12 {m : Mm} (S : Sh m) : m 70 12 = 81 := S (70, 12, 81) (List.mem_of_getElem? (i := 80) rfl)
theorem sh_70_13 {m : Mm} (S : Sh m) : m 70 13 = 82 := S (70, 13, 82) (List.mem_of_getElem? (i := 81) rfl)
theorem sh_70_14 {m : Mm} (S : Sh m) : m 70 14 = 83 := S (70, 14, 83) (List.mem_of_getElem? (i := 82) rfl)
theorem sh_70_15 {m : Mm} (S : Sh m) : m 70 15 = 84 := S (70, 15, 84) (List.mem_of_getElem? (i := 83) rfl)
theorem sh_70_16 {m : Mm} (S : Sh m) : m 70 16 = 85 := S (70, 16, 85) (List.mem_of_getElem? (i := 84) rfl)
theorem sh_70_17 {m : Mm} (S : Sh m) : m 70 17 = 86 := S (70, 17, 86) (List.mem_of_getElem? (i := 85) rfl)
theorem sh_70_18 {m : Mm} (S : Sh m) : m 70 18 = 87 := S (70, 18, 87) (List.mem_of_getElem? (i := 86) rfl)
theorem sh_70_19 {m : Mm} (S : Sh m) : m 70 19 = 88 := S (70, 19, 88) (List.mem_of_getElem? (i := 87) rfl)
theorem sh_70_20 {m : Mm} (S : Sh m) : m 70 20 = 89 := S (70, 20, 89) (List.mem_of_getElem? (i := 88) rfl)
theorem sh_70_21 {m : Mm} (S : Sh m) : m 70 21 = 90 := S (70, 21, 90) (List.mem_of_getElem? (i := 89) rfl)
theorem sh_70_22 {m : Mm} (S : Sh m) : m 70 22 = 91 := S (70, 22, 91) (List.mem_of_getElem? (i := 90) rfl)
theorem sh_70_23 {m : Mm} (S : Sh m) : m 70 23 = 92 := S (70, 23, 92) (List.mem_of_getElem? (i := 91) rfl)
theorem sh_70_27 {m : Mm} (S : Sh m) : m 70 27 = 93 := S (70, 27, 93) (List.mem_of_getElem? (i := 92) rfl)
theorem sh_70_28 {m : Mm} (S : Sh m) : m 70 28 = 94 := S (70, 28, 94) (List.mem_of_getElem? (i := 93) rfl)
theorem sh_70_29 {m : Mm} (S : Sh m) : m 70 29 = 95 := S (70, 29, 95) (List.mem_of_getElem? (i := 94) rfl)
theorem sh_70_31 {m : Mm} (S : Sh m) : m 70 31 = 96 := S (70, 31, 96) (List.mem_of_getElem? (i := 95) rfl)
theorem sh_70_32 {m : Mm} (S : Sh m) : m 70 32 = 97 := S (70, 32, 97) (List.mem_of_getElem? (i := 96) rfl)
theorem sh_70_33 {m : Mm} (S : Sh m) : m 70 33 = 98 := S (70, 33, 98) (List.mem_of_getElem? (i := 97) rfl)
theorem sh_70_34 {m : Mm} (S : Sh m) : m 70 34 = 99 := S (70, 34, 99) (List.mem_of_getElem? (i := 98) rfl)
theorem sh_70_35 {m : Mm} (S : Sh m) : m 70 35 = 100 := S (70, 35, 100) (List.mem_of_getElem? (i := 99) rfl)
theorem sh_70_36 {m : Mm} (S : Sh m) : m 70 36 = 101 := S (70, 36, 101) (List.mem_of_getElem? (i := 100) rfl)
theorem sh_70_37 {m : Mm} (S : Sh m) : m 70 37 = 102 := S (70, 37, 102) (List.mem_of_getElem? (i := 101) rfl)
theorem sh_70_38 {m : Mm} (S : Sh m) : m 70 38 = 103 := S (70, 38, 103) (List.mem_of_getElem? (i := 102) rfl)
theorem sh_70_39 {m : Mm} (S : Sh m) : m 70 39 = 104 := S (70, 39, 104) (List.mem_of_getElem? (i := 103) rfl)
theorem sh_70_40 {m : Mm} (S : Sh m) : m 70 40 = 105 := S (70, 40, 105) (List.mem_of_getElem? (i := 104) rfl)
theorem sh_70_41 {m : Mm} (S : Sh m) : m 70 41 = 106 := S (70, 41, 106) (List.mem_of_getElem? (i := 105) rfl)
theorem sh_70_42 {m : Mm} (S : Sh m) : m 70 42 = 107 := S (70, 42, 107) (List.mem_of_getElem? (i := 106) rfl)
theorem sh_70_43 {m : Mm} (S : Sh m) : m 70 43 = 108 := S (70, 43, 108) (List.mem_of_getElem? (i := 107) rfl)
theorem sh_70_44 {m : Mm} (S : Sh m) : m 70 44 = 109 := S (70, 44, 109) (List.mem_of_getElem? (i := 108) rfl)
theorem sh_70_46 {m : Mm} (S : Sh m) : m 70 46 = 110 := S (70, 46, 110) (List.mem_of_getElem? (i := 109) rfl)
theorem sh_70_48 {m : Mm} (S : Sh m) : m 70 48 = 111 := S (70, 48, 111) (List.mem_of_getElem? (i := 110) rfl)
theorem sh_70_50 {m : Mm} (S : Sh m) : m 70 50 = 112 := S (70, 50, 112) (List.mem_of_getElem? (i := 111) rfl)
theorem sh_70_52 {m : Mm} (S : Sh m) : m 70 52 = 113 := S (70, 52, 113) (List.mem_of_getElem? (i := 112) rfl)
