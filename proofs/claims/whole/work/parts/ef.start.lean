/-! a new object of the class and one of the reference: the two constructors, cell by cell -/
def dT (k : Nat) : Ds := dsB.take k
/-- arrays made one after another from address L on, each put into a field of the object at q -/
def mkA (q : Int) : List (Nat × Int) → Int → Mm → Mm
  | [], _, m => m
  | z :: t, L, m => mkA q t (L + 1) (up (al m L (dfl z.1)) q z.2 L)
def lF : List (Nat × Int) := [(13, 2), (14, 3), (10, 7), (10, 8), (10, 10), (10, 12), (11, 14), (11, 15)]
def lP : List (Nat × Int) := [(10, 0), (10, 1), (10, 2), (10, 3), (11, 4), (10, 5), (10, 6), (10, 7)]
def lC : List (Nat × Int) := [(10, 0), (10, 1), (10, 2), (10, 3), (10, 4), (11, 5)]
def lL : List (Nat × Int) := [(10, 0), (10, 1), (10, 2), (10, 3)]
def lBa : List (Nat × Int) := [(10, 0), (10, 1), (10, 2), (10, 3), (10, 4), (11, 5)]
def lR : List (Nat × Int) := [(10, 3), (10, 4), (10, 5), (11, 6), (11, 7)]
def lM1 : List (Nat × Int) := [(10, 0), (10, 1), (10, 2), (10, 3), (10, 4), (11, 5), (10, 7), (10, 8), (10, 9)]
def lM2 : List (Nat × Int) := [(10, 12), (12, 13), (12, 14), (10, 15), (10, 16), (10, 17), (10, 18), (10, 19), (11, 20), (10, 21), (10, 22), (10, 23), (10, 27), (11, 28), (10, 29), (10, 31), (10, 32), (10, 33), (10, 34), (11, 35), (10, 36), (10, 37), (10, 38), (10, 39), (10, 40), (10, 41), (11, 42), (11, 43), (11, 44), (10, 46), (10, 48), (10, 50), (11, 52)]
def mA (m : Mm) : Mm := mkA 0 lF 1 m
def mPl (q : Int) (m : Mm) : Mm := mkA q lP (q + 1) (al m q (dfl 3))
def mCa (m : Mm) : Mm := mkA 27 lC 28 (al m 27 (dfl 1))
def mRn (r p f : Int) (m : Mm) : Mm := up (up (up (up (mkA r lR (r + 13) (up (mkA (r + 6) lBa (r + 7) (al (mkA (r + 1) lL (r + 2) (al (al m r (dfl 5)) (r + 1) (dfl 2))) (r + 6) (dfl 0))) r 2 (r + 6))) r 8 p) r 0 27) r 1 (r + 1)) 0 f r
def mS8 (m : Mm) : Mm := up (up (up (up (up (up (up (up (up (al m 80 (dfl 10)) 80 0 (-1)) 80 1 (-1)) 80 2 (-1)) 80 3 (-1)) 80 4 (-1)) 80 5 (-1)) 80 6 (-1)) 80 7 (-1)) 70 11 80
def m0 (m : Mm) : Mm := mkA 70 lM2 81 (mS8 (mkA 70 lM1 71 (al (mRn 52 18 5 (mRn 34 9 4 (up (up (mCa (mPl 18 (mPl 9 (mA (al m 0 (dfl 6)))))) 0 0 9) 0 1 18))) 70 (dfl 7))))
theorem tk_0 : dT 0 ++ [(6, 16)] = dT 1 := by decide +kernel
theorem tk_1 : dT 1 ++ [(13, 8)] = dT 2 := by decide +kernel
theorem tk_2 : dT 2 ++ [(14, 8)] = dT 3 := by decide +kernel
theorem tk_3 : dT 3 ++ [(10, 8)] = dT 4 := by decide +kernel
theorem tk_4 : dT 4 ++ [(10, 384)] = dT 5 := by decide +kernel
theorem tk_5 : dT 5 ++ [(10, 62)] = dT 6 := by decide +kernel
theorem tk_6 : dT 6 ++ [(10, 2)] = dT 7 := by decide +kernel
theorem tk_7 : dT 7 ++ [(11, 96)] = dT 8 := by decide +kernel
theorem tk_8 : dT 8 ++ [(11, 96)] = dT 9 := by decide +kernel
theorem tk_9 : dT 9 ++ [(3, 9)] = dT 10 := by decide +kernel
theorem tk_10 : dT 10 ++ [(10, 96)] = dT 11 := by decide +kernel
theorem tk_11 : dT 11 ++ [(10, 96)] = dT 12 := by decide +kernel
theorem tk_12 : dT 12 ++ [(10, 96)] = dT 13 := by decide +kernel
theorem tk_13 : dT 13 ++ [(10, 96)] = dT 14 := by decide +kernel
theorem tk_14 : dT 14 ++ [(11, 96)] = dT 15 := by decide +kernel
theorem tk_15 : dT 15 ++ [(10, 4)] = dT 16 := by decide +kernel
theorem tk_16 : dT 16 ++ [(10, 4)] = dT 17 := by decide +kernel
theorem tk_17 : dT 17 ++ [(10, 4)] = dT 18 := by decide +kernel
theorem tk_18 : dT 18 ++ [(3, 9)] = dT 19 := by decide +kernel
theorem tk_19 : dT 19 ++ [(10, 96)] = dT 20 := by decide +kernel
theorem tk_20 : dT 20 ++ [(10, 96)] = dT 21 := by decide +kernel
theorem tk_21 : dT 21 ++ [(10, 96)] = dT 22 := by decide +kernel
theorem tk_22 : dT 22 ++ [(10, 96)] = dT 23 := by decide +kernel
theorem tk_23 : dT 23 ++ [(11, 96)] = dT 24 := by decide +kernel
theorem tk_24 : dT 24 ++ [(10, 4)] = dT 25 := by decide +kernel
theorem tk_25 : dT 25 ++ [(10, 4)] = dT 26 := by decide +kernel
theorem tk_26 : dT 26 ++ [(10, 4)] = dT 27 := by decide +kernel
theorem tk_27 : dT 27 ++ [(1, 8)] = dT 28 := by decide +kernel
theorem tk_28 : dT 28 ++ [(10, 400)] = dT 29 := by decide +kernel
theorem tk_29 : dT 29 ++ [(10, 400)] = dT 30 := by decide +kernel
theorem tk_30 : dT 30 ++ [(10, 1196)] = dT 31 := by decide +kernel
theorem tk_31 : dT 31 ++ [(10, 1196)] = dT 32 := by decide +kernel
theorem tk_32 : dT 32 ++ [(10, 1196)] = dT 33 := by decide +kernel
theorem tk_33 : dT 33 ++ [(11, 1196)] = dT 34 := by decide +kernel
theorem tk_34 : dT 34 ++ [(5, 13)] = dT 35 := by decide +kernel
theorem tk_35 : dT 35 ++ [(2, 5)] = dT 36 := by decide +kernel
theorem tk_36 : dT 36 ++ [(10, 1000)] = dT 37 := by decide +kernel
theorem tk_37 : dT 37 ++ [(10, 1000)] = dT 38 := by decide +kernel
theorem tk_38 : dT 38 ++ [(10, 1000)] = dT 39 := by decide +kernel
theorem tk_39 : dT 39 ++ [(10, 1000)] = dT 40 := by decide +kernel
theorem tk_40 : dT 40 ++ [(0, 9)] = dT 41 := by decide +kernel
theorem tk_41 : dT 41 ++ [(10, 96)] = dT 42 := by decide +kernel
theorem tk_42 : dT 42 ++ [(10, 96)] = dT 43 := by decide +kernel
theorem tk_43 : dT 43 ++ [(10, 96)] = dT 44 := by decide +kernel
theorem tk_44 : dT 44 ++ [(10, 96)] = dT 45 := by decide +kernel
theorem tk_45 : dT 45 ++ [(10, 96)] = dT 46 := by decide +kernel
theorem tk_46 : dT 46 ++ [(11, 96)] = dT 47 := by decide +kernel
theorem tk_47 : dT 47 ++ [(10, 96)] = dT 48 := by decide +kernel
theorem tk_48 : dT 48 ++ [(10, 96)] = dT 49 := by decide +kernel
theorem tk_49 : dT 49 ++ [(10, 96)] = dT 50 := by decide +kernel
theorem tk_50 : dT 50 ++ [(11, 96)] = dT 51 := by decide +kernel
theorem tk_51 : dT 51 ++ [(11, 96)] = dT 52 := by decide +kernel
theorem tk_52 : dT 52 ++ [(5, 13)] = dT 53 := by decide +kernel
theorem tk_53 : dT 53 ++ [(2, 5)] = dT 54 := by decide +kernel
theorem tk_54 : dT 54 ++ [(10, 0)] = dT 55 := by decide +kernel
theorem tk_55 : dT 55 ++ [(10, 0)] = dT 56 := by decide +kernel
theorem tk_56 : dT 56 ++ [(10, 0)] = dT 57 := by decide +kernel
theorem tk_57 : dT 57 ++ [(10, 0)] = dT 58 := by decide +kernel
theorem tk_58 : dT 58 ++ [(0, 9)] = dT 59 := by decide +kernel
theorem tk_59 : dT 59 ++ [(10, 96)] = dT 60 := by decide +kernel
theorem tk_60 : dT 60 ++ [(10, 96)] = dT 61 := by decide +kernel
theorem tk_61 : dT 61 ++ [(10, 96)] = dT 62 := by decide +kernel
theorem tk_62 : dT 62 ++ [(10, 96)] = dT 63 := by decide +kernel
theorem tk_63 : dT 63 ++ [(10, 96)] = dT 64 := by decide +kernel
theorem tk_64 : dT 64 ++ [(11, 96)] = dT 65 := by decide +kernel
theorem tk_65 : dT 65 ++ [(10, 96)] = dT 66 := by decide +kernel
theorem tk_66 : dT 66 ++ [(10, 96)] = dT 67 := by decide +kernel
theorem tk_67 : dT 67 ++ [(10, 96)] = dT 68 := by decide +kernel
theorem tk_68 : dT 68 ++ [(11, 96)] = dT 69 := by decide +kernel
theorem tk_69 : dT 69 ++ [(11, 96)] = dT 70 := by decide +kernel
theorem tk_70 : dT 70 ++ [(7, 53)] = dT 71 := by decide +kernel
theorem tk_71 : dT 71 ++ [(10, 8)] = dT 72 := by decide +kernel
theorem tk_72 : dT 72 ++ [(10, 96)] = dT 73 := by decide +kernel
theorem tk_73 : dT 73 ++ [(10, 96)] = dT 74 := by decide +kernel
theorem tk_74 : dT 74 ++ [(10, 96)] = dT 75 := by decide +kernel
theorem tk_75 : dT 75 ++ [(10, 96)] = dT 76 := by decide +kernel
theorem tk_76 : dT 76 ++ [(11, 96)] = dT 77 := by decide +kernel
theorem tk_77 : dT 77 ++ [(10, 4)] = dT 78 := by decide +kernel
theorem tk_78 : dT 78 ++ [(10, 4)] = dT 79 := by decide +kernel
theorem tk_79 : dT 79 ++ [(10, 4)] = dT 80 := by decide +kernel
theorem tk_80 : dT 80 ++ [(10, 8)] = dT 81 := by decide +kernel
theorem tk_81 : dT 81 ++ [(10, 8)] = dT 82 := by decide +kernel
theorem tk_82 : dT 82 ++ [(12, 800)] = dT 83 := by decide +kernel
theorem tk_83 : dT 83 ++ [(12, 100)] = dT 84 := by decide +kernel
theorem tk_84 : dT 84 ++ [(10, 4320)] = dT 85 := by decide +kernel
theorem tk_85 : dT 85 ++ [(10, 117)] = dT 86 := by decide +kernel
theorem tk_86 : dT 86 ++ [(10, 2000)] = dT 87 := by decide +kernel
theorem tk_87 : dT 87 ++ [(10, 2000)] = dT 88 := by decide +kernel
theorem tk_88 : dT 88 ++ [(10, 2000)] = dT 89 := by decide +kernel
theorem tk_89 : dT 89 ++ [(11, 2000)] = dT 90 := by decide +kernel
theorem tk_90 : dT 90 ++ [(10, 2000)] = dT 91 := by decide +kernel
theorem tk_91 : dT 91 ++ [(10, 520)] = dT 92 := by decide +kernel
theorem tk_92 : dT 92 ++ [(10, 520)] = dT 93 := by decide +kernel
theorem tk_93 : dT 93 ++ [(10, 96)] = dT 94 := by decide +kernel
theorem tk_94 : dT 94 ++ [(11, 96)] = dT 95 := by decide +kernel
theorem tk_95 : dT 95 ++ [(10, 96)] = dT 96 := by decide +kernel
theorem tk_96 : dT 96 ++ [(10, 96)] = dT 97 := by decide +kernel
theorem tk_97 : dT 97 ++ [(10, 96)] = dT 98 := by decide +kernel
theorem tk_98 : dT 98 ++ [(10, 96)] = dT 99 := by decide +kernel
theorem tk_99 : dT 99 ++ [(10, 96)] = dT 100 := by decide +kernel
theorem tk_100 : dT 100 ++ [(11, 96)] = dT 101 := by decide +kernel
theorem tk_101 : dT 101 ++ [(10, 18)] = dT 102 := by decide +kernel
theorem tk_102 : dT 102 ++ [(10, 18000)] = dT 103 := by decide +kernel
theorem tk_103 : dT 103 ++ [(10, 288)] = dT 104 := by decide +kernel
theorem tk_104 : dT 104 ++ [(10, 288)] = dT 105 := by decide +kernel
theorem tk_105 : dT 105 ++ [(10, 288)] = dT 106 := by decide +kernel
theorem tk_106 : dT 106 ++ [(10, 288)] = dT 107 := by decide +kernel
theorem tk_107 : dT 107 ++ [(11, 96)] = dT 108 := by decide +kernel
theorem tk_108 : dT 108 ++ [(11, 96)] = dT 109 := by decide +kernel
theorem tk_109 : dT 109 ++ [(11, 288)] = dT 110 := by decide +kernel
theorem tk_110 : dT 110 ++ [(10, 384)] = dT 111 := by decide +kernel
theorem tk_111 : dT 111 ++ [(10, 64)] = dT 112 := by decide +kernel
theorem tk_112 : dT 112 ++ [(10, 2)] = dT 113 := by decide +kernel
theorem tk_113 : dT 113 ++ [(11, 96)] = dT 114 := by decide +kernel
theorem tl_0 : ((dT 0).length : Int) = 0 := by decide +kernel
theorem tl_1 : ((dT 1).length : Int) = 1 := by decide +kernel
theorem tl_2 : ((dT 2).length : Int) = 2 := by decide +kernel
theorem tl_3 : ((dT 3).length : Int) = 3 := by decide +kernel
theorem tl_4 : ((dT 4).length : Int) = 4 := by decide +kernel
theorem tl_5 : ((dT 5).length : Int) = 5 := by decide +kernel
theorem tl_6 : ((dT 6).length : Int) = 6 := by decide +kernel
theorem tl_7 : ((dT 7).length : Int) = 7 := by decide +kernel
theorem tl_8 : ((dT 8).length : Int) = 8 := by decide +kernel
theorem tl_9 : ((dT 9).length : Int) = 9 := by decide +kernel
theorem tl_10 : ((dT 10).length : Int) = 10 := by decide +kernel
theorem tl_11 : ((dT 11).length : Int) = 11 := by decide +kernel
theorem tl_12 : ((dT 12).length : Int) = 12 := by decide +kernel
theorem tl_13 : ((dT 13).length : Int) = 13 := by decide +kernel
theorem tl_14 : ((dT 14).length : Int) = 14 := by decide +kernel
theorem tl_15 : ((dT 15).length : Int) = 15 := by decide +kernel
theorem tl_16 : ((dT 16).length : Int) = 16 := by decide +kernel
theorem tl_17 : ((dT 17).length : Int) = 17 := by decide +kernel
theorem tl_18 : ((dT 18).length : Int) = 18 := by decide +kernel
theorem tl_19 : ((dT 19).length : Int) = 19 := by decide +kernel
theorem tl_20 : ((dT 20).length : Int) = 20 := by decide +kernel
theorem tl_21 : ((dT 21).length : Int) = 21 := by decide +kernel
theorem tl_22 : ((dT 22).length : Int) = 22 := by decide +kernel
theorem tl_23 : ((dT 23).length : Int) = 23 := by decide +kernel
theorem tl_24 : ((dT 24).length : Int) = 24 := by decide +kernel
theorem tl_25 : ((dT 25).length : Int) = 25 := by decide +kernel
theorem tl_26 : ((dT 26).length : Int) = 26 := by decide +kernel
theorem tl_27 : ((dT 27).length : Int) = 27 := by decide +kernel
theorem tl_28 : ((dT 28).length : Int) = 28 := by decide +kernel
theorem tl_29 : ((dT 29).length : Int) = 29 := by decide +kernel
theorem tl_30 : ((dT 30).length : Int) = 30 := by decide +kernel
theorem tl_31 : ((dT 31).length : Int) = 31 := by decide +kernel
theorem tl_32 : ((dT 32).length : Int) = 32 := by decide +kernel
theorem tl_33 : ((dT 33).length : Int) = 33 := by decide +kernel
theorem tl_34 : ((dT 34).length : Int) = 34 := by decide +kernel
theorem tl_35 : ((dT 35).length : Int) = 35 := by decide +kernel
theorem tl_36 : ((dT 36).length : Int) = 36 := by decide +kernel
theorem tl_37 : ((dT 37).length : Int) = 37 := by decide +kernel
theorem tl_38 : ((dT 38).length : Int) = 38 := by decide +kernel
theorem tl_39 : ((dT 39).length : Int) = 39 := by decide +kernel
theorem tl_40 : ((dT 40).length : Int) = 40 := by decide +kernel
theorem tl_41 : ((dT 41).length : Int) = 41 := by decide +kernel
theorem tl_42 : ((dT 42).length : Int) = 42 := by decide +kernel
theorem tl_43 : ((dT 43).length : Int) = 43 := by decide +kernel
theorem tl_44 : ((dT 44).length : Int) = 44 := by decide +kernel
theorem tl_45 : ((dT 45).length : Int) = 45 := by decide +kernel
theorem tl_46 : ((dT 46).length : Int) = 46 := by decide +kernel
theorem tl_47 : ((dT 47).length : Int) = 47 := by decide +kernel
theorem tl_48 : ((dT 48).length : Int) = 48 := by decide +kernel
theorem tl_49 : ((dT 49).length : Int) = 49 := by decide +kernel
theorem tl_50 : ((dT 50).length : Int) = 50 := by decide +kernel
theorem tl_51 : ((dT 51).length : Int) = 51 := by decide +kernel
theorem tl_52 : ((dT 52).length : Int) = 52 := by decide +kernel
theorem tl_53 : ((dT 53).length : Int) = 53 := by decide +kernel
theorem tl_54 : ((dT 54).length : Int) = 54 := by decide +kernel
theorem tl_55 : ((dT 55).length : Int) = 55 := by decide +kernel
theorem tl_56 : ((dT 56).length : Int) = 56 := by decide +kernel
theorem tl_57 : ((dT 57).length : Int) = 57 := by decide +kernel
theorem tl_58 : ((dT 58).length : Int) = 58 := by decide +kernel
theorem tl_59 : ((dT 59).length : Int) = 59 := by decide +kernel
theorem tl_60 : ((dT 60).length : Int) = 60 := by decide +kernel
theorem tl_61 : ((dT 61).length : Int) = 61 := by decide +kernel
theorem tl_62 : ((dT 62).length : Int) = 62 := by decide +kernel
theorem tl_63 : ((dT 63).length : Int) = 63 := by decide +kernel
theorem tl_64 : ((dT 64).length : Int) = 64 := by decide +kernel
theorem tl_65 : ((dT 65).length : Int) = 65 := by decide +kernel
theorem tl_66 : ((dT 66).length : Int) = 66 := by decide +kernel
theorem tl_67 : ((dT 67).length : Int) = 67 := by decide +kernel
theorem tl_68 : ((dT 68).length : Int) = 68 := by decide +kernel
theorem tl_69 : ((dT 69).length : Int) = 69 := by decide +kernel
theorem tl_70 : ((dT 70).length : Int) = 70 := by decide +kernel
theorem tl_71 : ((dT 71).length : Int) = 71 := by decide +kernel
theorem tl_72 : ((dT 72).length : Int) = 72 := by decide +kernel
theorem tl_73 : ((dT 73).length : Int) = 73 := by decide +kernel
theorem tl_74 : ((dT 74).length : Int) = 74 := by decide +kernel
theorem tl_75 : ((dT 75).length : Int) = 75 := by decide +kernel
theorem tl_76 : ((dT 76).length : Int) = 76 := by decide +kernel
theorem tl_77 : ((dT 77).length : Int) = 77 := by decide +kernel
theorem tl_78 : ((dT 78).length : Int) = 78 := by decide +kernel
theorem tl_79 : ((dT 79).length : Int) = 79 := by decide +kernel
theorem tl_80 : ((dT 80).length : Int) = 80 := by decide +kernel
theorem tl_81 : ((dT 81).length : Int) = 81 := by decide +kernel
theorem tl_82 : ((dT 82).length : Int) = 82 := by decide +kernel
theorem tl_83 : ((dT 83).length : Int) = 83 := by decide +kernel
theorem tl_84 : ((dT 84).length : Int) = 84 := by decide +kernel
theorem tl_85 : ((dT 85).length : Int) = 85 := by decide +kernel
theorem tl_86 : ((dT 86).length : Int) = 86 := by decide +kernel
theorem tl_87 : ((dT 87).length : Int) = 87 := by decide +kernel
theorem tl_88 : ((dT 88).length : Int) = 88 := by decide +kernel
theorem tl_89 : ((dT 89).length : Int) = 89 := by decide +kernel
theorem tl_90 : ((dT 90).length : Int) = 90 := by decide +kernel
theorem tl_91 : ((dT 91).length : Int) = 91 := by decide +kernel
theorem tl_92 : ((dT 92).length : Int) = 92 := by decide +kernel
theorem tl_93 : ((dT 93).length : Int) = 93 := by decide +kernel
theorem tl_94 : ((dT 94).length : Int) = 94 := by decide +kernel
theorem tl_95 : ((dT 95).length : Int) = 95 := by decide +kernel
theorem tl_96 : ((dT 96).length : Int) = 96 := by decide +kernel
theorem tl_97 : ((dT 97).length : Int) = 97 := by decide +kernel
theorem tl_98 : ((dT 98).length : Int) = 98 := by decide +kernel
theorem tl_99 : ((dT 99).length : Int) = 99 := by decide +kernel
theorem tl_100 : ((dT 100).length : Int) = 100 := by decide +kernel
theorem tl_101 : ((dT 101).length : Int) = 101 := by decide +kernel
theorem tl_102 : ((dT 102).length : Int) = 102 := by decide +kernel
theorem tl_103 : ((dT 103).length : Int) = 103 := by decide +kernel
theorem tl_104 : ((dT 104).length : Int) = 104 := by decide +kernel
theorem tl_105 : ((dT 105).length : Int) = 105 := by decide +kernel
theorem tl_106 : ((dT 106).length : Int) = 106 := by decide +kernel
theorem tl_107 : ((dT 107).length : Int) = 107 := by decide +kernel
theorem tl_108 : ((dT 108).length : Int) = 108 := by decide +kernel
theorem tl_109 : ((dT 109).length : Int) = 109 := by decide +kernel
theorem tl_110 : ((dT 110).length : Int) = 110 := by decide +kernel
theorem tl_111 : ((dT 111).length : Int) = 111 := by decide +kernel
theorem tl_112 : ((dT 112).length : Int) = 112 := by decide +kernel
theorem tl_113 : ((dT 113).length : Int) = 113 := by decide +kernel
theorem tl_114 : ((dT 114).length : Int) = 114 := by decide +kernel
theorem td_1_0 : dk (dT 1) 0 = 6 := by decide +kernel
theorem td_2_0 : dk (dT 2) 0 = 6 := by decide +kernel
theorem td_3_0 : dk (dT 3) 0 = 6 := by decide +kernel
theorem td_4_0 : dk (dT 4) 0 = 6 := by decide +kernel
theorem td_5_0 : dk (dT 5) 0 = 6 := by decide +kernel
theorem td_6_0 : dk (dT 6) 0 = 6 := by decide +kernel
theorem td_7_0 : dk (dT 7) 0 = 6 := by decide +kernel
theorem td_8_0 : dk (dT 8) 0 = 6 := by decide +kernel
theorem td_9_0 : dk (dT 9) 0 = 6 := by decide +kernel
theorem td_10_9 : dk (dT 10) 9 = 3 := by decide +kernel
theorem td_11_9 : dk (dT 11) 9 = 3 := by decide +kernel
theorem td_12_9 : dk (dT 12) 9 = 3 := by decide +kernel
theorem td_13_9 : dk (dT 13) 9 = 3 := by decide +kernel
theorem td_14_9 : dk (dT 14) 9 = 3 := by decide +kernel
theorem td_15_9 : dk (dT 15) 9 = 3 := by decide +kernel
theorem td_16_9 : dk (dT 16) 9 = 3 := by decide +kernel
theorem td_17_9 : dk (dT 17) 9 = 3 := by decide +kernel
theorem td_18_9 : dk (dT 18) 9 = 3 := by decide +kernel
theorem td_19_18 : dk (dT 19) 18 = 3 := by decide +kernel
theorem td_20_18 : dk (dT 20) 18 = 3 := by decide +kernel
theorem td_21_18 : dk (dT 21) 18 = 3 := by decide +kernel
theorem td_22_18 : dk (dT 22) 18 = 3 := by decide +kernel
theorem td_23_18 : dk (dT 23) 18 = 3 := by decide +kernel
theorem td_24_18 : dk (dT 24) 18 = 3 := by decide +kernel
theorem td_25_18 : dk (dT 25) 18 = 3 := by decide +kernel
theorem td_26_18 : dk (dT 26) 18 = 3 := by decide +kernel
theorem td_27_0 : dk (dT 27) 0 = 6 := by decide +kernel
theorem td_27_18 : dk (dT 27) 18 = 3 := by decide +kernel
theorem td_28_27 : dk (dT 28) 27 = 1 := by decide +kernel
theorem td_29_27 : dk (dT 29) 27 = 1 := by decide +kernel
theorem td_30_27 : dk (dT 30) 27 = 1 := by decide +kernel
theorem td_31_27 : dk (dT 31) 27 = 1 := by decide +kernel
theorem td_32_27 : dk (dT 32) 27 = 1 := by decide +kernel
theorem td_33_27 : dk (dT 33) 27 = 1 := by decide +kernel
theorem td_34_0 : dk (dT 34) 0 = 6 := by decide +kernel
theorem td_34_27 : dk (dT 34) 27 = 1 := by decide +kernel
theorem td_35_34 : dk (dT 35) 34 = 5 := by decide +kernel
theorem td_36_34 : dk (dT 36) 34 = 5 := by decide +kernel
theorem td_36_35 : dk (dT 36) 35 = 2 := by decide +kernel
theorem td_37_34 : dk (dT 37) 34 = 5 := by decide +kernel
theorem td_37_35 : dk (dT 37) 35 = 2 := by decide +kernel
theorem td_38_34 : dk (dT 38) 34 = 5 := by decide +kernel
theorem td_38_35 : dk (dT 38) 35 = 2 := by decide +kernel
theorem td_39_34 : dk (dT 39) 34 = 5 := by decide +kernel
theorem td_39_35 : dk (dT 39) 35 = 2 := by decide +kernel
theorem td_40_34 : dk (dT 40) 34 = 5 := by decide +kernel
theorem td_40_35 : dk (dT 40) 35 = 2 := by decide +kernel
theorem td_41_34 : dk (dT 41) 34 = 5 := by decide +kernel
theorem td_41_40 : dk (dT 41) 40 = 0 := by decide +kernel
theorem td_42_34 : dk (dT 42) 34 = 5 := by decide +kernel
theorem td_42_40 : dk (dT 42) 40 = 0 := by decide +kernel
theorem td_43_34 : dk (dT 43) 34 = 5 := by decide +kernel
theorem td_43_40 : dk (dT 43) 40 = 0 := by decide +kernel
theorem td_44_34 : dk (dT 44) 34 = 5 := by decide +kernel
theorem td_44_40 : dk (dT 44) 40 = 0 := by decide +kernel
theorem td_45_34 : dk (dT 45) 34 = 5 := by decide +kernel
theorem td_45_40 : dk (dT 45) 40 = 0 := by decide +kernel
theorem td_46_34 : dk (dT 46) 34 = 5 := by decide +kernel
theorem td_46_40 : dk (dT 46) 40 = 0 := by decide +kernel
theorem td_47_34 : dk (dT 47) 34 = 5 := by decide +kernel
theorem td_47_40 : dk (dT 47) 40 = 0 := by decide +kernel
theorem td_48_34 : dk (dT 48) 34 = 5 := by decide +kernel
theorem td_49_34 : dk (dT 49) 34 = 5 := by decide +kernel
theorem td_50_34 : dk (dT 50) 34 = 5 := by decide +kernel
theorem td_51_34 : dk (dT 51) 34 = 5 := by decide +kernel
theorem td_52_0 : dk (dT 52) 0 = 6 := by decide +kernel
theorem td_52_34 : dk (dT 52) 34 = 5 := by decide +kernel
theorem td_53_52 : dk (dT 53) 52 = 5 := by decide +kernel
theorem td_54_52 : dk (dT 54) 52 = 5 := by decide +kernel
theorem td_54_53 : dk (dT 54) 53 = 2 := by decide +kernel
theorem td_55_52 : dk (dT 55) 52 = 5 := by decide +kernel
theorem td_55_53 : dk (dT 55) 53 = 2 := by decide +kernel
theorem td_56_52 : dk (dT 56) 52 = 5 := by decide +kernel
theorem td_56_53 : dk (dT 56) 53 = 2 := by decide +kernel
theorem td_57_52 : dk (dT 57) 52 = 5 := by decide +kernel
theorem td_57_53 : dk (dT 57) 53 = 2 := by decide +kernel
theorem td_58_52 : dk (dT 58) 52 = 5 := by decide +kernel
theorem td_58_53 : dk (dT 58) 53 = 2 := by decide +kernel
theorem td_59_52 : dk (dT 59) 52 = 5 := by decide +kernel
theorem td_59_58 : dk (dT 59) 58 = 0 := by decide +kernel
theorem td_60_52 : dk (dT 60) 52 = 5 := by decide +kernel
theorem td_60_58 : dk (dT 60) 58 = 0 := by decide +kernel
theorem td_61_52 : dk (dT 61) 52 = 5 := by decide +kernel
theorem td_61_58 : dk (dT 61) 58 = 0 := by decide +kernel
theorem td_62_52 : dk (dT 62) 52 = 5 := by decide +kernel
theorem td_62_58 : dk (dT 62) 58 = 0 := by decide +kernel
theorem td_63_52 : dk (dT 63) 52 = 5 := by decide +kernel
theorem td_63_58 : dk (dT 63) 58 = 0 := by decide +kernel
theorem td_64_52 : dk (dT 64) 52 = 5 := by decide +kernel
theorem td_64_58 : dk (dT 64) 58 = 0 := by decide +kernel
theorem td_65_52 : dk (dT 65) 52 = 5 := by decide +kernel
theorem td_65_58 : dk (dT 65) 58 = 0 := by decide +kernel
theorem td_66_52 : dk (dT 66) 52 = 5 := by decide +kernel
theorem td_67_52 : dk (dT 67) 52 = 5 := by decide +kernel
theorem td_68_52 : dk (dT 68) 52 = 5 := by decide +kernel
theorem td_69_52 : dk (dT 69) 52 = 5 := by decide +kernel
theorem td_70_0 : dk (dT 70) 0 = 6 := by decide +kernel
theorem td_70_52 : dk (dT 70) 52 = 5 := by decide +kernel
theorem td_71_70 : dk (dT 71) 70 = 7 := by decide +kernel
theorem td_72_70 : dk (dT 72) 70 = 7 := by decide +kernel
theorem td_73_70 : dk (dT 73) 70 = 7 := by decide +kernel
theorem td_74_70 : dk (dT 74) 70 = 7 := by decide +kernel
theorem td_75_70 : dk (dT 75) 70 = 7 := by decide +kernel
theorem td_76_70 : dk (dT 76) 70 = 7 := by decide +kernel
theorem td_77_70 : dk (dT 77) 70 = 7 := by decide +kernel
theorem td_78_70 : dk (dT 78) 70 = 7 := by decide +kernel
theorem td_79_70 : dk (dT 79) 70 = 7 := by decide +kernel
theorem td_80_70 : dk (dT 80) 70 = 7 := by decide +kernel
theorem td_81_70 : dk (dT 81) 70 = 7 := by decide +kernel
theorem td_81_80 : dk (dT 81) 80 = 10 := by decide +kernel
theorem td_82_70 : dk (dT 82) 70 = 7 := by decide +kernel
theorem td_83_70 : dk (dT 83) 70 = 7 := by decide +kernel
theorem td_84_70 : dk (dT 84) 70 = 7 := by decide +kernel
theorem td_85_70 : dk (dT 85) 70 = 7 := by decide +kernel
theorem td_86_70 : dk (dT 86) 70 = 7 := by decide +kernel
theorem td_87_70 : dk (dT 87) 70 = 7 := by decide +kernel
theorem td_88_70 : dk (dT 88) 70 = 7 := by decide +kernel
theorem td_89_70 : dk (dT 89) 70 = 7 := by decide +kernel
theorem td_90_70 : dk (dT 90) 70 = 7 := by decide +kernel
theorem td_91_70 : dk (dT 91) 70 = 7 := by decide +kernel
theorem td_92_70 : dk (dT 92) 70 = 7 := by decide +kernel
theorem td_93_70 : dk (dT 93) 70 = 7 := by decide +kernel
theorem td_94_70 : dk (dT 94) 70 = 7 := by decide +kernel
theorem td_95_70 : dk (dT 95) 70 = 7 := by decide +kernel
theorem td_96_70 : dk (dT 96) 70 = 7 := by decide +kernel
theorem td_97_70 : dk (dT 97) 70 = 7 := by decide +kernel
theorem td_98_70 : dk (dT 98) 70 = 7 := by decide +kernel
theorem td_99_70 : dk (dT 99) 70 = 7 := by decide +kernel
theorem td_100_70 : dk (dT 100) 70 = 7 := by decide +kernel
theorem td_101_70 : dk (dT 101) 70 = 7 := by decide +kernel
theorem td_102_70 : dk (dT 102) 70 = 7 := by decide +kernel
theorem td_103_70 : dk (dT 103) 70 = 7 := by decide +kernel
theorem td_104_70 : dk (dT 104) 70 = 7 := by decide +kernel
theorem td_105_70 : dk (dT 105) 70 = 7 := by decide +kernel
theorem td_106_70 : dk (dT 106) 70 = 7 := by decide +kernel
theorem td_107_70 : dk (dT 107) 70 = 7 := by decide +kernel
theorem td_108_70 : dk (dT 108) 70 = 7 := by decide +kernel
theorem td_109_70 : dk (dT 109) 70 = 7 := by decide +kernel
theorem td_110_70 : dk (dT 110) 70 = 7 := by decide +kernel
theorem td_111_70 : dk (dT 111) 70 = 7 := by decide +kernel
theorem td_112_70 : dk (dT 112) 70 = 7 := by decide +kernel
theorem td_113_70 : dk (dT 113) 70 = 7 := by decide +kernel
theorem td_114_70 : dk (dT 114) 70 = 7 := by decide +kernel
theorem te_81 : (dl (dT 81) 80 : Int) = 8 := by decide +kernel
theorem n_0 : (0 : Int).toNat = 0 := rfl
theorem n_2 : (2 : Int).toNat = 2 := rfl
theorem n_8 : (8 : Int).toNat = 8 := rfl
theorem n_18 : (18 : Int).toNat = 18 := rfl
theorem n_62 : (62 : Int).toNat = 62 := rfl
theorem n_64 : (64 : Int).toNat = 64 := rfl
theorem n_100 : (100 : Int).toNat = 100 := rfl
theorem n_117 : (117 : Int).toNat = 117 := rfl
theorem n_288 : (288 : Int).toNat = 288 := rfl
theorem n_384 : (384 : Int).toNat = 384 := rfl
theorem n_400 : (400 : Int).toNat = 400 := rfl
theorem n_520 : (520 : Int).toNat = 520 := rfl
theorem n_800 : (800 : Int).toNat = 800 := rfl
theorem n_1000 : (1000 : Int).toNat = 1000 := rfl
theorem n_1196 : (1196 : Int).toNat = 1196 := rfl
theorem n_2000 : (2000 : Int).toNat = 2000 := rfl
theorem n_4320 : (4320 : Int).toNat = 4320 := rfl
theorem n_18000 : (18000 : Int).toNat = 18000 := rfl
section START
variable {m : Mm} {Q : Ds → Mm → List MV → Prop} {q1 q2 q3 : MV} {a b : Int}
theorem s65a : WP 65 0 [(2, 0), q1, q2, q3] [] (dT 1) m Q = WP 65 70 [(2, 0), q1, q2, q3] [] (dT 9) (mA m) Q := by
  simp only [mA, lF, mkA, p65_0, p65_1, p65_4, p65_5, p65_7, p65_10, p65_13, p65_14, p65_16, p65_19, p65_22, p65_23, p65_25, p65_27, p65_30, p65_31, p65_34, p65_36, p65_39, p65_40, p65_42, p65_44, p65_47, p65_48, p65_49, p65_51, p65_54, p65_55, p65_57, p65_59, p65_62, p65_63, p65_65, p65_67, tk_1, tk_2, tk_3, tk_4, tk_5, tk_6, tk_7, tk_8, tl_1, tl_2, tl_3, tl_4, tl_5, tl_6, tl_7, tl_8, tl_9, td_2_0, td_3_0, td_4_0, td_5_0, td_6_0, td_7_0, td_8_0, td_9_0, n_0, n_2, n_4, n_8, n_18, n_62, n_64, n_96, n_100, n_117, n_288, n_384, n_400, n_520, n_800, n_1000, n_1196, n_2000, n_4320, n_18000, td_1_0, n_m0, b2_T, b2_F, Int.reduceEq, Int.reduceLT, Int.reduceLE, Int.reduceAdd, Int.reduceSub, Int.reduceMul, Int.reduceNeg, reduceIte, if_true, if_false, true_or, or_true, false_or, or_false, false_and, and_false, eq_self, not_false_eq_true, not_true_eq_false, true_and, and_true, List.cons_append, List.nil_append, List.append_nil, b2_0, b2_1, b2_01, Classical.not_not]
theorem s65b : WP 65 70 [(2, 0), q1, q2, q3] [] (dT 9) m Q = WP 65 78 [(2, 0), (2, 9), q2, q3] [] (dT 18) (mPl 9 m) Q := by
  simp only [mPl, lP, mkA, p65_70, p65_73, p65_74, p65_77, p22_0, p22_1, p22_4, p22_5, p22_7, p22_9, p22_12, p22_13, p22_15, p22_17, p22_20, p22_21, p22_23, p22_25, p22_28, p22_29, p22_31, p22_33, p22_36, p22_37, p22_39, p22_41, p22_44, p22_45, p22_46, p22_48, p22_51, p22_52, p22_53, p22_55, p22_58, p22_59, p22_60, p22_62, p22_65, tk_9, tk_10, tk_11, tk_12, tk_13, tk_14, tk_15, tk_16, tk_17, tl_9, tl_10, tl_11, tl_12, tl_13, tl_14, tl_15, tl_16, tl_17, tl_18, td_10_9, td_11_9, td_12_9, td_13_9, td_14_9, td_15_9, td_16_9, td_17_9, td_18_9, n_0, n_2, n_4, n_8, n_18, n_62, n_64, n_96, n_100, n_117, n_288, n_384, n_400, n_520, n_800, n_1000, n_1196, n_2000, n_4320, n_18000, n_m0, b2_T, b2_F, Int.reduceEq, Int.reduceLT, Int.reduceLE, Int.reduceAdd, Int.reduceSub, Int.reduceMul, Int.reduceNeg, reduceIte, if_true, if_false, true_or, or_true, false_or, or_false, false_and, and_false, eq_self, not_false_eq_true, not_true_eq_false, true_and, and_true, List.cons_append, List.nil_append, List.append_nil, b2_0, b2_1, b2_01, Classical.not_not]
theorem s65c : WP 65 78 [(2, 0), (2, a), q2, q3] [] (dT 18) m Q = WP 65 86 [(2, 0), (2, a), (2, 18), q3] [] (dT 27) (mPl 18 m) Q := by
  simp only [mPl, lP, mkA, p65_78, p65_81, p65_82, p65_85, p22_0, p22_1, p22_4, p22_5, p22_7, p22_9, p22_12, p22_13, p22_15, p22_17, p22_20, p22_21, p22_23, p22_25, p22_28, p22_29, p22_31, p22_33, p22_36, p22_37, p22_39, p22_41, p22_44, p22_45, p22_46, p22_48, p22_51, p22_52, p22_53, p22_55, p22_58, p22_59, p22_60, p22_62, p22_65, tk_18, tk_19, tk_20, tk_21, tk_22, tk_23, tk_24, tk_25, tk_26, tl_18, tl_19, tl_20, tl_21, tl_22, tl_23, tl_24, tl_25, tl_26, tl_27, td_19_18, td_20_18, td_21_18, td_22_18, td_23_18, td_24_18, td_25_18, td_26_18, td_27_18, n_0, n_2, n_4, n_8, n_18, n_62, n_64, n_96, n_100, n_117, n_288, n_384, n_400, n_520, n_800, n_1000, n_1196, n_2000, n_4320, n_18000, n_m0, b2_T, b2_F, Int.reduceEq, Int.reduceLT, Int.reduceLE, Int.reduceAdd, Int.reduceSub, Int.reduceMul, Int.reduceNeg, reduceIte, if_true, if_false, true_or, or_true, false_or, or_false, false_and, and_false, eq_self, not_false_eq_true, not_true_eq_false, true_and, and_true, List.cons_append, List.nil_append, List.append_nil, b2_0, b2_1, b2_01, Classical.not_not]
theorem s65d : WP 65 86 [(2, 0), (2, a), (2, b), q3] [] (dT 27) m Q = WP 65 94 [(2, 0), (2, a), (2, b), (2, 27)] [] (dT 34) (mCa m) Q := by
  simp only [mCa, lC, mkA, p65_86, p65_89, p65_90, p65_93, p10_0, p10_1, p10_4, p10_5, p10_8, p10_10, p10_13, p10_14, p10_17, p10_19, p10_22, p10_23, p10_26, p10_28, p10_31, p10_32, p10_35, p10_37, p10_40, p10_41, p10_44, p10_46, p10_49, p10_50, p10_53, p10_55, p10_58, tk_27, tk_28, tk_29, tk_30, tk_31, tk_32, tk_33, tl_27, tl_28, tl_29, tl_30, tl_31, tl_32, tl_33, tl_34, td_28_27, td_29_27, td_30_27, td_31_27, td_32_27, td_33_27, td_34_27, n_0, n_2, n_4, n_8, n_18, n_62, n_64, n_96, n_100, n_117, n_288, n_384, n_400, n_520, n_800, n_1000, n_1196, n_2000, n_4320, n_18000, n_m0, b2_T, b2_F, Int.reduceEq, Int.reduceLT, Int.reduceLE, Int.reduceAdd, Int.reduceSub, Int.reduceMul, Int.reduceNeg, reduceIte, if_true, if_false, true_or, or_true, false_or, or_false, false_and, and_false, eq_self, not_false_eq_true, not_true_eq_false, true_and, and_true, List.cons_append, List.nil_append, List.append_nil, b2_0, b2_1, b2_01, Classical.not_not]
theorem s65e : WP 65 94 [(2, 0), (2, a), (2, b), q3] [] (dT 34) m Q = WP 65 104 [(2, 0), (2, a), (2, b), q3] [] (dT 34) (up (up m 0 0 a) 0 1 b) Q := by
  simp only [p65_94, p65_95, p65_96, p65_99, p65_100, p65_101, td_34_0, b2_T, b2_F, Int.reduceEq, Int.reduceLT, Int.reduceLE, Int.reduceAdd, Int.reduceSub, Int.reduceMul, Int.reduceNeg, reduceIte, if_true, if_false, true_or, or_true, false_or, or_false, false_and, and_false, eq_self, not_false_eq_true, not_true_eq_false, true_and, and_true, List.cons_append, List.nil_append, List.append_nil, b2_0, b2_1, b2_01, Classical.not_not]
theorem s65f : WP 65 104 [(2, 0), (2, 9), (2, 18), (2, 27)] [] (dT 34) m Q = WP 65 127 [(2, 0), (2, 9), (2, 18), (2, 27)] [] (dT 52) (mRn 34 9 4 m) Q := by
  simp only [mRn, lR, lBa, lL, mkA, p65_104, p65_105, p65_108, p65_109, p65_110, p65_111, p65_114, p65_115, p65_118, p65_121, p65_124, p15_0, p15_1, p15_4, p15_5, p15_8, p15_9, p15_12, p15_13, p15_14, p15_15, p15_16, p15_18, p15_21, p15_22, p15_23, p15_25, p15_28, p15_29, p15_30, p15_32, p15_35, p15_36, p15_37, p15_39, p15_42, p50_0, p50_1, p50_4, p50_5, p50_8, p50_9, p50_12, p50_15, p50_16, p50_18, p50_20, p50_23, p50_24, p50_26, p50_28, p50_31, p50_32, p50_34, p50_36, p50_39, p50_40, p50_42, p50_44, p50_47, p50_48, p50_50, p50_52, p50_55, p50_56, p50_57, p50_60, p50_61, p50_62, p50_65, p50_66, p50_67, p50_70, p0_0, p0_1, p0_4, p0_5, p0_7, p0_9, p0_12, p0_13, p0_15, p0_17, p0_20, p0_21, p0_23, p0_25, p0_28, p0_29, p0_31, p0_33, p0_36, p0_37, p0_39, p0_41, p0_44, p0_45, p0_47, p0_49, p0_52, tk_34, tk_35, tk_36, tk_37, tk_38, tk_39, tk_40, tk_41, tk_42, tk_43, tk_44, tk_45, tk_46, tk_47, tk_48, tk_49, tk_50, tk_51, tl_34, tl_35, tl_36, tl_37, tl_38, tl_39, tl_40, tl_41, tl_42, tl_43, tl_44, tl_45, tl_46, tl_47, tl_48, tl_49, tl_50, tl_51, tl_52, td_35_34, td_36_34, td_36_35, td_37_34, td_37_35, td_38_34, td_38_35, td_39_34, td_39_35, td_40_34, td_40_35, td_41_34, td_41_40, td_42_34, td_42_40, td_43_34, td_43_40, td_44_34, td_44_40, td_45_34, td_45_40, td_46_34, td_46_40, td_47_34, td_47_40, td_48_34, td_49_34, td_50_34, td_51_34, td_52_34, td_52_0, n_0, n_2, n_4, n_8, n_18, n_62, n_64, n_96, n_100, n_117, n_288, n_384, n_400, n_520, n_800, n_1000, n_1196, n_2000, n_4320, n_18000, n_m0, b2_T, b2_F, Int.reduceEq, Int.reduceLT, Int.reduceLE, Int.reduceAdd, Int.reduceSub, Int.reduceMul, Int.reduceNeg, reduceIte, if_true, if_false, true_or, or_true, false_or, or_false, false_and, and_false, eq_self, not_false_eq_true, not_true_eq_false, true_and, and_true, List.cons_append, List.nil_append, List.append_nil, b2_0, b2_1, b2_01, Classical.not_not]
theorem s65g : WP 65 127 [(2, 0), (2, 9), (2, 18), (2, 27)] [] (dT 52) m Q = Q (dT 70) (mRn 52 18 5 m) [] := by
  simp only [mRn, lR, lBa, lL, mkA, p65_127, p65_128, p65_131, p65_132, p65_133, p65_134, p65_137, p65_138, p65_139, p65_142, p65_145, p65_148, p15_0, p15_1, p15_4, p15_5, p15_8, p15_9, p15_12, p15_13, p15_14, p15_15, p15_16, p15_18, p15_21, p15_22, p15_23, p15_25, p15_28, p15_29, p15_30, p15_32, p15_35, p15_36, p15_37, p15_39, p15_42, p50_0, p50_1, p50_4, p50_5, p50_8, p50_9, p50_12, p50_15, p50_16, p50_18, p50_20, p50_23, p50_24, p50_26, p50_28, p50_31, p50_32, p50_34, p50_36, p50_39, p50_40, p50_42, p50_44, p50_47, p50_48, p50_50, p50_52, p50_55, p50_56, p50_57, p50_60, p50_61, p50_62, p50_65, p50_66, p50_67, p50_70, p0_0, p0_1, p0_4, p0_5, p0_7, p0_9, p0_12, p0_13, p0_15, p0_17, p0_20, p0_21, p0_23, p0_25, p0_28, p0_29, p0_31, p0_33, p0_36, p0_37, p0_39, p0_41, p0_44, p0_45, p0_47, p0_49, p0_52, tk_52, tk_53, tk_54, tk_55, tk_56, tk_57, tk_58, tk_59, tk_60, tk_61, tk_62, tk_63, tk_64, tk_65, tk_66, tk_67, tk_68, tk_69, tl_52, tl_53, tl_54, tl_55, tl_56, tl_57, tl_58, tl_59, tl_60, tl_61, tl_62, tl_63, tl_64, tl_65, tl_66, tl_67, tl_68, tl_69, tl_70, td_53_52, td_54_52, td_54_53, td_55_52, td_55_53, td_56_52, td_56_53, td_57_52, td_57_53, td_58_52, td_58_53, td_59_52, td_59_58, td_60_52, td_60_58, td_61_52, td_61_58, td_62_52, td_62_58, td_63_52, td_63_58, td_64_52, td_64_58, td_65_52, td_65_58, td_66_52, td_67_52, td_68_52, td_69_52, td_70_52, td_70_0, n_0, n_2, n_4, n_8, n_18, n_62, n_64, n_96, n_100, n_117, n_288, n_384, n_400, n_520, n_800, n_1000, n_1196, n_2000, n_4320, n_18000, n_m0, b2_T, b2_F, Int.reduceEq, Int.reduceLT, Int.reduceLE, Int.reduceAdd, Int.reduceSub, Int.reduceMul, Int.reduceNeg, reduceIte, if_true, if_false, true_or, or_true, false_or, or_false, false_and, and_false, eq_self, not_false_eq_true, not_true_eq_false, true_and, and_true, List.cons_append, List.nil_append, List.append_nil, b2_0, b2_1, b2_01, Classical.not_not]
theorem s65 : WP 65 0 [(2, 0), (3, 0), (3, 0), (3, 0)] [] (dT 1) m Q = Q (dT 70) (mRn 52 18 5 (mRn 34 9 4 (up (up (mCa (mPl 18 (mPl 9 (mA m)))) 0 0 9) 0 1 18))) [] := by
  rw [s65a, s65b, s65c, s65d, s65e, s65f, s65g]
theorem s119a : WP 119 0 [(2, 70)] [] (dT 71) m Q = WP 119 73 [(2, 70)] [] (dT 80) (mkA 70 lM1 71 m) Q := by
  simp only [lM1, mkA, p119_0, p119_1, p119_4, p119_5, p119_7, p119_9, p119_12, p119_13, p119_15, p119_17, p119_20, p119_21, p119_23, p119_25, p119_28, p119_29, p119_31, p119_33, p119_36, p119_37, p119_39, p119_41, p119_44, p119_45, p119_47, p119_49, p119_52, p119_53, p119_54, p119_56, p119_59, p119_60, p119_61, p119_63, p119_66, p119_67, p119_68, p119_70, tk_71, tk_72, tk_73, tk_74, tk_75, tk_76, tk_77, tk_78, tk_79, tl_71, tl_72, tl_73, tl_74, tl_75, tl_76, tl_77, tl_78, tl_79, tl_80, td_72_70, td_73_70, td_74_70, td_75_70, td_76_70, td_77_70, td_78_70, td_79_70, td_80_70, td_71_70, n_0, n_2, n_4, n_8, n_18, n_62, n_64, n_96, n_100, n_117, n_288, n_384, n_400, n_520, n_800, n_1000, n_1196, n_2000, n_4320, n_18000, n_m0, b2_T, b2_F, Int.reduceEq, Int.reduceLT, Int.reduceLE, Int.reduceAdd, Int.reduceSub, Int.reduceMul, Int.reduceNeg, reduceIte, if_true, if_false, true_or, or_true, false_or, or_false, false_and, and_false, eq_self, not_false_eq_true, not_true_eq_false, true_and, and_true, List.cons_append, List.nil_append, List.append_nil, b2_0, b2_1, b2_01, Classical.not_not]
theorem s119b : WP 119 73 [(2, 70)] [] (dT 80) m Q = WP 119 115 [(2, 70)] [] (dT 81) (mS8 m) Q := by
  simp only [mS8, p119_73, p119_74, p119_76, p119_78, p119_79, p119_80, p119_81, p119_82, p119_83, p119_84, p119_85, p119_86, p119_87, p119_88, p119_89, p119_90, p119_91, p119_92, p119_93, p119_94, p119_95, p119_96, p119_97, p119_98, p119_99, p119_100, p119_101, p119_102, p119_103, p119_105, p119_106, p119_107, p119_108, p119_110, p119_111, p119_112, tk_80, tl_80, td_80_70, td_81_70, td_81_80, te_81, n_8, b2_T, b2_F, Int.reduceEq, Int.reduceLT, Int.reduceLE, Int.reduceAdd, Int.reduceSub, Int.reduceMul, Int.reduceNeg, reduceIte, if_true, if_false, true_or, or_true, false_or, or_false, false_and, and_false, eq_self, not_false_eq_true, not_true_eq_false, true_and, and_true, List.cons_append, List.nil_append, List.append_nil, b2_0, b2_1, b2_01, Classical.not_not]
theorem s119c : WP 119 115 [(2, 70)] [] (dT 81) m Q = Q (dT 114) (mkA 70 lM2 81 m) [] := by
  simp only [lM2, mkA, p119_115, p119_116, p119_118, p119_120, p119_123, p119_124, p119_127, p119_129, p119_132, p119_133, p119_135, p119_137, p119_140, p119_141, p119_144, p119_146, p119_149, p119_150, p119_152, p119_154, p119_157, p119_158, p119_161, p119_163, p119_166, p119_167, p119_170, p119_172, p119_175, p119_176, p119_179, p119_181, p119_184, p119_185, p119_188, p119_190, p119_193, p119_194, p119_197, p119_199, p119_202, p119_203, p119_206, p119_208, p119_211, p119_212, p119_215, p119_217, p119_220, p119_221, p119_223, p119_225, p119_228, p119_229, p119_231, p119_233, p119_236, p119_237, p119_239, p119_241, p119_244, p119_245, p119_247, p119_249, p119_252, p119_253, p119_255, p119_257, p119_260, p119_261, p119_263, p119_265, p119_268, p119_269, p119_271, p119_273, p119_276, p119_277, p119_279, p119_281, p119_284, p119_285, p119_287, p119_289, p119_292, p119_293, p119_296, p119_298, p119_301, p119_302, p119_305, p119_307, p119_310, p119_311, p119_314, p119_316, p119_319, p119_320, p119_323, p119_325, p119_328, p119_329, p119_332, p119_334, p119_337, p119_338, p119_340, p119_342, p119_345, p119_346, p119_348, p119_350, p119_353, p119_354, p119_357, p119_359, p119_362, p119_363, p119_366, p119_368, p119_371, p119_372, p119_374, p119_376, p119_379, p119_380, p119_381, p119_383, p119_386, p119_387, p119_389, p119_391, p119_394, tk_81, tk_82, tk_83, tk_84, tk_85, tk_86, tk_87, tk_88, tk_89, tk_90, tk_91, tk_92, tk_93, tk_94, tk_95, tk_96, tk_97, tk_98, tk_99, tk_100, tk_101, tk_102, tk_103, tk_104, tk_105, tk_106, tk_107, tk_108, tk_109, tk_110, tk_111, tk_112, tk_113, tl_81, tl_82, tl_83, tl_84, tl_85, tl_86, tl_87, tl_88, tl_89, tl_90, tl_91, tl_92, tl_93, tl_94, tl_95, tl_96, tl_97, tl_98, tl_99, tl_100, tl_101, tl_102, tl_103, tl_104, tl_105, tl_106, tl_107, tl_108, tl_109, tl_110, tl_111, tl_112, tl_113, tl_114, td_82_70, td_83_70, td_84_70, td_85_70, td_86_70, td_87_70, td_88_70, td_89_70, td_90_70, td_91_70, td_92_70, td_93_70, td_94_70, td_95_70, td_96_70, td_97_70, td_98_70, td_99_70, td_100_70, td_101_70, td_102_70, td_103_70, td_104_70, td_105_70, td_106_70, td_107_70, td_108_70, td_109_70, td_110_70, td_111_70, td_112_70, td_113_70, td_114_70, td_81_70, n_0, n_2, n_4, n_8, n_18, n_62, n_64, n_96, n_100, n_117, n_288, n_384, n_400, n_520, n_800, n_1000, n_1196, n_2000, n_4320, n_18000, n_m0, b2_T, b2_F, Int.reduceEq, Int.reduceLT, Int.reduceLE, Int.reduceAdd, Int.reduceSub, Int.reduceMul, Int.reduceNeg, reduceIte, if_true, if_false, true_or, or_true, false_or, or_false, false_and, and_false, eq_self, not_false_eq_true, not_true_eq_false, true_and, and_true, List.cons_append, List.nil_append, List.append_nil, b2_0, b2_1, b2_01, Classical.not_not]
theorem s119 : WP 119 0 [(2, 70)] [] (dT 71) m Q = Q (dT 114) (mkA 70 lM2 81 (mS8 (mkA 70 lM1 71 m))) [] := by
  rw [s119a, s119b, s119c]
theorem dT_0 : ([] : Ds) = dT 0 := rfl
theorem dT_e : dT 114 = dsB := by decide +kernel
theorem s191 : WP 191 0 [(4, 0), (3, 0), (3, 0), (3, 0)] [] [] m Q = WP 191 16 [(4, 0), (2, 0), (2, 70), (3, 0)] [] dsB (m0 m) Q := by
  rw [dT_0]
  simp only [m0, p191_0, p191_3, p191_4, p191_7, p191_8, p191_11, p191_12, p191_15, tk_0, tl_0, td_1_0, s65, tk_70, tl_70, td_71_70, s119, dT_e, b2_T, b2_F, Int.reduceEq, Int.reduceLT, Int.reduceLE, Int.reduceAdd, Int.reduceSub, Int.reduceMul, Int.reduceNeg, reduceIte, if_true, if_false, true_or, or_true, false_or, or_false, false_and, and_false, eq_self, not_false_eq_true, not_true_eq_false, true_and, and_true, List.cons_append, List.nil_append, List.append_nil, b2_0, b2_1, b2_01, Classical.not_not]
end START
