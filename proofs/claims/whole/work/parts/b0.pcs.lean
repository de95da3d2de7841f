/-! the steps, entry by entry -/
theorem rk0 : mjK 0 = 0 := by decide +kernel
theorem mx0 : mjX 0 = 1 := by decide +kernel
theorem mo0 : mjO 0 = 0 := by decide +kernel
theorem rk1 : mjK 1 = 0 := by decide +kernel
theorem mx1 : mjX 1 = 3 := by decide +kernel
theorem mo1 : mjO 1 = 0 := by decide +kernel
theorem rk2 : mjK 2 = 2 := by decide +kernel
theorem mx2 : mjX 2 = 2 := by decide +kernel
theorem mo2 : mjO 2 = 0 := by decide +kernel
theorem rk3 : mjK 3 = 1 := by decide +kernel
theorem mx3 : mjX 3 = 2 := by decide +kernel
theorem mo3 : mjO 3 = 0 := by decide +kernel
theorem rk4 : mjK 4 = 0 := by decide +kernel
theorem mx4 : mjX 4 = 2 := by decide +kernel
theorem mo4 : mjO 4 = 0 := by decide +kernel
theorem rk5 : mjK 5 = 2 := by decide +kernel
theorem mx5 : mjX 5 = 2 := by decide +kernel
theorem mo5 : mjO 5 = 0 := by decide +kernel
theorem rk6 : mjK 6 = 0 := by decide +kernel
theorem mx6 : mjX 6 = 4 := by decide +kernel
theorem mo6 : mjO 6 = 0 := by decide +kernel
theorem rk7 : mjK 7 = 0 := by decide +kernel
theorem mx7 : mjX 7 = 2 := by decide +kernel
theorem mo7 : mjO 7 = 0 := by decide +kernel
theorem rk8 : mjK 8 = 0 := by decide +kernel
theorem mx8 : mjX 8 = 2 := by decide +kernel
theorem mo8 : mjO 8 = 0 := by decide +kernel
theorem rk9 : mjK 9 = 0 := by decide +kernel
theorem mx9 : mjX 9 = 4 := by decide +kernel
theorem mo9 : mjO 9 = 0 := by decide +kernel
theorem rk10 : mjK 10 = 0 := by decide +kernel
theorem mx10 : mjX 10 = 1 := by decide +kernel
theorem mo10 : mjO 10 = 1 := by decide +kernel
theorem rk11 : mjK 11 = 0 := by decide +kernel
theorem mx11 : mjX 11 = 2 := by decide +kernel
theorem mo11 : mjO 11 = 1 := by decide +kernel
theorem rk12 : mjK 12 = 0 := by decide +kernel
theorem mx12 : mjX 12 = 6 := by decide +kernel
theorem mo12 : mjO 12 = 1 := by decide +kernel
theorem rk13 : mjK 13 = 1 := by decide +kernel
theorem mx13 : mjX 13 = 2 := by decide +kernel
theorem mo13 : mjO 13 = 1 := by decide +kernel
theorem rk14 : mjK 14 = 2 := by decide +kernel
theorem mx14 : mjX 14 = 2 := by decide +kernel
theorem mo14 : mjO 14 = 1 := by decide +kernel
theorem rk15 : mjK 15 = 0 := by decide +kernel
theorem mx15 : mjX 15 = 3 := by decide +kernel
theorem mo15 : mjO 15 = 2 := by decide +kernel
theorem rk16 : mjK 16 = 2 := by decide +kernel
theorem mx16 : mjX 16 = 2 := by decide +kernel
theorem mo16 : mjO 16 = 2 := by decide +kernel
theorem rk17 : mjK 17 = 2 := by decide +kernel
theorem mx17 : mjX 17 = 3 := by decide +kernel
theorem mo17 : mjO 17 = 2 := by decide +kernel
theorem rk18 : mjK 18 = 0 := by decide +kernel
theorem mx18 : mjX 18 = 6 := by decide +kernel
theorem mo18 : mjO 18 = 2 := by decide +kernel
theorem rk19 : mjK 19 = 1 := by decide +kernel
theorem mx19 : mjX 19 = 3 := by decide +kernel
theorem mo19 : mjO 19 = 2 := by decide +kernel
theorem rk20 : mjK 20 = 1 := by decide +kernel
theorem mx20 : mjX 20 = 5 := by decide +kernel
theorem mo20 : mjO 20 = 2 := by decide +kernel
theorem rk21 : mjK 21 = 1 := by decide +kernel
theorem mx21 : mjX 21 = 5 := by decide +kernel
theorem mo21 : mjO 21 = 2 := by decide +kernel
theorem rk22 : mjK 22 = 0 := by decide +kernel
theorem mx22 : mjX 22 = 1 := by decide +kernel
theorem mo22 : mjO 22 = 3 := by decide +kernel
theorem rk23 : mjK 23 = 0 := by decide +kernel
theorem mx23 : mjX 23 = 3 := by decide +kernel
theorem mo23 : mjO 23 = 3 := by decide +kernel
theorem rk24 : mjK 24 = 1 := by decide +kernel
theorem mx24 : mjX 24 = 2 := by decide +kernel
theorem mo24 : mjO 24 = 3 := by decide +kernel
theorem rk25 : mjK 25 = 1 := by decide +kernel
theorem mx25 : mjX 25 = 2 := by decide +kernel
theorem mo25 : mjO 25 = 3 := by decide +kernel
theorem rk26 : mjK 26 = 1 := by decide +kernel
theorem mx26 : mjX 26 = 2 := by decide +kernel
theorem mo26 : mjO 26 = 3 := by decide +kernel
theorem rk27 : mjK 27 = 1 := by decide +kernel
theorem mx27 : mjX 27 = 2 := by decide +kernel
theorem mo27 : mjO 27 = 3 := by decide +kernel
theorem rk28 : mjK 28 = 2 := by decide +kernel
theorem mx28 : mjX 28 = 2 := by decide +kernel
theorem mo28 : mjO 28 = 3 := by decide +kernel
theorem rk29 : mjK 29 = 2 := by decide +kernel
theorem mx29 : mjX 29 = 2 := by decide +kernel
theorem mo29 : mjO 29 = 3 := by decide +kernel
theorem rk30 : mjK 30 = 2 := by decide +kernel
theorem mx30 : mjX 30 = 3 := by decide +kernel
theorem mo30 : mjO 30 = 3 := by decide +kernel
theorem rk31 : mjK 31 = 2 := by decide +kernel
theorem mx31 : mjX 31 = 3 := by decide +kernel
theorem mo31 : mjO 31 = 3 := by decide +kernel
theorem rk32 : mjK 32 = 2 := by decide +kernel
theorem mx32 : mjX 32 = 6 := by decide +kernel
theorem mo32 : mjO 32 = 3 := by decide +kernel
theorem rk33 : mjK 33 = 2 := by decide +kernel
theorem mx33 : mjX 33 = 3 := by decide +kernel
theorem mo33 : mjO 33 = 3 := by decide +kernel
theorem rk34 : mjK 34 = 0 := by decide +kernel
theorem mx34 : mjX 34 = 5 := by decide +kernel
theorem mo34 : mjO 34 = 3 := by decide +kernel
theorem rk35 : mjK 35 = 0 := by decide +kernel
theorem mx35 : mjX 35 = 4 := by decide +kernel
theorem mo35 : mjO 35 = 3 := by decide +kernel
theorem rk36 : mjK 36 = 0 := by decide +kernel
theorem mx36 : mjX 36 = 2 := by decide +kernel
theorem mo36 : mjO 36 = 3 := by decide +kernel
theorem rk37 : mjK 37 = 0 := by decide +kernel
theorem mx37 : mjX 37 = 2 := by decide +kernel
theorem mo37 : mjO 37 = 3 := by decide +kernel
theorem rk38 : mjK 38 = 0 := by decide +kernel
theorem mx38 : mjX 38 = 4 := by decide +kernel
theorem mo38 : mjO 38 = 3 := by decide +kernel
theorem rk39 : mjK 39 = 2 := by decide +kernel
theorem mx39 : mjX 39 = 4 := by decide +kernel
theorem mo39 : mjO 39 = 3 := by decide +kernel
theorem rk40 : mjK 40 = 1 := by decide +kernel
theorem mx40 : mjX 40 = 3 := by decide +kernel
theorem mo40 : mjO 40 = 3 := by decide +kernel
theorem rk41 : mjK 41 = 1 := by decide +kernel
theorem mx41 : mjX 41 = 3 := by decide +kernel
theorem mo41 : mjO 41 = 3 := by decide +kernel
theorem rk42 : mjK 42 = 1 := by decide +kernel
theorem mx42 : mjX 42 = 3 := by decide +kernel
theorem mo42 : mjO 42 = 3 := by decide +kernel
theorem rk43 : mjK 43 = 0 := by decide +kernel
theorem mx43 : mjX 43 = 3 := by decide +kernel
theorem mo43 : mjO 43 = 4 := by decide +kernel
theorem rk44 : mjK 44 = 1 := by decide +kernel
theorem mx44 : mjX 44 = 1 := by decide +kernel
theorem mo44 : mjO 44 = 4 := by decide +kernel
theorem rk45 : mjK 45 = 2 := by decide +kernel
theorem mx45 : mjX 45 = 3 := by decide +kernel
theorem mo45 : mjO 45 = 4 := by decide +kernel
theorem rk46 : mjK 46 = 0 := by decide +kernel
theorem mx46 : mjX 46 = 4 := by decide +kernel
theorem mo46 : mjO 46 = 4 := by decide +kernel
theorem rk47 : mjK 47 = 3 := by decide +kernel
theorem mx47 : mjX 47 = 2 := by decide +kernel
theorem mo47 : mjO 47 = 4 := by decide +kernel
theorem rk48 : mjK 48 = 1 := by decide +kernel
theorem mx48 : mjX 48 = 2 := by decide +kernel
theorem mo48 : mjO 48 = 4 := by decide +kernel
theorem rk49 : mjK 49 = 3 := by decide +kernel
theorem mx49 : mjX 49 = 3 := by decide +kernel
theorem mo49 : mjO 49 = 4 := by decide +kernel
theorem rk50 : mjK 50 = 0 := by decide +kernel
theorem mx50 : mjX 50 = 4 := by decide +kernel
theorem mo50 : mjO 50 = 5 := by decide +kernel
theorem rk51 : mjK 51 = 2 := by decide +kernel
theorem mx51 : mjX 51 = 5 := by decide +kernel
theorem mo51 : mjO 51 = 5 := by decide +kernel
theorem rk52 : mjK 52 = 2 := by decide +kernel
theorem mx52 : mjX 52 = 3 := by decide +kernel
theorem mo52 : mjO 52 = 5 := by decide +kernel
theorem rk53 : mjK 53 = 0 := by decide +kernel
theorem mx53 : mjX 53 = 4 := by decide +kernel
theorem mo53 : mjO 53 = 5 := by decide +kernel
theorem rk54 : mjK 54 = 2 := by decide +kernel
theorem mx54 : mjX 54 = 1 := by decide +kernel
theorem mo54 : mjO 54 = 5 := by decide +kernel
theorem rk55 : mjK 55 = 2 := by decide +kernel
theorem mx55 : mjX 55 = 3 := by decide +kernel
theorem mo55 : mjO 55 = 5 := by decide +kernel
theorem rk56 : mjK 56 = 0 := by decide +kernel
theorem mx56 : mjX 56 = 6 := by decide +kernel
theorem mo56 : mjO 56 = 5 := by decide +kernel
theorem rk57 : mjK 57 = 1 := by decide +kernel
theorem mx57 : mjX 57 = 5 := by decide +kernel
theorem mo57 : mjO 57 = 5 := by decide +kernel
theorem rk58 : mjK 58 = 2 := by decide +kernel
theorem mx58 : mjX 58 = 2 := by decide +kernel
theorem mo58 : mjO 58 = 5 := by decide +kernel
theorem rk59 : mjK 59 = 0 := by decide +kernel
theorem mx59 : mjX 59 = 5 := by decide +kernel
theorem mo59 : mjO 59 = 5 := by decide +kernel
theorem rk60 : mjK 60 = 2 := by decide +kernel
theorem mx60 : mjX 60 = 3 := by decide +kernel
theorem mo60 : mjO 60 = 5 := by decide +kernel
theorem rk61 : mjK 61 = 1 := by decide +kernel
theorem mx61 : mjX 61 = 4 := by decide +kernel
theorem mo61 : mjO 61 = 5 := by decide +kernel
theorem rk62 : mjK 62 = 1 := by decide +kernel
theorem mx62 : mjX 62 = 7 := by decide +kernel
theorem mo62 : mjO 62 = 5 := by decide +kernel
theorem rk63 : mjK 63 = 0 := by decide +kernel
theorem mx63 : mjX 63 = 8 := by decide +kernel
theorem mo63 : mjO 63 = 5 := by decide +kernel
theorem rk64 : mjK 64 = 0 := by decide +kernel
theorem mx64 : mjX 64 = 7 := by decide +kernel
theorem mo64 : mjO 64 = 5 := by decide +kernel
theorem rk65 : mjK 65 = 0 := by decide +kernel
theorem mx65 : mjX 65 = 4 := by decide +kernel
theorem mo65 : mjO 65 = 6 := by decide +kernel
theorem rk66 : mjK 66 = 1 := by decide +kernel
theorem mx66 : mjX 66 = 5 := by decide +kernel
theorem mo66 : mjO 66 = 6 := by decide +kernel
theorem rk67 : mjK 67 = 1 := by decide +kernel
theorem mx67 : mjX 67 = 6 := by decide +kernel
theorem mo67 : mjO 67 = 6 := by decide +kernel
theorem rk68 : mjK 68 = 1 := by decide +kernel
theorem mx68 : mjX 68 = 2 := by decide +kernel
theorem mo68 : mjO 68 = 6 := by decide +kernel
theorem rk69 : mjK 69 = 1 := by decide +kernel
theorem mx69 : mjX 69 = 3 := by decide +kernel
theorem mo69 : mjO 69 = 6 := by decide +kernel
theorem rk70 : mjK 70 = 1 := by decide +kernel
theorem mx70 : mjX 70 = 4 := by decide +kernel
theorem mo70 : mjO 70 = 6 := by decide +kernel
theorem rk71 : mjK 71 = 1 := by decide +kernel
theorem mx71 : mjX 71 = 2 := by decide +kernel
theorem mo71 : mjO 71 = 6 := by decide +kernel
theorem rk72 : mjK 72 = 1 := by decide +kernel
theorem mx72 : mjX 72 = 3 := by decide +kernel
theorem mo72 : mjO 72 = 6 := by decide +kernel
theorem rk73 : mjK 73 = 1 := by decide +kernel
theorem mx73 : mjX 73 = 3 := by decide +kernel
theorem mo73 : mjO 73 = 6 := by decide +kernel
theorem rk74 : mjK 74 = 1 := by decide +kernel
theorem mx74 : mjX 74 = 4 := by decide +kernel
theorem mo74 : mjO 74 = 6 := by decide +kernel
theorem rk75 : mjK 75 = 1 := by decide +kernel
theorem mx75 : mjX 75 = 6 := by decide +kernel
theorem mo75 : mjO 75 = 6 := by decide +kernel
theorem rk76 : mjK 76 = 1 := by decide +kernel
theorem mx76 : mjX 76 = 9 := by decide +kernel
theorem mo76 : mjO 76 = 6 := by decide +kernel
theorem rk77 : mjK 77 = 3 := by decide +kernel
theorem mx77 : mjX 77 = 4 := by decide +kernel
theorem mo77 : mjO 77 = 6 := by decide +kernel
theorem rk78 : mjK 78 = 1 := by decide +kernel
theorem mx78 : mjX 78 = 3 := by decide +kernel
theorem mo78 : mjO 78 = 6 := by decide +kernel
theorem rk79 : mjK 79 = 1 := by decide +kernel
theorem mx79 : mjX 79 = 5 := by decide +kernel
theorem mo79 : mjO 79 = 6 := by decide +kernel
theorem rk80 : mjK 80 = 1 := by decide +kernel
theorem mx80 : mjX 80 = 3 := by decide +kernel
theorem mo80 : mjO 80 = 6 := by decide +kernel
theorem rk81 : mjK 81 = 1 := by decide +kernel
theorem mx81 : mjX 81 = 3 := by decide +kernel
theorem mo81 : mjO 81 = 6 := by decide +kernel
theorem rk82 : mjK 82 = 1 := by decide +kernel
theorem mx82 : mjX 82 = 1 := by decide +kernel
theorem mo82 : mjO 82 = 6 := by decide +kernel
theorem rk83 : mjK 83 = 1 := by decide +kernel
theorem mx83 : mjX 83 = 2 := by decide +kernel
theorem mo83 : mjO 83 = 6 := by decide +kernel
theorem rk84 : mjK 84 = 1 := by decide +kernel
theorem mx84 : mjX 84 = 4 := by decide +kernel
theorem mo84 : mjO 84 = 6 := by decide +kernel
theorem rk85 : mjK 85 = 1 := by decide +kernel
theorem mx85 : mjX 85 = 3 := by decide +kernel
theorem mo85 : mjO 85 = 6 := by decide +kernel
theorem rk86 : mjK 86 = 1 := by decide +kernel
theorem mx86 : mjX 86 = 5 := by decide +kernel
theorem mo86 : mjO 86 = 6 := by decide +kernel
theorem rk87 : mjK 87 = 1 := by decide +kernel
theorem mx87 : mjX 87 = 6 := by decide +kernel
theorem mo87 : mjO 87 = 6 := by decide +kernel
theorem rk88 : mjK 88 = 2 := by decide +kernel
theorem mx88 : mjX 88 = 3 := by decide +kernel
theorem mo88 : mjO 88 = 6 := by decide +kernel
theorem rk89 : mjK 89 = 1 := by decide +kernel
theorem mx89 : mjX 89 = 6 := by decide +kernel
theorem mo89 : mjO 89 = 6 := by decide +kernel
theorem rk90 : mjK 90 = 1 := by decide +kernel
theorem mx90 : mjX 90 = 2 := by decide +kernel
theorem mo90 : mjO 90 = 6 := by decide +kernel
theorem rk91 : mjK 91 = 1 := by decide +kernel
theorem mx91 : mjX 91 = 7 := by decide +kernel
theorem mo91 : mjO 91 = 6 := by decide +kernel
theorem rk92 : mjK 92 = 1 := by decide +kernel
theorem mx92 : mjX 92 = 2 := by decide +kernel
theorem mo92 : mjO 92 = 6 := by decide +kernel
theorem rk93 : mjK 93 = 1 := by decide +kernel
theorem mx93 : mjX 93 = 6 := by decide +kernel
theorem mo93 : mjO 93 = 6 := by decide +kernel
theorem rk94 : mjK 94 = 1 := by decide +kernel
theorem mx94 : mjX 94 = 2 := by decide +kernel
theorem mo94 : mjO 94 = 6 := by decide +kernel
theorem rk95 : mjK 95 = 1 := by decide +kernel
theorem mx95 : mjX 95 = 3 := by decide +kernel
theorem mo95 : mjO 95 = 6 := by decide +kernel
theorem rk96 : mjK 96 = 4 := by decide +kernel
theorem mx96 : mjX 96 = 2 := by decide +kernel
theorem mo96 : mjO 96 = 6 := by decide +kernel
theorem rk97 : mjK 97 = 1 := by decide +kernel
theorem mx97 : mjX 97 = 2 := by decide +kernel
theorem mo97 : mjO 97 = 6 := by decide +kernel
theorem rk98 : mjK 98 = 2 := by decide +kernel
theorem mx98 : mjX 98 = 6 := by decide +kernel
theorem mo98 : mjO 98 = 6 := by decide +kernel
theorem rk99 : mjK 99 = 0 := by decide +kernel
theorem mx99 : mjX 99 = 2 := by decide +kernel
theorem mo99 : mjO 99 = 6 := by decide +kernel
theorem rk100 : mjK 100 = 0 := by decide +kernel
theorem mx100 : mjX 100 = 2 := by decide +kernel
theorem mo100 : mjO 100 = 6 := by decide +kernel
theorem rk101 : mjK 101 = 2 := by decide +kernel
theorem mx101 : mjX 101 = 5 := by decide +kernel
theorem mo101 : mjO 101 = 6 := by decide +kernel
theorem rk102 : mjK 102 = 1 := by decide +kernel
theorem mx102 : mjX 102 = 6 := by decide +kernel
theorem mo102 : mjO 102 = 6 := by decide +kernel
theorem rk103 : mjK 103 = 2 := by decide +kernel
theorem mx103 : mjX 103 = 4 := by decide +kernel
theorem mo103 : mjO 103 = 6 := by decide +kernel
theorem rk104 : mjK 104 = 0 := by decide +kernel
theorem mx104 : mjX 104 = 2 := by decide +kernel
theorem mo104 : mjO 104 = 6 := by decide +kernel
theorem rk105 : mjK 105 = 1 := by decide +kernel
theorem mx105 : mjX 105 = 1 := by decide +kernel
theorem mo105 : mjO 105 = 6 := by decide +kernel
theorem rk106 : mjK 106 = 1 := by decide +kernel
theorem mx106 : mjX 106 = 2 := by decide +kernel
theorem mo106 : mjO 106 = 6 := by decide +kernel
theorem rk107 : mjK 107 = 2 := by decide +kernel
theorem mx107 : mjX 107 = 1 := by decide +kernel
theorem mo107 : mjO 107 = 6 := by decide +kernel
theorem rk108 : mjK 108 = 2 := by decide +kernel
theorem mx108 : mjX 108 = 1 := by decide +kernel
theorem mo108 : mjO 108 = 6 := by decide +kernel
theorem rk109 : mjK 109 = 2 := by decide +kernel
theorem mx109 : mjX 109 = 1 := by decide +kernel
theorem mo109 : mjO 109 = 6 := by decide +kernel
theorem rk110 : mjK 110 = 1 := by decide +kernel
theorem mx110 : mjX 110 = 1 := by decide +kernel
theorem mo110 : mjO 110 = 6 := by decide +kernel
theorem rk111 : mjK 111 = 1 := by decide +kernel
theorem mx111 : mjX 111 = 4 := by decide +kernel
theorem mo111 : mjO 111 = 6 := by decide +kernel
theorem rk112 : mjK 112 = 2 := by decide +kernel
theorem mx112 : mjX 112 = 1 := by decide +kernel
theorem mo112 : mjO 112 = 6 := by decide +kernel
theorem rk113 : mjK 113 = 2 := by decide +kernel
theorem mx113 : mjX 113 = 1 := by decide +kernel
theorem mo113 : mjO 113 = 6 := by decide +kernel
theorem rk114 : mjK 114 = 2 := by decide +kernel
theorem mx114 : mjX 114 = 3 := by decide +kernel
theorem mo114 : mjO 114 = 6 := by decide +kernel
theorem rk115 : mjK 115 = 2 := by decide +kernel
theorem mx115 : mjX 115 = 2 := by decide +kernel
theorem mo115 : mjO 115 = 6 := by decide +kernel
theorem rk116 : mjK 116 = 1 := by decide +kernel
theorem mx116 : mjX 116 = 1 := by decide +kernel
theorem mo116 : mjO 116 = 6 := by decide +kernel
theorem rk117 : mjK 117 = 1 := by decide +kernel
theorem mx117 : mjX 117 = 1 := by decide +kernel
theorem mo117 : mjO 117 = 6 := by decide +kernel
theorem rk118 : mjK 118 = 1 := by decide +kernel
theorem mx118 : mjX 118 = 1 := by decide +kernel
theorem mo118 : mjO 118 = 6 := by decide +kernel
theorem rk119 : mjK 119 = 0 := by decide +kernel
theorem mx119 : mjX 119 = 1 := by decide +kernel
theorem mo119 : mjO 119 = 7 := by decide +kernel
theorem rk120 : mjK 120 = 2 := by decide +kernel
theorem mx120 : mjX 120 = 3 := by decide +kernel
theorem mo120 : mjO 120 = 7 := by decide +kernel
theorem rk121 : mjK 121 = 1 := by decide +kernel
theorem mx121 : mjX 121 = 2 := by decide +kernel
theorem mo121 : mjO 121 = 7 := by decide +kernel
theorem rk122 : mjK 122 = 2 := by decide +kernel
theorem mx122 : mjX 122 = 1 := by decide +kernel
theorem mo122 : mjO 122 = 7 := by decide +kernel
theorem rk123 : mjK 123 = 1 := by decide +kernel
theorem mx123 : mjX 123 = 4 := by decide +kernel
theorem mo123 : mjO 123 = 7 := by decide +kernel
theorem rk124 : mjK 124 = 2 := by decide +kernel
theorem mx124 : mjX 124 = 1 := by decide +kernel
theorem mo124 : mjO 124 = 7 := by decide +kernel
theorem rk125 : mjK 125 = 2 := by decide +kernel
theorem mx125 : mjX 125 = 1 := by decide +kernel
theorem mo125 : mjO 125 = 7 := by decide +kernel
theorem rk126 : mjK 126 = 2 := by decide +kernel
theorem mx126 : mjX 126 = 2 := by decide +kernel
theorem mo126 : mjO 126 = 7 := by decide +kernel
theorem rk127 : mjK 127 = 2 := by decide +kernel
theorem mx127 : mjX 127 = 5 := by decide +kernel
theorem mo127 : mjO 127 = 7 := by decide +kernel
theorem rk128 : mjK 128 = 0 := by decide +kernel
theorem mx128 : mjX 128 = 5 := by decide +kernel
theorem mo128 : mjO 128 = 7 := by decide +kernel
theorem rk129 : mjK 129 = 1 := by decide +kernel
theorem mx129 : mjX 129 = 5 := by decide +kernel
theorem mo129 : mjO 129 = 7 := by decide +kernel
theorem rk130 : mjK 130 = 1 := by decide +kernel
theorem mx130 : mjX 130 = 5 := by decide +kernel
theorem mo130 : mjO 130 = 7 := by decide +kernel
theorem rk131 : mjK 131 = 2 := by decide +kernel
theorem mx131 : mjX 131 = 2 := by decide +kernel
theorem mo131 : mjO 131 = 7 := by decide +kernel
theorem rk132 : mjK 132 = 1 := by decide +kernel
theorem mx132 : mjX 132 = 2 := by decide +kernel
theorem mo132 : mjO 132 = 7 := by decide +kernel
theorem rk133 : mjK 133 = 1 := by decide +kernel
theorem mx133 : mjX 133 = 3 := by decide +kernel
theorem mo133 : mjO 133 = 7 := by decide +kernel
theorem rk134 : mjK 134 = 1 := by decide +kernel
theorem mx134 : mjX 134 = 4 := by decide +kernel
theorem mo134 : mjO 134 = 7 := by decide +kernel
theorem rk135 : mjK 135 = 1 := by decide +kernel
theorem mx135 : mjX 135 = 2 := by decide +kernel
theorem mo135 : mjO 135 = 7 := by decide +kernel
theorem rk136 : mjK 136 = 1 := by decide +kernel
theorem mx136 : mjX 136 = 4 := by decide +kernel
theorem mo136 : mjO 136 = 7 := by decide +kernel
theorem rk137 : mjK 137 = 1 := by decide +kernel
theorem mx137 : mjX 137 = 3 := by decide +kernel
theorem mo137 : mjO 137 = 7 := by decide +kernel
theorem rk138 : mjK 138 = 1 := by decide +kernel
theorem mx138 : mjX 138 = 3 := by decide +kernel
theorem mo138 : mjO 138 = 7 := by decide +kernel
theorem rk139 : mjK 139 = 2 := by decide +kernel
theorem mx139 : mjX 139 = 1 := by decide +kernel
theorem mo139 : mjO 139 = 7 := by decide +kernel
theorem rk140 : mjK 140 = 2 := by decide +kernel
theorem mx140 : mjX 140 = 2 := by decide +kernel
theorem mo140 : mjO 140 = 7 := by decide +kernel
theorem rk141 : mjK 141 = 1 := by decide +kernel
theorem mx141 : mjX 141 = 2 := by decide +kernel
theorem mo141 : mjO 141 = 7 := by decide +kernel
theorem rk142 : mjK 142 = 3 := by decide +kernel
theorem mx142 : mjX 142 = 3 := by decide +kernel
theorem mo142 : mjO 142 = 7 := by decide +kernel
theorem rk143 : mjK 143 = 1 := by decide +kernel
theorem mx143 : mjX 143 = 5 := by decide +kernel
theorem mo143 : mjO 143 = 7 := by decide +kernel
theorem rk144 : mjK 144 = 1 := by decide +kernel
theorem mx144 : mjX 144 = 6 := by decide +kernel
theorem mo144 : mjO 144 = 7 := by decide +kernel
theorem rk145 : mjK 145 = 1 := by decide +kernel
theorem mx145 : mjX 145 = 7 := by decide +kernel
theorem mo145 : mjO 145 = 7 := by decide +kernel
theorem rk146 : mjK 146 = 3 := by decide +kernel
theorem mx146 : mjX 146 = 3 := by decide +kernel
theorem mo146 : mjO 146 = 7 := by decide +kernel
theorem rk147 : mjK 147 = 1 := by decide +kernel
theorem mx147 : mjX 147 = 2 := by decide +kernel
theorem mo147 : mjO 147 = 7 := by decide +kernel
theorem rk148 : mjK 148 = 1 := by decide +kernel
theorem mx148 : mjX 148 = 3 := by decide +kernel
theorem mo148 : mjO 148 = 7 := by decide +kernel
theorem rk149 : mjK 149 = 0 := by decide +kernel
theorem mx149 : mjX 149 = 4 := by decide +kernel
theorem mo149 : mjO 149 = 7 := by decide +kernel
theorem rk150 : mjK 150 = 0 := by decide +kernel
theorem mx150 : mjX 150 = 4 := by decide +kernel
theorem mo150 : mjO 150 = 7 := by decide +kernel
theorem rk151 : mjK 151 = 2 := by decide +kernel
theorem mx151 : mjX 151 = 6 := by decide +kernel
theorem mo151 : mjO 151 = 7 := by decide +kernel
theorem rk152 : mjK 152 = 1 := by decide +kernel
theorem mx152 : mjX 152 = 5 := by decide +kernel
theorem mo152 : mjO 152 = 7 := by decide +kernel
theorem rk153 : mjK 153 = 1 := by decide +kernel
theorem mx153 : mjX 153 = 2 := by decide +kernel
theorem mo153 : mjO 153 = 7 := by decide +kernel
theorem rk154 : mjK 154 = 1 := by decide +kernel
theorem mx154 : mjX 154 = 2 := by decide +kernel
theorem mo154 : mjO 154 = 7 := by decide +kernel
theorem rk155 : mjK 155 = 0 := by decide +kernel
theorem mx155 : mjX 155 = 6 := by decide +kernel
theorem mo155 : mjO 155 = 7 := by decide +kernel
theorem rk156 : mjK 156 = 2 := by decide +kernel
theorem mx156 : mjX 156 = 2 := by decide +kernel
theorem mo156 : mjO 156 = 7 := by decide +kernel
theorem rk157 : mjK 157 = 0 := by decide +kernel
theorem mx157 : mjX 157 = 4 := by decide +kernel
theorem mo157 : mjO 157 = 7 := by decide +kernel
theorem rk158 : mjK 158 = 0 := by decide +kernel
theorem mx158 : mjX 158 = 8 := by decide +kernel
theorem mo158 : mjO 158 = 7 := by decide +kernel
theorem rk159 : mjK 159 = 0 := by decide +kernel
theorem mx159 : mjX 159 = 5 := by decide +kernel
theorem mo159 : mjO 159 = 7 := by decide +kernel
theorem rk160 : mjK 160 = 0 := by decide +kernel
theorem mx160 : mjX 160 = 7 := by decide +kernel
theorem mo160 : mjO 160 = 7 := by decide +kernel
theorem rk161 : mjK 161 = 0 := by decide +kernel
theorem mx161 : mjX 161 = 7 := by decide +kernel
theorem mo161 : mjO 161 = 7 := by decide +kernel
theorem rk162 : mjK 162 = 1 := by decide +kernel
theorem mx162 : mjX 162 = 3 := by decide +kernel
theorem mo162 : mjO 162 = 7 := by decide +kernel
theorem rk163 : mjK 163 = 0 := by decide +kernel
theorem mx163 : mjX 163 = 2 := by decide +kernel
theorem mo163 : mjO 163 = 7 := by decide +kernel
theorem rk164 : mjK 164 = 2 := by decide +kernel
theorem mx164 : mjX 164 = 1 := by decide +kernel
theorem mo164 : mjO 164 = 7 := by decide +kernel
theorem rk165 : mjK 165 = 0 := by decide +kernel
theorem mx165 : mjX 165 = 5 := by decide +kernel
theorem mo165 : mjO 165 = 7 := by decide +kernel
theorem rk166 : mjK 166 = 0 := by decide +kernel
theorem mx166 : mjX 166 = 5 := by decide +kernel
theorem mo166 : mjO 166 = 7 := by decide +kernel
theorem rk167 : mjK 167 = 1 := by decide +kernel
theorem mx167 : mjX 167 = 2 := by decide +kernel
theorem mo167 : mjO 167 = 7 := by decide +kernel
theorem rk168 : mjK 168 = 1 := by decide +kernel
theorem mx168 : mjX 168 = 2 := by decide +kernel
theorem mo168 : mjO 168 = 7 := by decide +kernel
theorem rk169 : mjK 169 = 1 := by decide +kernel
theorem mx169 : mjX 169 = 3 := by decide +kernel
theorem mo169 : mjO 169 = 7 := by decide +kernel
theorem rk170 : mjK 170 = 1 := by decide +kernel
theorem mx170 : mjX 170 = 3 := by decide +kernel
theorem mo170 : mjO 170 = 7 := by decide +kernel
theorem rk171 : mjK 171 = 1 := by decide +kernel
theorem mx171 : mjX 171 = 6 := by decide +kernel
theorem mo171 : mjO 171 = 7 := by decide +kernel
theorem rk172 : mjK 172 = 2 := by decide +kernel
theorem mx172 : mjX 172 = 5 := by decide +kernel
theorem mo172 : mjO 172 = 7 := by decide +kernel
theorem rk173 : mjK 173 = 2 := by decide +kernel
theorem mx173 : mjX 173 = 2 := by decide +kernel
theorem mo173 : mjO 173 = 7 := by decide +kernel
theorem rk174 : mjK 174 = 2 := by decide +kernel
theorem mx174 : mjX 174 = 3 := by decide +kernel
theorem mo174 : mjO 174 = 7 := by decide +kernel
theorem rk175 : mjK 175 = 0 := by decide +kernel
theorem mx175 : mjX 175 = 3 := by decide +kernel
theorem mo175 : mjO 175 = 7 := by decide +kernel
theorem rk176 : mjK 176 = 0 := by decide +kernel
theorem mx176 : mjX 176 = 8 := by decide +kernel
theorem mo176 : mjO 176 = 7 := by decide +kernel
theorem rk177 : mjK 177 = 1 := by decide +kernel
theorem mx177 : mjX 177 = 5 := by decide +kernel
theorem mo177 : mjO 177 = 7 := by decide +kernel
theorem rk178 : mjK 178 = 1 := by decide +kernel
theorem mx178 : mjX 178 = 2 := by decide +kernel
theorem mo178 : mjO 178 = 7 := by decide +kernel
theorem rk179 : mjK 179 = 0 := by decide +kernel
theorem mx179 : mjX 179 = 7 := by decide +kernel
theorem mo179 : mjO 179 = 7 := by decide +kernel
theorem rk180 : mjK 180 = 1 := by decide +kernel
theorem mx180 : mjX 180 = 9 := by decide +kernel
theorem mo180 : mjO 180 = 7 := by decide +kernel
theorem rk181 : mjK 181 = 1 := by decide +kernel
theorem mx181 : mjX 181 = 2 := by decide +kernel
theorem mo181 : mjO 181 = 7 := by decide +kernel
theorem rk182 : mjK 182 = 1 := by decide +kernel
theorem mx182 : mjX 182 = 5 := by decide +kernel
theorem mo182 : mjO 182 = 7 := by decide +kernel
theorem rk183 : mjK 183 = 2 := by decide +kernel
theorem mx183 : mjX 183 = 9 := by decide +kernel
theorem mo183 : mjO 183 = 7 := by decide +kernel
theorem rk184 : mjK 184 = 2 := by decide +kernel
theorem mx184 : mjX 184 = 6 := by decide +kernel
theorem mo184 : mjO 184 = 7 := by decide +kernel
theorem rk185 : mjK 185 = 1 := by decide +kernel
theorem mx185 : mjX 185 = 3 := by decide +kernel
theorem mo185 : mjO 185 = 7 := by decide +kernel
theorem rk186 : mjK 186 = 1 := by decide +kernel
theorem mx186 : mjX 186 = 2 := by decide +kernel
theorem mo186 : mjO 186 = 7 := by decide +kernel
theorem rk187 : mjK 187 = 1 := by decide +kernel
theorem mx187 : mjX 187 = 7 := by decide +kernel
theorem mo187 : mjO 187 = 7 := by decide +kernel
theorem rk188 : mjK 188 = 2 := by decide +kernel
theorem mx188 : mjX 188 = 3 := by decide +kernel
theorem mo188 : mjO 188 = 7 := by decide +kernel
theorem rk189 : mjK 189 = 1 := by decide +kernel
theorem mx189 : mjX 189 = 2 := by decide +kernel
theorem mo189 : mjO 189 = 7 := by decide +kernel
theorem rk190 : mjK 190 = 1 := by decide +kernel
theorem mx190 : mjX 190 = 1 := by decide +kernel
theorem mo190 : mjO 190 = 9 := by decide +kernel
theorem rk191 : mjK 191 = 2 := by decide +kernel
theorem mx191 : mjX 191 = 4 := by decide +kernel
theorem mo191 : mjO 191 = 8 := by decide +kernel
set_option maxRecDepth 20000 in
theorem k0_0 : mjCode 0 0 = some (.aload_n 0, 1, 0, 0) := by decide +kernel
theorem p0_0 {l0 : Int} {ds : Ds} {m : Mm} {Q : Ds → Mm → List MV → Prop} : WP 0 0 [(2, l0)] [] ds m Q = (WP 0 1 [(2, l0)] [(2, l0)] ds m Q) := P_nx k0_0 rfl
set_option maxRecDepth 20000 in
theorem k0_1 : mjCode 0 1 = some (.invokespecial 3, 3, 0, 1) := by decide +kernel
theorem p0_1 {s0 : Int} {q0 : MV} {ds : Ds} {m : Mm} {Q : Ds → Mm → List MV → Prop} : WP 0 1 [q0] [(2, s0)] ds m Q = (((0 ≤ s0 ∧ ([].map cat).sum ≤ 8) ∧ WP 0 4 [q0] [] ds m Q)) := P_gd k0_1 rfl
set_option maxRecDepth 20000 in
theorem k0_4 : mjCode 0 4 = some (.aload_n 0, 1, 0, 0) := by decide +kernel
theorem p0_4 {l0 : Int} {ds : Ds} {m : Mm} {Q : Ds → Mm → List MV → Prop} : WP 0 4 [(2, l0)] [] ds m Q = (WP 0 5 [(2, l0)] [(2, l0)] ds m Q) := P_nx k0_4 rfl
set_option maxRecDepth 20000 in
theorem k0_5 : mjCode 0 5 = some (.bipush 96, 2, 0, 0) := by decide +kernel
theorem p0_5 {s0 : Int} {q0 : MV} {ds : Ds} {m : Mm} {Q : Ds → Mm → List MV → Prop} : WP 0 5 [q0] [(2, s0)] ds m Q = (WP 0 7 [q0] [(0, 96), (2, s0)] ds m Q) := P_nx k0_5 rfl
set_option maxRecDepth 20000 in
theorem k0_7 : mjCode 0 7 = some (.newarray .int, 2, 10, 0) := by decide +kernel
theorem p0_7 {s0 s1 : Int} {q0 : MV} {ds : Ds} {m : Mm} {Q : Ds → Mm → List MV → Prop} : WP 0 7 [q0] [(0, s0), (2, s1)] ds m Q = (((0 ≤ s0 ∧ s0 ≤ 30000) ∧ WP 0 9 [q0] [(2, (ds.length : Int)), (2, s1)] (ds ++ [(10, s0.toNat)]) (al m (ds.length : Int) (dfl 10)) Q)) := P_gd k0_7 rfl
set_option maxRecDepth 20000 in
theorem k0_9 : mjCode 0 9 = some (.putfield 9, 3, 0, 0) := by decide +kernel
theorem p0_9 {s0 s1 : Int} {q0 : MV} {ds : Ds} {m : Mm} {Q : Ds → Mm → List MV → Prop} : WP 0 9 [q0] [(2, s0), (2, s1)] ds m Q = ((dk ds s1 = 0 ∧ WP 0 12 [q0] [] ds (up m s1 0 s0) Q)) := P_pf k0_9 rfl
set_option maxRecDepth 20000 in
theorem k0_12 : mjCode 0 12 = some (.aload_n 0, 1, 0, 0) := by decide +kernel
theorem p0_12 {l0 : Int} {ds : Ds} {m : Mm} {Q : Ds → Mm → List MV → Prop} : WP 0 12 [(2, l0)] [] ds m Q = (WP 0 13 [(2, l0)] [(2, l0)] ds m Q) := P_nx k0_12 rfl
set_option maxRecDepth 20000 in
theorem k0_13 : mjCode 0 13 = some (.bipush 96, 2, 0, 0) := by decide +kernel
theorem p0_13 {s0 : Int} {q0 : MV} {ds : Ds} {m : Mm} {Q : Ds → Mm → List MV → Prop} : WP 0 13 [q0] [(2, s0)] ds m Q = (WP 0 15 [q0] [(0, 96), (2, s0)] ds m Q) := P_nx k0_13 rfl
set_option maxRecDepth 20000 in
theorem k0_15 : mjCode 0 15 = some (.newarray .int, 2, 10, 0) := by decide +kernel
theorem p0_15 {s0 s1 : Int} {q0 : MV} {ds : Ds} {m : Mm} {Q : Ds → Mm → List MV → Prop} : WP 0 15 [q0] [(0, s0), (2, s1)] ds m Q = (((0 ≤ s0 ∧ s0 ≤ 30000) ∧ WP 0 17 [q0] [(2, (ds.length : Int)), (2, s1)] (ds ++ [(10, s0.toNat)]) (al m (ds.length : Int) (dfl 10)) Q)) := P_gd k0_15 rfl
set_option maxRecDepth 20000 in
theorem k0_17 : mjCode 0 17 = some (.putfield 15, 3, 0, 1) := by decide +kernel
theorem p0_17 {s0 s1 : Int} {q0 : MV} {ds : Ds} {m : Mm} {Q : Ds → Mm → List MV → Prop} : WP 0 17 [q0] [(2, s0), (2, s1)] ds m Q = ((dk ds s1 = 0 ∧ WP 0 20 [q0] [] ds (up m s1 1 s0) Q)) := P_pf k0_17 rfl
set_option maxRecDepth 20000 in
theorem k0_20 : mjCode 0 20 = some (.aload_n 0, 1, 0, 0) := by decide +kernel
theorem p0_20 {l0 : Int} {ds : Ds} {m : Mm} {Q : Ds → Mm → List MV → Prop} : WP 0 20 [(2, l0)] [] ds m Q = (WP 0 21 [(2, l0)] [(2, l0)] ds m Q) := P_nx k0_20 rfl
set_option maxRecDepth 20000 in
theorem k0_21 : mjCode 0 21 = some (.bipush 96, 2, 0, 0) := by decide +kernel
theorem p0_21 {s0 : Int} {q0 : MV} {ds : Ds} {m : Mm} {Q : Ds → Mm → List MV → Prop} : WP 0 21 [q0] [(2, s0)] ds m Q = (WP 0 23 [q0] [(0, 96), (2, s0)] ds m Q) := P_nx k0_21 rfl
set_option maxRecDepth 20000 in
theorem k0_23 : mjCode 0 23 = some (.newarray .int, 2, 10, 0) := by decide +kernel
theorem p0_23 {s0 s1 : Int} {q0 : MV} {ds : Ds} {m : Mm} {Q : Ds → Mm → List MV → Prop} : WP 0 23 [q0] [(0, s0), (2, s1)] ds m Q = (((0 ≤ s0 ∧ s0 ≤ 30000) ∧ WP 0 25 [q0] [(2, (ds.length : Int)), (2, s1)] (ds ++ [(10, s0.toNat)]) (al m (ds.length : Int) (dfl 10)) Q)) := P_gd k0_23 rfl
set_option maxRecDepth 20000 in
theorem k0_25 : mjCode 0 25 = some (.putfield 18, 3, 0, 2) := by decide +kernel
theorem p0_25 {s0 s1 : Int} {q0 : MV} {ds : Ds} {m : Mm} {Q : Ds → Mm → List MV → Prop} : WP 0 25 [q0] [(2, s0), (2, s1)] ds m Q = ((dk ds s1 = 0 ∧ WP 0 28 [q0] [] ds (up m s1 2 s0) Q)) := P_pf k0_25 rfl
set_option maxRecDepth 20000 in
theorem k0_28 : mjCode 0 28 = some (.aload_n 0, 1, 0, 0) := by decide +kernel
theorem p0_28 {l0 : Int} {ds : Ds} {m : Mm} {Q : Ds → Mm → List MV → Prop} : WP 0 28 [(2, l0)] [] ds m Q = (WP 0 29 [(2, l0)] [(2, l0)] ds m Q) := P_nx k0_28 rfl
set_option maxRecDepth 20000 in
theorem k0_29 : mjCode 0 29 = some (.bipush 96, 2, 0, 0) := by decide +kernel
theorem p0_29 {s0 : Int} {q0 : MV} {ds : Ds} {m : Mm} {Q : Ds → Mm → List MV → Prop} : WP 0 29 [q0] [(2, s0)] ds m Q = (WP 0 31 [q0] [(0, 96), (2, s0)] ds m Q) := P_nx k0_29 rfl
set_option maxRecDepth 20000 in
theorem k0_31 : mjCode 0 31 = some (.newarray .int, 2, 10, 0) := by decide +kernel
theorem p0_31 {s0 s1 : Int} {q0 : MV} {ds : Ds} {m : Mm} {Q : Ds → Mm → List MV → Prop} : WP 0 31 [q0] [(0, s0), (2, s1)] ds m Q = (((0 ≤ s0 ∧ s0 ≤ 30000) ∧ WP 0 33 [q0] [(2, (ds.length : Int)), (2, s1)] (ds ++ [(10, s0.toNat)]) (al m (ds.length : Int) (dfl 10)) Q)) := P_gd k0_31 rfl
set_option maxRecDepth 20000 in
theorem k0_33 : mjCode 0 33 = some (.putfield 21, 3, 0, 3) := by decide +kernel
theorem p0_33 {s0 s1 : Int} {q0 : MV} {ds : Ds} {m : Mm} {Q : Ds → Mm → List MV → Prop} : WP 0 33 [q0] [(2, s0), (2, s1)] ds m Q = ((dk ds s1 = 0 ∧ WP 0 36 [q0] [] ds (up m s1 3 s0) Q)) := P_pf k0_33 rfl
set_option maxRecDepth 20000 in
theorem k0_36 : mjCode 0 36 = some (.aload_n 0, 1, 0, 0) := by decide +kernel
theorem p0_36 {l0 : Int} {ds : Ds} {m : Mm} {Q : Ds → Mm → List MV → Prop} : WP 0 36 [(2, l0)] [] ds m Q = (WP 0 37 [(2, l0)] [(2, l0)] ds m Q) := P_nx k0_36 rfl
set_option maxRecDepth 20000 in
theorem k0_37 : mjCode 0 37 = some (.bipush 96, 2, 0, 0) := by decide +kernel
theorem p0_37 {s0 : Int} {q0 : MV} {ds : Ds} {m : Mm} {Q : Ds → Mm → List MV → Prop} : WP 0 37 [q0] [(2, s0)] ds m Q = (WP 0 39 [q0] [(0, 96), (2, s0)] ds m Q) := P_nx k0_37 rfl
set_option maxRecDepth 20000 in
theorem k0_39 : mjCode 0 39 = some (.newarray .int, 2, 10, 0) := by decide +kernel
theorem p0_39 {s0 s1 : Int} {q0 : MV} {ds : Ds} {m : Mm} {Q : Ds → Mm → List MV → Prop} : WP 0 39 [q0] [(0, s0), (2, s1)] ds m Q = (((0 ≤ s0 ∧ s0 ≤ 30000) ∧ WP 0 41 [q0] [(2, (ds.length : Int)), (2, s1)] (ds ++ [(10, s0.toNat)]) (al m (ds.length : Int) (dfl 10)) Q)) := P_gd k0_39 rfl
set_option maxRecDepth 20000 in
theorem k0_41 : mjCode 0 41 = some (.putfield 24, 3, 0, 4) := by decide +kernel
theorem p0_41 {s0 s1 : Int} {q0 : MV} {ds : Ds} {m : Mm} {Q : Ds → Mm → List MV → Prop} : WP 0 41 [q0] [(2, s0), (2, s1)] ds m Q = ((dk ds s1 = 0 ∧ WP 0 44 [q0] [] ds (up m s1 4 s0) Q)) := P_pf k0_41 rfl
set_option maxRecDepth 20000 in
theorem k0_44 : mjCode 0 44 = some (.aload_n 0, 1, 0, 0) := by decide +kernel
theorem p0_44 {l0 : Int} {ds : Ds} {m : Mm} {Q : Ds → Mm → List MV → Prop} : WP 0 44 [(2, l0)] [] ds m Q = (WP 0 45 [(2, l0)] [(2, l0)] ds m Q) := P_nx k0_44 rfl
set_option maxRecDepth 20000 in
theorem k0_45 : mjCode 0 45 = some (.bipush 96, 2, 0, 0) := by decide +kernel
theorem p0_45 {s0 : Int} {q0 : MV} {ds : Ds} {m : Mm} {Q : Ds → Mm → List MV → Prop} : WP 0 45 [q0] [(2, s0)] ds m Q = (WP 0 47 [q0] [(0, 96), (2, s0)] ds m Q) := P_nx k0_45 rfl
set_option maxRecDepth 20000 in
theorem k0_47 : mjCode 0 47 = some (.newarray .boolean, 2, 11, 0) := by decide +kernel
theorem p0_47 {s0 s1 : Int} {q0 : MV} {ds : Ds} {m : Mm} {Q : Ds → Mm → List MV → Prop} : WP 0 47 [q0] [(0, s0), (2, s1)] ds m Q = (((0 ≤ s0 ∧ s0 ≤ 30000) ∧ WP 0 49 [q0] [(2, (ds.length : Int)), (2, s1)] (ds ++ [(11, s0.toNat)]) (al m (ds.length : Int) (dfl 11)) Q)) := P_gd k0_47 rfl
set_option maxRecDepth 20000 in
theorem k0_49 : mjCode 0 49 = some (.putfield 27, 3, 0, 5) := by decide +kernel
theorem p0_49 {s0 s1 : Int} {q0 : MV} {ds : Ds} {m : Mm} {Q : Ds → Mm → List MV → Prop} : WP 0 49 [q0] [(2, s0), (2, s1)] ds m Q = ((dk ds s1 = 0 ∧ WP 0 52 [q0] [] ds (up m s1 5 s0) Q)) := P_pf k0_49 rfl
set_option maxRecDepth 20000 in
theorem k0_52 : mjCode 0 52 = some (.return_, 1, 0, 0) := by decide +kernel
theorem p0_52 {q0 : MV} {ds : Ds} {m : Mm} {Q : Ds → Mm → List MV → Prop} : WP 0 52 [q0] [] ds m Q = (Q ds m []) := P_rv k0_52 rk0
set_option maxRecDepth 20000 in
theorem k1_0 : mjCode 1 0 = some (.aload_n 0, 1, 0, 0) := by decide +kernel
theorem p1_0 {l0 : Int} {q1 q2 : MV} {ds : Ds} {m : Mm} {Q : Ds → Mm → List MV → Prop} : WP 1 0 [(2, l0), q1, q2] [] ds m Q = (WP 1 1 [(2, l0), q1, q2] [(2, l0)] ds m Q) := P_nx k1_0 rfl
set_option maxRecDepth 20000 in
theorem k1_1 : mjCode 1 1 = some (.iconst 0, 1, 0, 0) := by decide +kernel
theorem p1_1 {s0 : Int} {q0 q1 q2 : MV} {ds : Ds} {m : Mm} {Q : Ds → Mm → List MV → Prop} : WP 1 1 [q0, q1, q2] [(2, s0)] ds m Q = (WP 1 2 [q0, q1, q2] [(0, 0), (2, s0)] ds m Q) := P_nx k1_1 rfl
set_option maxRecDepth 20000 in
theorem k1_2 : mjCode 1 2 = some (.putfield 31, 3, 0, 6) := by decide +kernel
theorem p1_2 {s0 s1 : Int} {q0 q1 q2 : MV} {ds : Ds} {m : Mm} {Q : Ds → Mm → List MV → Prop} : WP 1 2 [q0, q1, q2] [(0, s0), (2, s1)] ds m Q = ((dk ds s1 = 0 ∧ WP 1 5 [q0, q1, q2] [] ds (up m s1 6 s0) Q)) := P_pf k1_2 rfl
set_option maxRecDepth 20000 in
theorem k1_5 : mjCode 1 5 = some (.aload_n 0, 1, 0, 0) := by decide +kernel
theorem p1_5 {l0 : Int} {q1 q2 : MV} {ds : Ds} {m : Mm} {Q : Ds → Mm → List MV → Prop} : WP 1 5 [(2, l0), q1, q2] [] ds m Q = (WP 1 6 [(2, l0), q1, q2] [(2, l0)] ds m Q) := P_nx k1_5 rfl
set_option maxRecDepth 20000 in
theorem k1_6 : mjCode 1 6 = some (.iconst 0, 1, 0, 0) := by decide +kernel
theorem p1_6 {s0 : Int} {q0 q1 q2 : MV} {ds : Ds} {m : Mm} {Q : Ds → Mm → List MV → Prop} : WP 1 6 [q0, q1, q2] [(2, s0)] ds m Q = (WP 1 7 [q0, q1, q2] [(0, 0), (2, s0)] ds m Q) := P_nx k1_6 rfl
set_option maxRecDepth 20000 in
theorem k1_7 : mjCode 1 7 = some (.putfield 35, 3, 0, 7) := by decide +kernel
theorem p1_7 {s0 s1 : Int} {q0 q1 q2 : MV} {ds : Ds} {m : Mm} {Q : Ds → Mm → List MV → Prop} : WP 1 7 [q0, q1, q2] [(0, s0), (2, s1)] ds m Q = ((dk ds s1 = 0 ∧ WP 1 10 [q0, q1, q2] [] ds (up m s1 7 s0) Q)) := P_pf k1_7 rfl
set_option maxRecDepth 20000 in
theorem k1_10 : mjCode 1 10 = some (.aload_n 0, 1, 0, 0) := by decide +kernel
theorem p1_10 {l0 : Int} {q1 q2 : MV} {ds : Ds} {m : Mm} {Q : Ds → Mm → List MV → Prop} : WP 1 10 [(2, l0), q1, q2] [] ds m Q = (WP 1 11 [(2, l0), q1, q2] [(2, l0)] ds m Q) := P_nx k1_10 rfl
set_option maxRecDepth 20000 in
theorem k1_11 : mjCode 1 11 = some (.iconst 0, 1, 0, 0) := by decide +kernel
theorem p1_11 {s0 : Int} {q0 q1 q2 : MV} {ds : Ds} {m : Mm} {Q : Ds → Mm → List MV → Prop} : WP 1 11 [q0, q1, q2] [(2, s0)] ds m Q = (WP 1 12 [q0, q1, q2] [(0, 0), (2, s0)] ds m Q) := P_nx k1_11 rfl
set_option maxRecDepth 20000 in
theorem k1_12 : mjCode 1 12 = some (.putfield 38, 3, 0, 8) := by decide +kernel
theorem p1_12 {s0 s1 : Int} {q0 q1 q2 : MV} {ds : Ds} {m : Mm} {Q : Ds → Mm → List MV → Prop} : WP 1 12 [q0, q1, q2] [(0, s0), (2, s1)] ds m Q = ((dk ds s1 = 0 ∧ WP 1 15 [q0, q1, q2] [] ds (up m s1 8 s0) Q)) := P_pf k1_12 rfl
set_option maxRecDepth 20000 in
theorem k1_15 : mjCode 1 15 = some (.iconst 0, 1, 0, 0) := by decide +kernel
theorem p1_15 {q0 q1 q2 : MV} {ds : Ds} {m : Mm} {Q : Ds → Mm → List MV → Prop} : WP 1 15 [q0, q1, q2] [] ds m Q = (WP 1 16 [q0, q1, q2] [(0, 0)] ds m Q) := P_nx k1_15 rfl
set_option maxRecDepth 20000 in
theorem k1_16 : mjCode 1 16 = some (.istore_n 2, 1, 0, 0) := by decide +kernel
theorem p1_16 {l1 s0 : Int} {q0 q2 : MV} {ds : Ds} {m : Mm} {Q : Ds → Mm → List MV → Prop} : WP 1 16 [q0, (2, l1), q2] [(0, s0)] ds m Q = (WP 1 17 [q0, (2, l1), (0, s0)] [] ds m Q) := P_nx k1_16 rfl
set_option maxRecDepth 20000 in
theorem k1_17 : mjCode 1 17 = some (.iload_n 2, 1, 0, 0) := by decide +kernel
theorem p1_17 {l2 : Int} {q0 q1 : MV} {ds : Ds} {m : Mm} {Q : Ds → Mm → List MV → Prop} : WP 1 17 [q0, q1, (0, l2)] [] ds m Q = (WP 1 18 [q0, q1, (0, l2)] [(0, l2)] ds m Q) := P_nx k1_17 rfl
set_option maxRecDepth 20000 in
theorem k1_18 : mjCode 1 18 = some (.bipush 96, 2, 0, 0) := by decide +kernel
theorem p1_18 {s0 : Int} {q0 q1 q2 : MV} {ds : Ds} {m : Mm} {Q : Ds → Mm → List MV → Prop} : WP 1 18 [q0, q1, q2] [(0, s0)] ds m Q = (WP 1 20 [q0, q1, q2] [(0, 96), (0, s0)] ds m Q) := P_nx k1_18 rfl
set_option maxRecDepth 20000 in
theorem k1_20 : mjCode 1 20 = some (.if_icmp .ge 73, 3, 93, 0) := by decide +kernel
theorem p1_20 {s0 s1 : Int} {q0 q1 q2 : MV} {ds : Ds} {m : Mm} {Q : Ds → Mm → List MV → Prop} : WP 1 20 [q0, q1, q2] [(0, s0), (0, s1)] ds m Q = (if s1 < s0 then WP 1 23 [q0, q1, q2] [] ds m Q else WP 1 93 [q0, q1, q2] [] ds m Q) := P_if k1_20 rfl
set_option maxRecDepth 20000 in
theorem k1_23 : mjCode 1 23 = some (.aload_n 0, 1, 0, 0) := by decide +kernel
theorem p1_23 {l0 : Int} {q1 q2 : MV} {ds : Ds} {m : Mm} {Q : Ds → Mm → List MV → Prop} : WP 1 23 [(2, l0), q1, q2] [] ds m Q = (WP 1 24 [(2, l0), q1, q2] [(2, l0)] ds m Q) := P_nx k1_23 rfl
set_option maxRecDepth 20000 in
theorem k1_24 : mjCode 1 24 = some (.getfield 9, 3, 0, 0) := by decide +kernel
theorem p1_24 {s0 : Int} {q0 q1 q2 : MV} {ds : Ds} {m : Mm} {Q : Ds → Mm → List MV → Prop} : WP 1 24 [q0, q1, q2] [(2, s0)] ds m Q = ((dk ds s0 = 0 ∧ WP 1 27 [q0, q1, q2] [(2, m s0 0)] ds m Q)) := P_gd k1_24 rfl
set_option maxRecDepth 20000 in
theorem k1_27 : mjCode 1 27 = some (.iload_n 2, 1, 0, 0) := by decide +kernel
theorem p1_27 {l2 s0 : Int} {q0 q1 : MV} {ds : Ds} {m : Mm} {Q : Ds → Mm → List MV → Prop} : WP 1 27 [q0, q1, (0, l2)] [(2, s0)] ds m Q = (WP 1 28 [q0, q1, (0, l2)] [(0, l2), (2, s0)] ds m Q) := P_nx k1_27 rfl
set_option maxRecDepth 20000 in
theorem k1_28 : mjCode 1 28 = some (.iconst (-1), 1, 0, 0) := by decide +kernel
theorem p1_28 {s0 s1 : Int} {q0 q1 q2 : MV} {ds : Ds} {m : Mm} {Q : Ds → Mm → List MV → Prop} : WP 1 28 [q0, q1, q2] [(0, s0), (2, s1)] ds m Q = (WP 1 29 [q0, q1, q2] [(0, (-1)), (0, s0), (2, s1)] ds m Q) := P_nx k1_28 rfl
set_option maxRecDepth 20000 in
theorem k1_29 : mjCode 1 29 = some (.iastore, 1, 0, 0) := by decide +kernel
theorem p1_29 {s0 s1 s2 : Int} {q0 q1 q2 : MV} {ds : Ds} {m : Mm} {Q : Ds → Mm → List MV → Prop} : WP 1 29 [q0, q1, q2] [(0, s0), (0, s1), (2, s2)] ds m Q = ((dk ds s2 = 10 ∧ 0 ≤ s1 ∧ s1 < dl ds s2 ∧ WP 1 30 [q0, q1, q2] [] ds (up m s2 s1 s0) Q)) := P_s3 k1_29 rfl
set_option maxRecDepth 20000 in
theorem k1_30 : mjCode 1 30 = some (.aload_n 1, 1, 0, 0) := by decide +kernel
theorem p1_30 {l1 : Int} {q0 q2 : MV} {ds : Ds} {m : Mm} {Q : Ds → Mm → List MV → Prop} : WP 1 30 [q0, (2, l1), q2] [] ds m Q = (WP 1 31 [q0, (2, l1), q2] [(2, l1)] ds m Q) := P_nx k1_30 rfl
set_option maxRecDepth 20000 in
theorem k1_31 : mjCode 1 31 = some (.iload_n 2, 1, 0, 0) := by decide +kernel
theorem p1_31 {l2 s0 : Int} {q0 q1 : MV} {ds : Ds} {m : Mm} {Q : Ds → Mm → List MV → Prop} : WP 1 31 [q0, q1, (0, l2)] [(2, s0)] ds m Q = (WP 1 32 [q0, q1, (0, l2)] [(0, l2), (2, s0)] ds m Q) := P_nx k1_31 rfl
set_option maxRecDepth 20000 in
theorem k1_32 : mjCode 1 32 = some (.invokevirtual 41, 3, 29, 2) := by decide +kernel
theorem p1_32 {s0 s1 : Int} {q0 q1 q2 : MV} {ds : Ds} {m : Mm} {Q : Ds → Mm → List MV → Prop} : WP 1 32 [q0, q1, q2] [(0, s0), (2, s1)] ds m Q = ((dk ds s1 = 3 ∧ WP 28 0 [(2, s1), (0, s0)] [] ds m (fun d2 m2 r2 => WP 1 35 [q0, q1, q2] (r2 ++ []) d2 m2 Q))) := P_cv k1_32 mx28 mo28 rfl rfl rfl rfl rfl rfl rfl rfl
set_option maxRecDepth 20000 in
theorem k1_35 : mjCode 1 35 = some (.ifCond .eq 52, 3, 87, 0) := by decide +kernel
theorem p1_35 {s0 : Int} {q0 q1 q2 : MV} {ds : Ds} {m : Mm} {Q : Ds → Mm → List MV → Prop} : WP 1 35 [q0, q1, q2] [(0, s0)] ds m Q = (if s0 = 0 then WP 1 87 [q0, q1, q2] [] ds m Q else WP 1 38 [q0, q1, q2] [] ds m Q) := P_if k1_35 rfl
set_option maxRecDepth 20000 in
theorem k1_38 : mjCode 1 38 = some (.aload_n 0, 1, 0, 0) := by decide +kernel
theorem p1_38 {l0 : Int} {q1 q2 : MV} {ds : Ds} {m : Mm} {Q : Ds → Mm → List MV → Prop} : WP 1 38 [(2, l0), q1, q2] [] ds m Q = (WP 1 39 [(2, l0), q1, q2] [(2, l0)] ds m Q) := P_nx k1_38 rfl
set_option maxRecDepth 20000 in
theorem k1_39 : mjCode 1 39 = some (.getfield 31, 3, 0, 6) := by decide +kernel
theorem p1_39 {s0 : Int} {q0 q1 q2 : MV} {ds : Ds} {m : Mm} {Q : Ds → Mm → List MV → Prop} : WP 1 39 [q0, q1, q2] [(2, s0)] ds m Q = ((dk ds s0 = 0 ∧ WP 1 42 [q0, q1, q2] [(0, m s0 6)] ds m Q)) := P_gd k1_39 rfl
set_option maxRecDepth 20000 in
theorem k1_42 : mjCode 1 42 = some (.bipush 96, 2, 0, 0) := by decide +kernel
theorem p1_42 {s0 : Int} {q0 q1 q2 : MV} {ds : Ds} {m : Mm} {Q : Ds → Mm → List MV → Prop} : WP 1 42 [q0, q1, q2] [(0, s0)] ds m Q = (WP 1 44 [q0, q1, q2] [(0, 96), (0, s0)] ds m Q) := P_nx k1_42 rfl
set_option maxRecDepth 20000 in
theorem k1_44 : mjCode 1 44 = some (.if_icmp .ge 43, 3, 87, 0) := by decide +kernel
theorem p1_44 {s0 s1 : Int} {q0 q1 q2 : MV} {ds : Ds} {m : Mm} {Q : Ds → Mm → List MV → Prop} : WP 1 44 [q0, q1, q2] [(0, s0), (0, s1)] ds m Q = (if s1 < s0 then WP 1 47 [q0, q1, q2] [] ds m Q else WP 1 87 [q0, q1, q2] [] ds m Q) := P_if k1_44 rfl
set_option maxRecDepth 20000 in
theorem k1_47 : mjCode 1 47 = some (.aload_n 0, 1, 0, 0) := by decide +kernel
theorem p1_47 {l0 : Int} {q1 q2 : MV} {ds : Ds} {m : Mm} {Q : Ds → Mm → List MV → Prop} : WP 1 47 [(2, l0), q1, q2] [] ds m Q = (WP 1 48 [(2, l0), q1, q2] [(2, l0)] ds m Q) := P_nx k1_47 rfl
set_option maxRecDepth 20000 in
theorem k1_48 : mjCode 1 48 = some (.getfield 9, 3, 0, 0) := by decide +kernel
theorem p1_48 {s0 : Int} {q0 q1 q2 : MV} {ds : Ds} {m : Mm} {Q : Ds → Mm → List MV → Prop} : WP 1 48 [q0, q1, q2] [(2, s0)] ds m Q = ((dk ds s0 = 0 ∧ WP 1 51 [q0, q1, q2] [(2, m s0 0)] ds m Q)) := P_gd k1_48 rfl
set_option maxRecDepth 20000 in
theorem k1_51 : mjCode 1 51 = some (.iload_n 2, 1, 0, 0) := by decide +kernel
theorem p1_51 {l2 s0 : Int} {q0 q1 : MV} {ds : Ds} {m : Mm} {Q : Ds → Mm → List MV → Prop} : WP 1 51 [q0, q1, (0, l2)] [(2, s0)] ds m Q = (WP 1 52 [q0, q1, (0, l2)] [(0, l2), (2, s0)] ds m Q) := P_nx k1_51 rfl
set_option maxRecDepth 20000 in
theorem k1_52 : mjCode 1 52 = some (.aload_n 0, 1, 0, 0) := by decide +kernel
theorem p1_52 {l0 s0 s1 : Int} {q1 q2 : MV} {ds : Ds} {m : Mm} {Q : Ds → Mm → List MV → Prop} : WP 1 52 [(2, l0), q1, q2] [(0, s0), (2, s1)] ds m Q = (WP 1 53 [(2, l0), q1, q2] [(2, l0), (0, s0), (2, s1)] ds m Q) := P_nx k1_52 rfl
set_option maxRecDepth 20000 in
theorem k1_53 : mjCode 1 53 = some (.getfield 31, 3, 0, 6) := by decide +kernel
theorem p1_53 {s0 s1 s2 : Int} {q0 q1 q2 : MV} {ds : Ds} {m : Mm} {Q : Ds → Mm → List MV → Prop} : WP 1 53 [q0, q1, q2] [(2, s0), (0, s1), (2, s2)] ds m Q = ((dk ds s0 = 0 ∧ WP 1 56 [q0, q1, q2] [(0, m s0 6), (0, s1), (2, s2)] ds m Q)) := P_gd k1_53 rfl
set_option maxRecDepth 20000 in
theorem k1_56 : mjCode 1 56 = some (.iastore, 1, 0, 0) := by decide +kernel
theorem p1_56 {s0 s1 s2 : Int} {q0 q1 q2 : MV} {ds : Ds} {m : Mm} {Q : Ds → Mm → List MV → Prop} : WP 1 56 [q0, q1, q2] [(0, s0), (0, s1), (2, s2)] ds m Q = ((dk ds s2 = 10 ∧ 0 ≤ s1 ∧ s1 < dl ds s2 ∧ WP 1 57 [q0, q1, q2] [] ds (up m s2 s1 s0) Q)) := P_s3 k1_56 rfl
set_option maxRecDepth 20000 in
theorem k1_57 : mjCode 1 57 = some (.aload_n 0, 1, 0, 0) := by decide +kernel
theorem p1_57 {l0 : Int} {q1 q2 : MV} {ds : Ds} {m : Mm} {Q : Ds → Mm → List MV → Prop} : WP 1 57 [(2, l0), q1, q2] [] ds m Q = (WP 1 58 [(2, l0), q1, q2] [(2, l0)] ds m Q) := P_nx k1_57 rfl
set_option maxRecDepth 20000 in
theorem k1_58 : mjCode 1 58 = some (.getfield 15, 3, 0, 1) := by decide +kernel
theorem p1_58 {s0 : Int} {q0 q1 q2 : MV} {ds : Ds} {m : Mm} {Q : Ds → Mm → List MV → Prop} : WP 1 58 [q0, q1, q2] [(2, s0)] ds m Q = ((dk ds s0 = 0 ∧ WP 1 61 [q0, q1, q2] [(2, m s0 1)] ds m Q)) := P_gd k1_58 rfl
set_option maxRecDepth 20000 in
theorem k1_61 : mjCode 1 61 = some (.aload_n 0, 1, 0, 0) := by decide +kernel
theorem p1_61 {l0 s0 : Int} {q1 q2 : MV} {ds : Ds} {m : Mm} {Q : Ds → Mm → List MV → Prop} : WP 1 61 [(2, l0), q1, q2] [(2, s0)] ds m Q = (WP 1 62 [(2, l0), q1, q2] [(2, l0), (2, s0)] ds m Q) := P_nx k1_61 rfl
set_option maxRecDepth 20000 in
theorem k1_62 : mjCode 1 62 = some (.getfield 31, 3, 0, 6) := by decide +kernel
theorem p1_62 {s0 s1 : Int} {q0 q1 q2 : MV} {ds : Ds} {m : Mm} {Q : Ds → Mm → List MV → Prop} : WP 1 62 [q0, q1, q2] [(2, s0), (2, s1)] ds m Q = ((dk ds s0 = 0 ∧ WP 1 65 [q0, q1, q2] [(0, m s0 6), (2, s1)] ds m Q)) := P_gd k1_62 rfl
set_option maxRecDepth 20000 in
theorem k1_65 : mjCode 1 65 = some (.iload_n 2, 1, 0, 0) := by decide +kernel
theorem p1_65 {l2 s0 s1 : Int} {q0 q1 : MV} {ds : Ds} {m : Mm} {Q : Ds → Mm → List MV → Prop} : WP 1 65 [q0, q1, (0, l2)] [(0, s0), (2, s1)] ds m Q = (WP 1 66 [q0, q1, (0, l2)] [(0, l2), (0, s0), (2, s1)] ds m Q) := P_nx k1_65 rfl
set_option maxRecDepth 20000 in
theorem k1_66 : mjCode 1 66 = some (.iastore, 1, 0, 0) := by decide +kernel
theorem p1_66 {s0 s1 s2 : Int} {q0 q1 q2 : MV} {ds : Ds} {m : Mm} {Q : Ds → Mm → List MV → Prop} : WP 1 66 [q0, q1, q2] [(0, s0), (0, s1), (2, s2)] ds m Q = ((dk ds s2 = 10 ∧ 0 ≤ s1 ∧ s1 < dl ds s2 ∧ WP 1 67 [q0, q1, q2] [] ds (up m s2 s1 s0) Q)) := P_s3 k1_66 rfl
set_option maxRecDepth 20000 in
theorem k1_67 : mjCode 1 67 = some (.aload_n 0, 1, 0, 0) := by decide +kernel
theorem p1_67 {l0 : Int} {q1 q2 : MV} {ds : Ds} {m : Mm} {Q : Ds → Mm → List MV → Prop} : WP 1 67 [(2, l0), q1, q2] [] ds m Q = (WP 1 68 [(2, l0), q1, q2] [(2, l0)] ds m Q) := P_nx k1_67 rfl
set_option maxRecDepth 20000 in
theorem k1_68 : mjCode 1 68 = some (.getfield 18, 3, 0, 2) := by decide +kernel
theorem p1_68 {s0 : Int} {q0 q1 q2 : MV} {ds : Ds} {m : Mm} {Q : Ds → Mm → List MV → Prop} : WP 1 68 [q0, q1, q2] [(2, s0)] ds m Q = ((dk ds s0 = 0 ∧ WP 1 71 [q0, q1, q2] [(2, m s0 2)] ds m Q)) := P_gd k1_68 rfl
set_option maxRecDepth 20000 in
theorem k1_71 : mjCode 1 71 = some (.aload_n 0, 1, 0, 0) := by decide +kernel
theorem p1_71 {l0 s0 : Int} {q1 q2 : MV} {ds : Ds} {m : Mm} {Q : Ds → Mm → List MV → Prop} : WP 1 71 [(2, l0), q1, q2] [(2, s0)] ds m Q = (WP 1 72 [(2, l0), q1, q2] [(2, l0), (2, s0)] ds m Q) := P_nx k1_71 rfl
set_option maxRecDepth 20000 in
theorem k1_72 : mjCode 1 72 = some (.getfield 31, 3, 0, 6) := by decide +kernel
theorem p1_72 {s0 s1 : Int} {q0 q1 q2 : MV} {ds : Ds} {m : Mm} {Q : Ds → Mm → List MV → Prop} : WP 1 72 [q0, q1, q2] [(2, s0), (2, s1)] ds m Q = ((dk ds s0 = 0 ∧ WP 1 75 [q0, q1, q2] [(0, m s0 6), (2, s1)] ds m Q)) := P_gd k1_72 rfl
set_option maxRecDepth 20000 in
theorem k1_75 : mjCode 1 75 = some (.iconst (-1), 1, 0, 0) := by decide +kernel
theorem p1_75 {s0 s1 : Int} {q0 q1 q2 : MV} {ds : Ds} {m : Mm} {Q : Ds → Mm → List MV → Prop} : WP 1 75 [q0, q1, q2] [(0, s0), (2, s1)] ds m Q = (WP 1 76 [q0, q1, q2] [(0, (-1)), (0, s0), (2, s1)] ds m Q) := P_nx k1_75 rfl
set_option maxRecDepth 20000 in
theorem k1_76 : mjCode 1 76 = some (.iastore, 1, 0, 0) := by decide +kernel
theorem p1_76 {s0 s1 s2 : Int} {q0 q1 q2 : MV} {ds : Ds} {m : Mm} {Q : Ds → Mm → List MV → Prop} : WP 1 76 [q0, q1, q2] [(0, s0), (0, s1), (2, s2)] ds m Q = ((dk ds s2 = 10 ∧ 0 ≤ s1 ∧ s1 < dl ds s2 ∧ WP 1 77 [q0, q1, q2] [] ds (up m s2 s1 s0) Q)) := P_s3 k1_76 rfl
set_option maxRecDepth 20000 in
theorem k1_77 : mjCode 1 77 = some (.aload_n 0, 1, 0, 0) := by decide +kernel
theorem p1_77 {l0 : Int} {q1 q2 : MV} {ds : Ds} {m : Mm} {Q : Ds → Mm → List MV → Prop} : WP 1 77 [(2, l0), q1, q2] [] ds m Q = (WP 1 78 [(2, l0), q1, q2] [(2, l0)] ds m Q) := P_nx k1_77 rfl
set_option maxRecDepth 20000 in
theorem k1_78 : mjCode 1 78 = some (.dup, 1, 0, 0) := by decide +kernel
theorem p1_78 {s0 : Int} {q0 q1 q2 : MV} {ds : Ds} {m : Mm} {Q : Ds → Mm → List MV → Prop} : WP 1 78 [q0, q1, q2] [(2, s0)] ds m Q = (WP 1 79 [q0, q1, q2] [(2, s0), (2, s0)] ds m Q) := P_nx k1_78 rfl
set_option maxRecDepth 20000 in
theorem k1_79 : mjCode 1 79 = some (.getfield 31, 3, 0, 6) := by decide +kernel
theorem p1_79 {s0 s1 : Int} {q0 q1 q2 : MV} {ds : Ds} {m : Mm} {Q : Ds → Mm → List MV → Prop} : WP 1 79 [q0, q1, q2] [(2, s0), (2, s1)] ds m Q = ((dk ds s0 = 0 ∧ WP 1 82 [q0, q1, q2] [(0, m s0 6), (2, s1)] ds m Q)) := P_gd k1_79 rfl
set_option maxRecDepth 20000 in
theorem k1_82 : mjCode 1 82 = some (.iconst 1, 1, 0, 0) := by decide +kernel
theorem p1_82 {s0 s1 : Int} {q0 q1 q2 : MV} {ds : Ds} {m : Mm} {Q : Ds → Mm → List MV → Prop} : WP 1 82 [q0, q1, q2] [(0, s0), (2, s1)] ds m Q = (WP 1 83 [q0, q1, q2] [(0, 1), (0, s0), (2, s1)] ds m Q) := P_nx k1_82 rfl
set_option maxRecDepth 20000 in
theorem k1_83 : mjCode 1 83 = some (.iadd, 1, 0, 0) := by decide +kernel
theorem p1_83 {s0 s1 s2 : Int} {q0 q1 q2 : MV} {ds : Ds} {m : Mm} {Q : Ds → Mm → List MV → Prop} : WP 1 83 [q0, q1, q2] [(0, s0), (0, s1), (2, s2)] ds m Q = (WP 1 84 [q0, q1, q2] [(0, w32 (s1 + s0)), (2, s2)] ds m Q) := P_nx k1_83 rfl
set_option maxRecDepth 20000 in
theorem k1_84 : mjCode 1 84 = some (.putfield 31, 3, 0, 6) := by decide +kernel
theorem p1_84 {s0 s1 : Int} {q0 q1 q2 : MV} {ds : Ds} {m : Mm} {Q : Ds → Mm → List MV → Prop} : WP 1 84 [q0, q1, q2] [(0, s0), (2, s1)] ds m Q = ((dk ds s1 = 0 ∧ WP 1 87 [q0, q1, q2] [] ds (up m s1 6 s0) Q)) := P_pf k1_84 rfl
set_option maxRecDepth 20000 in
theorem k1_87 : mjCode 1 87 = some (.iinc 2 1, 3, 0, 0) := by decide +kernel
theorem p1_87 {l2 : Int} {q0 q1 : MV} {ds : Ds} {m : Mm} {Q : Ds → Mm → List MV → Prop} : WP 1 87 [q0, q1, (0, l2)] [] ds m Q = (WP 1 90 [q0, q1, (0, w32 (l2 + 1))] [] ds m Q) := P_nx k1_87 rfl
set_option maxRecDepth 20000 in
theorem k1_90 : mjCode 1 90 = some (.goto (-73), 3, 17, 0) := by decide +kernel
theorem p1_90 {q0 q1 q2 : MV} {ds : Ds} {m : Mm} {Q : Ds → Mm → List MV → Prop} : WP 1 90 [q0, q1, q2] [] ds m Q = (WP 1 17 [q0, q1, q2] [] ds m Q) := P_nx k1_90 rfl
set_option maxRecDepth 20000 in
theorem k1_93 : mjCode 1 93 = some (.return_, 1, 0, 0) := by decide +kernel
theorem p1_93 {q0 q1 q2 : MV} {ds : Ds} {m : Mm} {Q : Ds → Mm → List MV → Prop} : WP 1 93 [q0, q1, q2] [] ds m Q = (Q ds m []) := P_rv k1_93 rk1
set_option maxRecDepth 20000 in
theorem k2_0 : mjCode 2 0 = some (.iload_n 1, 1, 0, 0) := by decide +kernel
theorem p2_0 {l1 : Int} {q0 : MV} {ds : Ds} {m : Mm} {Q : Ds → Mm → List MV → Prop} : WP 2 0 [q0, (0, l1)] [] ds m Q = (WP 2 1 [q0, (0, l1)] [(0, l1)] ds m Q) := P_nx k2_0 rfl
set_option maxRecDepth 20000 in
theorem k2_1 : mjCode 2 1 = some (.ifCond .lt 21, 3, 22, 0) := by decide +kernel
theorem p2_1 {s0 : Int} {q0 q1 : MV} {ds : Ds} {m : Mm} {Q : Ds → Mm → List MV → Prop} : WP 2 1 [q0, q1] [(0, s0)] ds m Q = (if s0 < 0 then WP 2 22 [q0, q1] [] ds m Q else WP 2 4 [q0, q1] [] ds m Q) := P_if k2_1 rfl
set_option maxRecDepth 20000 in
theorem k2_4 : mjCode 2 4 = some (.iload_n 1, 1, 0, 0) := by decide +kernel
theorem p2_4 {l1 : Int} {q0 : MV} {ds : Ds} {m : Mm} {Q : Ds → Mm → List MV → Prop} : WP 2 4 [q0, (0, l1)] [] ds m Q = (WP 2 5 [q0, (0, l1)] [(0, l1)] ds m Q) := P_nx k2_4 rfl
set_option maxRecDepth 20000 in
theorem k2_5 : mjCode 2 5 = some (.aload_n 0, 1, 0, 0) := by decide +kernel
theorem p2_5 {l0 s0 : Int} {q1 : MV} {ds : Ds} {m : Mm} {Q : Ds → Mm → List MV → Prop} : WP 2 5 [(2, l0), q1] [(0, s0)] ds m Q = (WP 2 6 [(2, l0), q1] [(2, l0), (0, s0)] ds m Q) := P_nx k2_5 rfl
set_option maxRecDepth 20000 in
theorem k2_6 : mjCode 2 6 = some (.getfield 31, 3, 0, 6) := by decide +kernel
theorem p2_6 {s0 s1 : Int} {q0 q1 : MV} {ds : Ds} {m : Mm} {Q : Ds → Mm → List MV → Prop} : WP 2 6 [q0, q1] [(2, s0), (0, s1)] ds m Q = ((dk ds s0 = 0 ∧ WP 2 9 [q0, q1] [(0, m s0 6), (0, s1)] ds m Q)) := P_gd k2_6 rfl
set_option maxRecDepth 20000 in
theorem k2_9 : mjCode 2 9 = some (.if_icmp .ge 13, 3, 22, 0) := by decide +kernel
theorem p2_9 {s0 s1 : Int} {q0 q1 : MV} {ds : Ds} {m : Mm} {Q : Ds → Mm → List MV → Prop} : WP 2 9 [q0, q1] [(0, s0), (0, s1)] ds m Q = (if s1 < s0 then WP 2 12 [q0, q1] [] ds m Q else WP 2 22 [q0, q1] [] ds m Q) := P_if k2_9 rfl
set_option maxRecDepth 20000 in
theorem k2_12 : mjCode 2 12 = some (.iload_n 1, 1, 0, 0) := by decide +kernel
theorem p2_12 {l1 : Int} {q0 : MV} {ds : Ds} {m : Mm} {Q : Ds → Mm → List MV → Prop} : WP 2 12 [q0, (0, l1)] [] ds m Q = (WP 2 13 [q0, (0, l1)] [(0, l1)] ds m Q) := P_nx k2_12 rfl
set_option maxRecDepth 20000 in
theorem k2_13 : mjCode 2 13 = some (.bipush 96, 2, 0, 0) := by decide +kernel
theorem p2_13 {s0 : Int} {q0 q1 : MV} {ds : Ds} {m : Mm} {Q : Ds → Mm → List MV → Prop} : WP 2 13 [q0, q1] [(0, s0)] ds m Q = (WP 2 15 [q0, q1] [(0, 96), (0, s0)] ds m Q) := P_nx k2_13 rfl
set_option maxRecDepth 20000 in
theorem k2_15 : mjCode 2 15 = some (.if_icmp .ge 7, 3, 22, 0) := by decide +kernel
theorem p2_15 {s0 s1 : Int} {q0 q1 : MV} {ds : Ds} {m : Mm} {Q : Ds → Mm → List MV → Prop} : WP 2 15 [q0, q1] [(0, s0), (0, s1)] ds m Q = (if s1 < s0 then WP 2 18 [q0, q1] [] ds m Q else WP 2 22 [q0, q1] [] ds m Q) := P_if k2_15 rfl
set_option maxRecDepth 20000 in
theorem k2_18 : mjCode 2 18 = some (.iconst 1, 1, 0, 0) := by decide +kernel
theorem p2_18 {q0 q1 : MV} {ds : Ds} {m : Mm} {Q : Ds → Mm → List MV → Prop} : WP 2 18 [q0, q1] [] ds m Q = (WP 2 19 [q0, q1] [(0, 1)] ds m Q) := P_nx k2_18 rfl
set_option maxRecDepth 20000 in
theorem k2_19 : mjCode 2 19 = some (.goto 4, 3, 23, 0) := by decide +kernel
theorem p2_19 {s0 : Int} {q0 q1 : MV} {ds : Ds} {m : Mm} {Q : Ds → Mm → List MV → Prop} : WP 2 19 [q0, q1] [(0, s0)] ds m Q = (WP 2 23 [q0, q1] [(0, s0)] ds m Q) := P_nx k2_19 rfl
set_option maxRecDepth 20000 in
theorem k2_22 : mjCode 2 22 = some (.iconst 0, 1, 0, 0) := by decide +kernel
theorem p2_22 {q0 q1 : MV} {ds : Ds} {m : Mm} {Q : Ds → Mm → List MV → Prop} : WP 2 22 [q0, q1] [] ds m Q = (WP 2 23 [q0, q1] [(0, 0)] ds m Q) := P_nx k2_22 rfl
set_option maxRecDepth 20000 in
theorem k2_23 : mjCode 2 23 = some (.ireturn, 1, 0, 0) := by decide +kernel
theorem p2_23 {s0 : Int} {q0 q1 : MV} {ds : Ds} {m : Mm} {Q : Ds → Mm → List MV → Prop} : WP 2 23 [q0, q1] [(0, s0)] ds m Q = (((s0 = 0 ∨ s0 = 1) ∧ Q ds m [(0, s0)])) := P_rb k2_23 rk2
set_option maxRecDepth 20000 in
theorem k3_0 : mjCode 3 0 = some (.iload_n 1, 1, 0, 0) := by decide +kernel
theorem p3_0 {l1 : Int} {q0 : MV} {ds : Ds} {m : Mm} {Q : Ds → Mm → List MV → Prop} : WP 3 0 [q0, (0, l1)] [] ds m Q = (WP 3 1 [q0, (0, l1)] [(0, l1)] ds m Q) := P_nx k3_0 rfl
set_option maxRecDepth 20000 in
theorem k3_1 : mjCode 3 1 = some (.invokestatic 47, 3, 108, 1) := by decide +kernel
theorem p3_1 {s0 : Int} {q0 q1 : MV} {ds : Ds} {m : Mm} {Q : Ds → Mm → List MV → Prop} : WP 3 1 [q0, q1] [(0, s0)] ds m Q = (WP 107 0 [(0, s0)] [] ds m (fun d2 m2 r2 => WP 3 4 [q0, q1] (r2 ++ []) d2 m2 Q)) := P_cs k3_1 mx107 rfl rfl rfl rfl rfl rfl rfl
set_option maxRecDepth 20000 in
theorem k3_4 : mjCode 3 4 = some (.ifCond .eq 12, 3, 16, 0) := by decide +kernel
theorem p3_4 {s0 : Int} {q0 q1 : MV} {ds : Ds} {m : Mm} {Q : Ds → Mm → List MV → Prop} : WP 3 4 [q0, q1] [(0, s0)] ds m Q = (if s0 = 0 then WP 3 16 [q0, q1] [] ds m Q else WP 3 7 [q0, q1] [] ds m Q) := P_if k3_4 rfl
set_option maxRecDepth 20000 in
theorem k3_7 : mjCode 3 7 = some (.aload_n 0, 1, 0, 0) := by decide +kernel
theorem p3_7 {l0 : Int} {q1 : MV} {ds : Ds} {m : Mm} {Q : Ds → Mm → List MV → Prop} : WP 3 7 [(2, l0), q1] [] ds m Q = (WP 3 8 [(2, l0), q1] [(2, l0)] ds m Q) := P_nx k3_7 rfl
set_option maxRecDepth 20000 in
theorem k3_8 : mjCode 3 8 = some (.getfield 9, 3, 0, 0) := by decide +kernel
theorem p3_8 {s0 : Int} {q0 q1 : MV} {ds : Ds} {m : Mm} {Q : Ds → Mm → List MV → Prop} : WP 3 8 [q0, q1] [(2, s0)] ds m Q = ((dk ds s0 = 0 ∧ WP 3 11 [q0, q1] [(2, m s0 0)] ds m Q)) := P_gd k3_8 rfl
set_option maxRecDepth 20000 in
theorem k3_11 : mjCode 3 11 = some (.iload_n 1, 1, 0, 0) := by decide +kernel
theorem p3_11 {l1 s0 : Int} {q0 : MV} {ds : Ds} {m : Mm} {Q : Ds → Mm → List MV → Prop} : WP 3 11 [q0, (0, l1)] [(2, s0)] ds m Q = (WP 3 12 [q0, (0, l1)] [(0, l1), (2, s0)] ds m Q) := P_nx k3_11 rfl
set_option maxRecDepth 20000 in
theorem k3_12 : mjCode 3 12 = some (.iaload, 1, 0, 0) := by decide +kernel
theorem p3_12 {s0 s1 : Int} {q0 q1 : MV} {ds : Ds} {m : Mm} {Q : Ds → Mm → List MV → Prop} : WP 3 12 [q0, q1] [(0, s0), (2, s1)] ds m Q = ((dk ds s1 = 10 ∧ 0 ≤ s0 ∧ s0 < dl ds s1 ∧ WP 3 13 [q0, q1] [(0, m s1 s0)] ds m Q)) := P_g3 k3_12 rfl
set_option maxRecDepth 20000 in
theorem k3_13 : mjCode 3 13 = some (.goto 4, 3, 17, 0) := by decide +kernel
theorem p3_13 {s0 : Int} {q0 q1 : MV} {ds : Ds} {m : Mm} {Q : Ds → Mm → List MV → Prop} : WP 3 13 [q0, q1] [(0, s0)] ds m Q = (WP 3 17 [q0, q1] [(0, s0)] ds m Q) := P_nx k3_13 rfl
set_option maxRecDepth 20000 in
theorem k3_16 : mjCode 3 16 = some (.iconst (-1), 1, 0, 0) := by decide +kernel
theorem p3_16 {q0 q1 : MV} {ds : Ds} {m : Mm} {Q : Ds → Mm → List MV → Prop} : WP 3 16 [q0, q1] [] ds m Q = (WP 3 17 [q0, q1] [(0, (-1))] ds m Q) := P_nx k3_16 rfl
set_option maxRecDepth 20000 in
theorem k3_17 : mjCode 3 17 = some (.ireturn, 1, 0, 0) := by decide +kernel
theorem p3_17 {s0 : Int} {q0 q1 : MV} {ds : Ds} {m : Mm} {Q : Ds → Mm → List MV → Prop} : WP 3 17 [q0, q1] [(0, s0)] ds m Q = (Q ds m [(0, s0)]) := P_ri k3_17 rk3
set_option maxRecDepth 20000 in
theorem k4_0 : mjCode 4 0 = some (.iconst 0, 1, 0, 0) := by decide +kernel
theorem p4_0 {q0 q1 : MV} {ds : Ds} {m : Mm} {Q : Ds → Mm → List MV → Prop} : WP 4 0 [q0, q1] [] ds m Q = (WP 4 1 [q0, q1] [(0, 0)] ds m Q) := P_nx k4_0 rfl
set_option maxRecDepth 20000 in
theorem k4_1 : mjCode 4 1 = some (.istore_n 1, 1, 0, 0) := by decide +kernel
theorem p4_1 {l0 s0 : Int} {q1 : MV} {ds : Ds} {m : Mm} {Q : Ds → Mm → List MV → Prop} : WP 4 1 [(2, l0), q1] [(0, s0)] ds m Q = (WP 4 2 [(2, l0), (0, s0)] [] ds m Q) := P_nx k4_1 rfl
set_option maxRecDepth 20000 in
theorem k4_2 : mjCode 4 2 = some (.iload_n 1, 1, 0, 0) := by decide +kernel
theorem p4_2 {l1 : Int} {q0 : MV} {ds : Ds} {m : Mm} {Q : Ds → Mm → List MV → Prop} : WP 4 2 [q0, (0, l1)] [] ds m Q = (WP 4 3 [q0, (0, l1)] [(0, l1)] ds m Q) := P_nx k4_2 rfl
set_option maxRecDepth 20000 in
theorem k4_3 : mjCode 4 3 = some (.aload_n 0, 1, 0, 0) := by decide +kernel
theorem p4_3 {l0 s0 : Int} {q1 : MV} {ds : Ds} {m : Mm} {Q : Ds → Mm → List MV → Prop} : WP 4 3 [(2, l0), q1] [(0, s0)] ds m Q = (WP 4 4 [(2, l0), q1] [(2, l0), (0, s0)] ds m Q) := P_nx k4_3 rfl
set_option maxRecDepth 20000 in
theorem k4_4 : mjCode 4 4 = some (.getfield 31, 3, 0, 6) := by decide +kernel
theorem p4_4 {s0 s1 : Int} {q0 q1 : MV} {ds : Ds} {m : Mm} {Q : Ds → Mm → List MV → Prop} : WP 4 4 [q0, q1] [(2, s0), (0, s1)] ds m Q = ((dk ds s0 = 0 ∧ WP 4 7 [q0, q1] [(0, m s0 6), (0, s1)] ds m Q)) := P_gd k4_4 rfl
set_option maxRecDepth 20000 in
theorem k4_7 : mjCode 4 7 = some (.if_icmp .ge 36, 3, 43, 0) := by decide +kernel
theorem p4_7 {s0 s1 : Int} {q0 q1 : MV} {ds : Ds} {m : Mm} {Q : Ds → Mm → List MV → Prop} : WP 4 7 [q0, q1] [(0, s0), (0, s1)] ds m Q = (if s1 < s0 then WP 4 10 [q0, q1] [] ds m Q else WP 4 43 [q0, q1] [] ds m Q) := P_if k4_7 rfl
set_option maxRecDepth 20000 in
theorem k4_10 : mjCode 4 10 = some (.iload_n 1, 1, 0, 0) := by decide +kernel
theorem p4_10 {l1 : Int} {q0 : MV} {ds : Ds} {m : Mm} {Q : Ds → Mm → List MV → Prop} : WP 4 10 [q0, (0, l1)] [] ds m Q = (WP 4 11 [q0, (0, l1)] [(0, l1)] ds m Q) := P_nx k4_10 rfl
set_option maxRecDepth 20000 in
theorem k4_11 : mjCode 4 11 = some (.bipush 96, 2, 0, 0) := by decide +kernel
theorem p4_11 {s0 : Int} {q0 q1 : MV} {ds : Ds} {m : Mm} {Q : Ds → Mm → List MV → Prop} : WP 4 11 [q0, q1] [(0, s0)] ds m Q = (WP 4 13 [q0, q1] [(0, 96), (0, s0)] ds m Q) := P_nx k4_11 rfl
set_option maxRecDepth 20000 in
theorem k4_13 : mjCode 4 13 = some (.if_icmp .ge 30, 3, 43, 0) := by decide +kernel
theorem p4_13 {s0 s1 : Int} {q0 q1 : MV} {ds : Ds} {m : Mm} {Q : Ds → Mm → List MV → Prop} : WP 4 13 [q0, q1] [(0, s0), (0, s1)] ds m Q = (if s1 < s0 then WP 4 16 [q0, q1] [] ds m Q else WP 4 43 [q0, q1] [] ds m Q) := P_if k4_13 rfl
set_option maxRecDepth 20000 in
theorem k4_16 : mjCode 4 16 = some (.aload_n 0, 1, 0, 0) := by decide +kernel
theorem p4_16 {l0 : Int} {q1 : MV} {ds : Ds} {m : Mm} {Q : Ds → Mm → List MV → Prop} : WP 4 16 [(2, l0), q1] [] ds m Q = (WP 4 17 [(2, l0), q1] [(2, l0)] ds m Q) := P_nx k4_16 rfl
set_option maxRecDepth 20000 in
theorem k4_17 : mjCode 4 17 = some (.getfield 27, 3, 0, 5) := by decide +kernel
theorem p4_17 {s0 : Int} {q0 q1 : MV} {ds : Ds} {m : Mm} {Q : Ds → Mm → List MV → Prop} : WP 4 17 [q0, q1] [(2, s0)] ds m Q = ((dk ds s0 = 0 ∧ WP 4 20 [q0, q1] [(2, m s0 5)] ds m Q)) := P_gd k4_17 rfl
set_option maxRecDepth 20000 in
theorem k4_20 : mjCode 4 20 = some (.iload_n 1, 1, 0, 0) := by decide +kernel
theorem p4_20 {l1 s0 : Int} {q0 : MV} {ds : Ds} {m : Mm} {Q : Ds → Mm → List MV → Prop} : WP 4 20 [q0, (0, l1)] [(2, s0)] ds m Q = (WP 4 21 [q0, (0, l1)] [(0, l1), (2, s0)] ds m Q) := P_nx k4_20 rfl
set_option maxRecDepth 20000 in
theorem k4_21 : mjCode 4 21 = some (.aload_n 0, 1, 0, 0) := by decide +kernel
theorem p4_21 {l0 s0 s1 : Int} {q1 : MV} {ds : Ds} {m : Mm} {Q : Ds → Mm → List MV → Prop} : WP 4 21 [(2, l0), q1] [(0, s0), (2, s1)] ds m Q = (WP 4 22 [(2, l0), q1] [(2, l0), (0, s0), (2, s1)] ds m Q) := P_nx k4_21 rfl
set_option maxRecDepth 20000 in
theorem k4_22 : mjCode 4 22 = some (.getfield 18, 3, 0, 2) := by decide +kernel
theorem p4_22 {s0 s1 s2 : Int} {q0 q1 : MV} {ds : Ds} {m : Mm} {Q : Ds → Mm → List MV → Prop} : WP 4 22 [q0, q1] [(2, s0), (0, s1), (2, s2)] ds m Q = ((dk ds s0 = 0 ∧ WP 4 25 [q0, q1] [(2, m s0 2), (0, s1), (2, s2)] ds m Q)) := P_gd k4_22 rfl
set_option maxRecDepth 20000 in
theorem k4_25 : mjCode 4 25 = some (.iload_n 1, 1, 0, 0) := by decide +kernel
theorem p4_25 {l1 s0 s1 s2 : Int} {q0 : MV} {ds : Ds} {m : Mm} {Q : Ds → Mm → List MV → Prop} : WP 4 25 [q0, (0, l1)] [(2, s0), (0, s1), (2, s2)] ds m Q = (WP 4 26 [q0, (0, l1)] [(0, l1), (2, s0), (0, s1), (2, s2)] ds m Q) := P_nx k4_25 rfl
set_option maxRecDepth 20000 in
theorem k4_26 : mjCode 4 26 = some (.iaload, 1, 0, 0) := by decide +kernel
theorem p4_26 {s0 s1 s2 s3 : Int} {q0 q1 : MV} {ds : Ds} {m : Mm} {Q : Ds → Mm → List MV → Prop} : WP 4 26 [q0, q1] [(0, s0), (2, s1), (0, s2), (2, s3)] ds m Q = ((dk ds s1 = 10 ∧ 0 ≤ s0 ∧ s0 < dl ds s1 ∧ WP 4 27 [q0, q1] [(0, m s1 s0), (0, s2), (2, s3)] ds m Q)) := P_g3 k4_26 rfl
set_option maxRecDepth 20000 in
theorem k4_27 : mjCode 4 27 = some (.iconst (-1), 1, 0, 0) := by decide +kernel
theorem p4_27 {s0 s1 s2 : Int} {q0 q1 : MV} {ds : Ds} {m : Mm} {Q : Ds → Mm → List MV → Prop} : WP 4 27 [q0, q1] [(0, s0), (0, s1), (2, s2)] ds m Q = (WP 4 28 [q0, q1] [(0, (-1)), (0, s0), (0, s1), (2, s2)] ds m Q) := P_nx k4_27 rfl
set_option maxRecDepth 20000 in
theorem k4_28 : mjCode 4 28 = some (.if_icmp .eq 7, 3, 35, 0) := by decide +kernel
theorem p4_28 {s0 s1 s2 s3 : Int} {q0 q1 : MV} {ds : Ds} {m : Mm} {Q : Ds → Mm → List MV → Prop} : WP 4 28 [q0, q1] [(0, s0), (0, s1), (0, s2), (2, s3)] ds m Q = (if s1 = s0 then WP 4 35 [q0, q1] [(0, s2), (2, s3)] ds m Q else WP 4 31 [q0, q1] [(0, s2), (2, s3)] ds m Q) := P_if k4_28 rfl
set_option maxRecDepth 20000 in
theorem k4_31 : mjCode 4 31 = some (.iconst 1, 1, 0, 0) := by decide +kernel
theorem p4_31 {s0 s1 : Int} {q0 q1 : MV} {ds : Ds} {m : Mm} {Q : Ds → Mm → List MV → Prop} : WP 4 31 [q0, q1] [(0, s0), (2, s1)] ds m Q = (WP 4 32 [q0, q1] [(0, 1), (0, s0), (2, s1)] ds m Q) := P_nx k4_31 rfl
set_option maxRecDepth 20000 in
theorem k4_32 : mjCode 4 32 = some (.goto 4, 3, 36, 0) := by decide +kernel
theorem p4_32 {s0 s1 s2 : Int} {q0 q1 : MV} {ds : Ds} {m : Mm} {Q : Ds → Mm → List MV → Prop} : WP 4 32 [q0, q1] [(0, s0), (0, s1), (2, s2)] ds m Q = (WP 4 36 [q0, q1] [(0, s0), (0, s1), (2, s2)] ds m Q) := P_nx k4_32 rfl
set_option maxRecDepth 20000 in
theorem k4_35 : mjCode 4 35 = some (.iconst 0, 1, 0, 0) := by decide +kernel
theorem p4_35 {s0 s1 : Int} {q0 q1 : MV} {ds : Ds} {m : Mm} {Q : Ds → Mm → List MV → Prop} : WP 4 35 [q0, q1] [(0, s0), (2, s1)] ds m Q = (WP 4 36 [q0, q1] [(0, 0), (0, s0), (2, s1)] ds m Q) := P_nx k4_35 rfl
set_option maxRecDepth 20000 in
theorem k4_36 : mjCode 4 36 = some (.bastore, 1, 0, 0) := by decide +kernel
theorem p4_36 {s0 s1 s2 : Int} {q0 q1 : MV} {ds : Ds} {m : Mm} {Q : Ds → Mm → List MV → Prop} : WP 4 36 [q0, q1] [(0, s0), (0, s1), (2, s2)] ds m Q = (((s0 = 0 ∨ s0 = 1) ∧ dk ds s2 = 11 ∧ 0 ≤ s1 ∧ s1 < dl ds s2 ∧ WP 4 37 [q0, q1] [] ds (up m s2 s1 s0) Q)) := P_s4 k4_36 rfl
set_option maxRecDepth 20000 in
theorem k4_37 : mjCode 4 37 = some (.iinc 1 1, 3, 0, 0) := by decide +kernel
theorem p4_37 {l1 : Int} {q0 : MV} {ds : Ds} {m : Mm} {Q : Ds → Mm → List MV → Prop} : WP 4 37 [q0, (0, l1)] [] ds m Q = (WP 4 40 [q0, (0, w32 (l1 + 1))] [] ds m Q) := P_nx k4_37 rfl
set_option maxRecDepth 20000 in
theorem k4_40 : mjCode 4 40 = some (.goto (-38), 3, 2, 0) := by decide +kernel
theorem p4_40 {q0 q1 : MV} {ds : Ds} {m : Mm} {Q : Ds → Mm → List MV → Prop} : WP 4 40 [q0, q1] [] ds m Q = (WP 4 2 [q0, q1] [] ds m Q) := P_nx k4_40 rfl
set_option maxRecDepth 20000 in
theorem k4_43 : mjCode 4 43 = some (.return_, 1, 0, 0) := by decide +kernel
theorem p4_43 {q0 q1 : MV} {ds : Ds} {m : Mm} {Q : Ds → Mm → List MV → Prop} : WP 4 43 [q0, q1] [] ds m Q = (Q ds m []) := P_rv k4_43 rk4
set_option maxRecDepth 20000 in
theorem k5_0 : mjCode 5 0 = some (.aload_n 0, 1, 0, 0) := by decide +kernel
theorem p5_0 {l0 : Int} {q1 : MV} {ds : Ds} {m : Mm} {Q : Ds → Mm → List MV → Prop} : WP 5 0 [(2, l0), q1] [] ds m Q = (WP 5 1 [(2, l0), q1] [(2, l0)] ds m Q) := P_nx k5_0 rfl
set_option maxRecDepth 20000 in
theorem k5_1 : mjCode 5 1 = some (.iload_n 1, 1, 0, 0) := by decide +kernel
theorem p5_1 {l1 s0 : Int} {q0 : MV} {ds : Ds} {m : Mm} {Q : Ds → Mm → List MV → Prop} : WP 5 1 [q0, (0, l1)] [(2, s0)] ds m Q = (WP 5 2 [q0, (0, l1)] [(0, l1), (2, s0)] ds m Q) := P_nx k5_1 rfl
set_option maxRecDepth 20000 in
theorem k5_2 : mjCode 5 2 = some (.invokevirtual 50, 3, 3, 2) := by decide +kernel
theorem p5_2 {s0 s1 : Int} {q0 q1 : MV} {ds : Ds} {m : Mm} {Q : Ds → Mm → List MV → Prop} : WP 5 2 [q0, q1] [(0, s0), (2, s1)] ds m Q = ((dk ds s1 = 0 ∧ WP 2 0 [(2, s1), (0, s0)] [] ds m (fun d2 m2 r2 => WP 5 5 [q0, q1] (r2 ++ []) d2 m2 Q))) := P_cv k5_2 mx2 mo2 rfl rfl rfl rfl rfl rfl rfl rfl
set_option maxRecDepth 20000 in
theorem k5_5 : mjCode 5 5 = some (.ifCond .eq 26, 3, 31, 0) := by decide +kernel
theorem p5_5 {s0 : Int} {q0 q1 : MV} {ds : Ds} {m : Mm} {Q : Ds → Mm → List MV → Prop} : WP 5 5 [q0, q1] [(0, s0)] ds m Q = (if s0 = 0 then WP 5 31 [q0, q1] [] ds m Q else WP 5 8 [q0, q1] [] ds m Q) := P_if k5_5 rfl
set_option maxRecDepth 20000 in
theorem k5_8 : mjCode 5 8 = some (.aload_n 0, 1, 0, 0) := by decide +kernel
theorem p5_8 {l0 : Int} {q1 : MV} {ds : Ds} {m : Mm} {Q : Ds → Mm → List MV → Prop} : WP 5 8 [(2, l0), q1] [] ds m Q = (WP 5 9 [(2, l0), q1] [(2, l0)] ds m Q) := P_nx k5_8 rfl
set_option maxRecDepth 20000 in
theorem k5_9 : mjCode 5 9 = some (.getfield 27, 3, 0, 5) := by decide +kernel
theorem p5_9 {s0 : Int} {q0 q1 : MV} {ds : Ds} {m : Mm} {Q : Ds → Mm → List MV → Prop} : WP 5 9 [q0, q1] [(2, s0)] ds m Q = ((dk ds s0 = 0 ∧ WP 5 12 [q0, q1] [(2, m s0 5)] ds m Q)) := P_gd k5_9 rfl
set_option maxRecDepth 20000 in
theorem k5_12 : mjCode 5 12 = some (.iload_n 1, 1, 0, 0) := by decide +kernel
theorem p5_12 {l1 s0 : Int} {q0 : MV} {ds : Ds} {m : Mm} {Q : Ds → Mm → List MV → Prop} : WP 5 12 [q0, (0, l1)] [(2, s0)] ds m Q = (WP 5 13 [q0, (0, l1)] [(0, l1), (2, s0)] ds m Q) := P_nx k5_12 rfl
set_option maxRecDepth 20000 in
theorem k5_13 : mjCode 5 13 = some (.baload, 1, 0, 0) := by decide +kernel
theorem p5_13 {s0 s1 : Int} {q0 q1 : MV} {ds : Ds} {m : Mm} {Q : Ds → Mm → List MV → Prop} : WP 5 13 [q0, q1] [(0, s0), (2, s1)] ds m Q = ((dk ds s1 = 11 ∧ 0 ≤ s0 ∧ s0 < dl ds s1 ∧ WP 5 14 [q0, q1] [(0, m s1 s0)] ds m Q)) := P_g3 k5_13 rfl
set_option maxRecDepth 20000 in
theorem k5_14 : mjCode 5 14 = some (.ifCond .eq 17, 3, 31, 0) := by decide +kernel
theorem p5_14 {s0 : Int} {q0 q1 : MV} {ds : Ds} {m : Mm} {Q : Ds → Mm → List MV → Prop} : WP 5 14 [q0, q1] [(0, s0)] ds m Q = (if s0 = 0 then WP 5 31 [q0, q1] [] ds m Q else WP 5 17 [q0, q1] [] ds m Q) := P_if k5_14 rfl
set_option maxRecDepth 20000 in
theorem k5_17 : mjCode 5 17 = some (.aload_n 0, 1, 0, 0) := by decide +kernel
theorem p5_17 {l0 : Int} {q1 : MV} {ds : Ds} {m : Mm} {Q : Ds → Mm → List MV → Prop} : WP 5 17 [(2, l0), q1] [] ds m Q = (WP 5 18 [(2, l0), q1] [(2, l0)] ds m Q) := P_nx k5_17 rfl
set_option maxRecDepth 20000 in
theorem k5_18 : mjCode 5 18 = some (.getfield 18, 3, 0, 2) := by decide +kernel
theorem p5_18 {s0 : Int} {q0 q1 : MV} {ds : Ds} {m : Mm} {Q : Ds → Mm → List MV → Prop} : WP 5 18 [q0, q1] [(2, s0)] ds m Q = ((dk ds s0 = 0 ∧ WP 5 21 [q0, q1] [(2, m s0 2)] ds m Q)) := P_gd k5_18 rfl
set_option maxRecDepth 20000 in
theorem k5_21 : mjCode 5 21 = some (.iload_n 1, 1, 0, 0) := by decide +kernel
theorem p5_21 {l1 s0 : Int} {q0 : MV} {ds : Ds} {m : Mm} {Q : Ds → Mm → List MV → Prop} : WP 5 21 [q0, (0, l1)] [(2, s0)] ds m Q = (WP 5 22 [q0, (0, l1)] [(0, l1), (2, s0)] ds m Q) := P_nx k5_21 rfl
set_option maxRecDepth 20000 in
theorem k5_22 : mjCode 5 22 = some (.iaload, 1, 0, 0) := by decide +kernel
theorem p5_22 {s0 s1 : Int} {q0 q1 : MV} {ds : Ds} {m : Mm} {Q : Ds → Mm → List MV → Prop} : WP 5 22 [q0, q1] [(0, s0), (2, s1)] ds m Q = ((dk ds s1 = 10 ∧ 0 ≤ s0 ∧ s0 < dl ds s1 ∧ WP 5 23 [q0, q1] [(0, m s1 s0)] ds m Q)) := P_g3 k5_22 rfl
set_option maxRecDepth 20000 in
theorem k5_23 : mjCode 5 23 = some (.iconst (-1), 1, 0, 0) := by decide +kernel
theorem p5_23 {s0 : Int} {q0 q1 : MV} {ds : Ds} {m : Mm} {Q : Ds → Mm → List MV → Prop} : WP 5 23 [q0, q1] [(0, s0)] ds m Q = (WP 5 24 [q0, q1] [(0, (-1)), (0, s0)] ds m Q) := P_nx k5_23 rfl
set_option maxRecDepth 20000 in
theorem k5_24 : mjCode 5 24 = some (.if_icmp .eq 7, 3, 31, 0) := by decide +kernel
theorem p5_24 {s0 s1 : Int} {q0 q1 : MV} {ds : Ds} {m : Mm} {Q : Ds → Mm → List MV → Prop} : WP 5 24 [q0, q1] [(0, s0), (0, s1)] ds m Q = (if s1 = s0 then WP 5 31 [q0, q1] [] ds m Q else WP 5 27 [q0, q1] [] ds m Q) := P_if k5_24 rfl
set_option maxRecDepth 20000 in
theorem k5_27 : mjCode 5 27 = some (.iconst 1, 1, 0, 0) := by decide +kernel
theorem p5_27 {q0 q1 : MV} {ds : Ds} {m : Mm} {Q : Ds → Mm → List MV → Prop} : WP 5 27 [q0, q1] [] ds m Q = (WP 5 28 [q0, q1] [(0, 1)] ds m Q) := P_nx k5_27 rfl
set_option maxRecDepth 20000 in
theorem k5_28 : mjCode 5 28 = some (.goto 4, 3, 32, 0) := by decide +kernel
theorem p5_28 {s0 : Int} {q0 q1 : MV} {ds : Ds} {m : Mm} {Q : Ds → Mm → List MV → Prop} : WP 5 28 [q0, q1] [(0, s0)] ds m Q = (WP 5 32 [q0, q1] [(0, s0)] ds m Q) := P_nx k5_28 rfl
set_option maxRecDepth 20000 in
theorem k5_31 : mjCode 5 31 = some (.iconst 0, 1, 0, 0) := by decide +kernel
theorem p5_31 {q0 q1 : MV} {ds : Ds} {m : Mm} {Q : Ds → Mm → List MV → Prop} : WP 5 31 [q0, q1] [] ds m Q = (WP 5 32 [q0, q1] [(0, 0)] ds m Q) := P_nx k5_31 rfl
set_option maxRecDepth 20000 in
theorem k5_32 : mjCode 5 32 = some (.ireturn, 1, 0, 0) := by decide +kernel
theorem p5_32 {s0 : Int} {q0 q1 : MV} {ds : Ds} {m : Mm} {Q : Ds → Mm → List MV → Prop} : WP 5 32 [q0, q1] [(0, s0)] ds m Q = (((s0 = 0 ∨ s0 = 1) ∧ Q ds m [(0, s0)])) := P_rb k5_32 rk5
set_option maxRecDepth 20000 in
theorem k6_0 : mjCode 6 0 = some (.aload_n 0, 1, 0, 0) := by decide +kernel
theorem p6_0 {l0 : Int} {q1 q2 q3 : MV} {ds : Ds} {m : Mm} {Q : Ds → Mm → List MV → Prop} : WP 6 0 [(2, l0), q1, q2, q3] [] ds m Q = (WP 6 1 [(2, l0), q1, q2, q3] [(2, l0)] ds m Q) := P_nx k6_0 rfl
set_option maxRecDepth 20000 in
theorem k6_1 : mjCode 6 1 = some (.iload_n 1, 1, 0, 0) := by decide +kernel
theorem p6_1 {l1 s0 : Int} {q0 q2 q3 : MV} {ds : Ds} {m : Mm} {Q : Ds → Mm → List MV → Prop} : WP 6 1 [q0, (0, l1), q2, q3] [(2, s0)] ds m Q = (WP 6 2 [q0, (0, l1), q2, q3] [(0, l1), (2, s0)] ds m Q) := P_nx k6_1 rfl
set_option maxRecDepth 20000 in
theorem k6_2 : mjCode 6 2 = some (.invokevirtual 50, 3, 3, 2) := by decide +kernel
theorem p6_2 {s0 s1 : Int} {q0 q1 q2 q3 : MV} {ds : Ds} {m : Mm} {Q : Ds → Mm → List MV → Prop} : WP 6 2 [q0, q1, q2, q3] [(0, s0), (2, s1)] ds m Q = ((dk ds s1 = 0 ∧ WP 2 0 [(2, s1), (0, s0)] [] ds m (fun d2 m2 r2 => WP 6 5 [q0, q1, q2, q3] (r2 ++ []) d2 m2 Q))) := P_cv k6_2 mx2 mo2 rfl rfl rfl rfl rfl rfl rfl rfl
set_option maxRecDepth 20000 in
theorem k6_5 : mjCode 6 5 = some (.ifCond .eq 45, 3, 50, 0) := by decide +kernel
theorem p6_5 {s0 : Int} {q0 q1 q2 q3 : MV} {ds : Ds} {m : Mm} {Q : Ds → Mm → List MV → Prop} : WP 6 5 [q0, q1, q2, q3] [(0, s0)] ds m Q = (if s0 = 0 then WP 6 50 [q0, q1, q2, q3] [] ds m Q else WP 6 8 [q0, q1, q2, q3] [] ds m Q) := P_if k6_5 rfl
set_option maxRecDepth 20000 in
theorem k6_8 : mjCode 6 8 = some (.aload_n 0, 1, 0, 0) := by decide +kernel
theorem p6_8 {l0 : Int} {q1 q2 q3 : MV} {ds : Ds} {m : Mm} {Q : Ds → Mm → List MV → Prop} : WP 6 8 [(2, l0), q1, q2, q3] [] ds m Q = (WP 6 9 [(2, l0), q1, q2, q3] [(2, l0)] ds m Q) := P_nx k6_8 rfl
set_option maxRecDepth 20000 in
theorem k6_9 : mjCode 6 9 = some (.getfield 18, 3, 0, 2) := by decide +kernel
theorem p6_9 {s0 : Int} {q0 q1 q2 q3 : MV} {ds : Ds} {m : Mm} {Q : Ds → Mm → List MV → Prop} : WP 6 9 [q0, q1, q2, q3] [(2, s0)] ds m Q = ((dk ds s0 = 0 ∧ WP 6 12 [q0, q1, q2, q3] [(2, m s0 2)] ds m Q)) := P_gd k6_9 rfl
set_option maxRecDepth 20000 in
theorem k6_12 : mjCode 6 12 = some (.iload_n 1, 1, 0, 0) := by decide +kernel
theorem p6_12 {l1 s0 : Int} {q0 q2 q3 : MV} {ds : Ds} {m : Mm} {Q : Ds → Mm → List MV → Prop} : WP 6 12 [q0, (0, l1), q2, q3] [(2, s0)] ds m Q = (WP 6 13 [q0, (0, l1), q2, q3] [(0, l1), (2, s0)] ds m Q) := P_nx k6_12 rfl
set_option maxRecDepth 20000 in
theorem k6_13 : mjCode 6 13 = some (.iaload, 1, 0, 0) := by decide +kernel
theorem p6_13 {s0 s1 : Int} {q0 q1 q2 q3 : MV} {ds : Ds} {m : Mm} {Q : Ds → Mm → List MV → Prop} : WP 6 13 [q0, q1, q2, q3] [(0, s0), (2, s1)] ds m Q = ((dk ds s1 = 10 ∧ 0 ≤ s0 ∧ s0 < dl ds s1 ∧ WP 6 14 [q0, q1, q2, q3] [(0, m s1 s0)] ds m Q)) := P_g3 k6_13 rfl
set_option maxRecDepth 20000 in
theorem k6_14 : mjCode 6 14 = some (.iconst (-1), 1, 0, 0) := by decide +kernel
theorem p6_14 {s0 : Int} {q0 q1 q2 q3 : MV} {ds : Ds} {m : Mm} {Q : Ds → Mm → List MV → Prop} : WP 6 14 [q0, q1, q2, q3] [(0, s0)] ds m Q = (WP 6 15 [q0, q1, q2, q3] [(0, (-1)), (0, s0)] ds m Q) := P_nx k6_14 rfl
set_option maxRecDepth 20000 in
theorem k6_15 : mjCode 6 15 = some (.if_icmp .ne 35, 3, 50, 0) := by decide +kernel
theorem p6_15 {s0 s1 : Int} {q0 q1 q2 q3 : MV} {ds : Ds} {m : Mm} {Q : Ds → Mm → List MV → Prop} : WP 6 15 [q0, q1, q2, q3] [(0, s0), (0, s1)] ds m Q = (if s1 = s0 then WP 6 18 [q0, q1, q2, q3] [] ds m Q else WP 6 50 [q0, q1, q2, q3] [] ds m Q) := P_if k6_15 rfl
set_option maxRecDepth 20000 in
theorem k6_18 : mjCode 6 18 = some (.aload_n 0, 1, 0, 0) := by decide +kernel
theorem p6_18 {l0 : Int} {q1 q2 q3 : MV} {ds : Ds} {m : Mm} {Q : Ds → Mm → List MV → Prop} : WP 6 18 [(2, l0), q1, q2, q3] [] ds m Q = (WP 6 19 [(2, l0), q1, q2, q3] [(2, l0)] ds m Q) := P_nx k6_18 rfl
set_option maxRecDepth 20000 in
theorem k6_19 : mjCode 6 19 = some (.getfield 18, 3, 0, 2) := by decide +kernel
theorem p6_19 {s0 : Int} {q0 q1 q2 q3 : MV} {ds : Ds} {m : Mm} {Q : Ds → Mm → List MV → Prop} : WP 6 19 [q0, q1, q2, q3] [(2, s0)] ds m Q = ((dk ds s0 = 0 ∧ WP 6 22 [q0, q1, q2, q3] [(2, m s0 2)] ds m Q)) := P_gd k6_19 rfl
set_option maxRecDepth 20000 in
theorem k6_22 : mjCode 6 22 = some (.iload_n 1, 1, 0, 0) := by decide +kernel
theorem p6_22 {l1 s0 : Int} {q0 q2 q3 : MV} {ds : Ds} {m : Mm} {Q : Ds → Mm → List MV → Prop} : WP 6 22 [q0, (0, l1), q2, q3] [(2, s0)] ds m Q = (WP 6 23 [q0, (0, l1), q2, q3] [(0, l1), (2, s0)] ds m Q) := P_nx k6_22 rfl
set_option maxRecDepth 20000 in
theorem k6_23 : mjCode 6 23 = some (.iload_n 2, 1, 0, 0) := by decide +kernel
theorem p6_23 {l2 s0 s1 : Int} {q0 q1 q3 : MV} {ds : Ds} {m : Mm} {Q : Ds → Mm → List MV → Prop} : WP 6 23 [q0, q1, (0, l2), q3] [(0, s0), (2, s1)] ds m Q = (WP 6 24 [q0, q1, (0, l2), q3] [(0, l2), (0, s0), (2, s1)] ds m Q) := P_nx k6_23 rfl
set_option maxRecDepth 20000 in
theorem k6_24 : mjCode 6 24 = some (.iastore, 1, 0, 0) := by decide +kernel
theorem p6_24 {s0 s1 s2 : Int} {q0 q1 q2 q3 : MV} {ds : Ds} {m : Mm} {Q : Ds → Mm → List MV → Prop} : WP 6 24 [q0, q1, q2, q3] [(0, s0), (0, s1), (2, s2)] ds m Q = ((dk ds s2 = 10 ∧ 0 ≤ s1 ∧ s1 < dl ds s2 ∧ WP 6 25 [q0, q1, q2, q3] [] ds (up m s2 s1 s0) Q)) := P_s3 k6_24 rfl
set_option maxRecDepth 20000 in
theorem k6_25 : mjCode 6 25 = some (.aload_n 0, 1, 0, 0) := by decide +kernel
theorem p6_25 {l0 : Int} {q1 q2 q3 : MV} {ds : Ds} {m : Mm} {Q : Ds → Mm → List MV → Prop} : WP 6 25 [(2, l0), q1, q2, q3] [] ds m Q = (WP 6 26 [(2, l0), q1, q2, q3] [(2, l0)] ds m Q) := P_nx k6_25 rfl
set_option maxRecDepth 20000 in
theorem k6_26 : mjCode 6 26 = some (.getfield 21, 3, 0, 3) := by decide +kernel
theorem p6_26 {s0 : Int} {q0 q1 q2 q3 : MV} {ds : Ds} {m : Mm} {Q : Ds → Mm → List MV → Prop} : WP 6 26 [q0, q1, q2, q3] [(2, s0)] ds m Q = ((dk ds s0 = 0 ∧ WP 6 29 [q0, q1, q2, q3] [(2, m s0 3)] ds m Q)) := P_gd k6_26 rfl
set_option maxRecDepth 20000 in
theorem k6_29 : mjCode 6 29 = some (.iload_n 1, 1, 0, 0) := by decide +kernel
theorem p6_29 {l1 s0 : Int} {q0 q2 q3 : MV} {ds : Ds} {m : Mm} {Q : Ds → Mm → List MV → Prop} : WP 6 29 [q0, (0, l1), q2, q3] [(2, s0)] ds m Q = (WP 6 30 [q0, (0, l1), q2, q3] [(0, l1), (2, s0)] ds m Q) := P_nx k6_29 rfl
set_option maxRecDepth 20000 in
theorem k6_30 : mjCode 6 30 = some (.bipush 6, 2, 0, 0) := by decide +kernel
theorem p6_30 {s0 s1 : Int} {q0 q1 q2 q3 : MV} {ds : Ds} {m : Mm} {Q : Ds → Mm → List MV → Prop} : WP 6 30 [q0, q1, q2, q3] [(0, s0), (2, s1)] ds m Q = (WP 6 32 [q0, q1, q2, q3] [(0, 6), (0, s0), (2, s1)] ds m Q) := P_nx k6_30 rfl
set_option maxRecDepth 20000 in
theorem k6_32 : mjCode 6 32 = some (.iastore, 1, 0, 0) := by decide +kernel
theorem p6_32 {s0 s1 s2 : Int} {q0 q1 q2 q3 : MV} {ds : Ds} {m : Mm} {Q : Ds → Mm → List MV → Prop} : WP 6 32 [q0, q1, q2, q3] [(0, s0), (0, s1), (2, s2)] ds m Q = ((dk ds s2 = 10 ∧ 0 ≤ s1 ∧ s1 < dl ds s2 ∧ WP 6 33 [q0, q1, q2, q3] [] ds (up m s2 s1 s0) Q)) := P_s3 k6_32 rfl
set_option maxRecDepth 20000 in
theorem k6_33 : mjCode 6 33 = some (.aload_n 0, 1, 0, 0) := by decide +kernel
theorem p6_33 {l0 : Int} {q1 q2 q3 : MV} {ds : Ds} {m : Mm} {Q : Ds → Mm → List MV → Prop} : WP 6 33 [(2, l0), q1, q2, q3] [] ds m Q = (WP 6 34 [(2, l0), q1, q2, q3] [(2, l0)] ds m Q) := P_nx k6_33 rfl
set_option maxRecDepth 20000 in
theorem k6_34 : mjCode 6 34 = some (.getfield 24, 3, 0, 4) := by decide +kernel
theorem p6_34 {s0 : Int} {q0 q1 q2 q3 : MV} {ds : Ds} {m : Mm} {Q : Ds → Mm → List MV → Prop} : WP 6 34 [q0, q1, q2, q3] [(2, s0)] ds m Q = ((dk ds s0 = 0 ∧ WP 6 37 [q0, q1, q2, q3] [(2, m s0 4)] ds m Q)) := P_gd k6_34 rfl
set_option maxRecDepth 20000 in
theorem k6_37 : mjCode 6 37 = some (.iload_n 1, 1, 0, 0) := by decide +kernel
theorem p6_37 {l1 s0 : Int} {q0 q2 q3 : MV} {ds : Ds} {m : Mm} {Q : Ds → Mm → List MV → Prop} : WP 6 37 [q0, (0, l1), q2, q3] [(2, s0)] ds m Q = (WP 6 38 [q0, (0, l1), q2, q3] [(0, l1), (2, s0)] ds m Q) := P_nx k6_37 rfl
set_option maxRecDepth 20000 in
theorem k6_38 : mjCode 6 38 = some (.iload_n 3, 1, 0, 0) := by decide +kernel
theorem p6_38 {l3 s0 s1 : Int} {q0 q1 q2 : MV} {ds : Ds} {m : Mm} {Q : Ds → Mm → List MV → Prop} : WP 6 38 [q0, q1, q2, (0, l3)] [(0, s0), (2, s1)] ds m Q = (WP 6 39 [q0, q1, q2, (0, l3)] [(0, l3), (0, s0), (2, s1)] ds m Q) := P_nx k6_38 rfl
set_option maxRecDepth 20000 in
theorem k6_39 : mjCode 6 39 = some (.iastore, 1, 0, 0) := by decide +kernel
theorem p6_39 {s0 s1 s2 : Int} {q0 q1 q2 q3 : MV} {ds : Ds} {m : Mm} {Q : Ds → Mm → List MV → Prop} : WP 6 39 [q0, q1, q2, q3] [(0, s0), (0, s1), (2, s2)] ds m Q = ((dk ds s2 = 10 ∧ 0 ≤ s1 ∧ s1 < dl ds s2 ∧ WP 6 40 [q0, q1, q2, q3] [] ds (up m s2 s1 s0) Q)) := P_s3 k6_39 rfl
set_option maxRecDepth 20000 in
theorem k6_40 : mjCode 6 40 = some (.aload_n 0, 1, 0, 0) := by decide +kernel
theorem p6_40 {l0 : Int} {q1 q2 q3 : MV} {ds : Ds} {m : Mm} {Q : Ds → Mm → List MV → Prop} : WP 6 40 [(2, l0), q1, q2, q3] [] ds m Q = (WP 6 41 [(2, l0), q1, q2, q3] [(2, l0)] ds m Q) := P_nx k6_40 rfl
set_option maxRecDepth 20000 in
theorem k6_41 : mjCode 6 41 = some (.dup, 1, 0, 0) := by decide +kernel
theorem p6_41 {s0 : Int} {q0 q1 q2 q3 : MV} {ds : Ds} {m : Mm} {Q : Ds → Mm → List MV → Prop} : WP 6 41 [q0, q1, q2, q3] [(2, s0)] ds m Q = (WP 6 42 [q0, q1, q2, q3] [(2, s0), (2, s0)] ds m Q) := P_nx k6_41 rfl
set_option maxRecDepth 20000 in
theorem k6_42 : mjCode 6 42 = some (.getfield 35, 3, 0, 7) := by decide +kernel
theorem p6_42 {s0 s1 : Int} {q0 q1 q2 q3 : MV} {ds : Ds} {m : Mm} {Q : Ds → Mm → List MV → Prop} : WP 6 42 [q0, q1, q2, q3] [(2, s0), (2, s1)] ds m Q = ((dk ds s0 = 0 ∧ WP 6 45 [q0, q1, q2, q3] [(0, m s0 7), (2, s1)] ds m Q)) := P_gd k6_42 rfl
set_option maxRecDepth 20000 in
theorem k6_45 : mjCode 6 45 = some (.iconst 1, 1, 0, 0) := by decide +kernel
theorem p6_45 {s0 s1 : Int} {q0 q1 q2 q3 : MV} {ds : Ds} {m : Mm} {Q : Ds → Mm → List MV → Prop} : WP 6 45 [q0, q1, q2, q3] [(0, s0), (2, s1)] ds m Q = (WP 6 46 [q0, q1, q2, q3] [(0, 1), (0, s0), (2, s1)] ds m Q) := P_nx k6_45 rfl
set_option maxRecDepth 20000 in
theorem k6_46 : mjCode 6 46 = some (.iadd, 1, 0, 0) := by decide +kernel
theorem p6_46 {s0 s1 s2 : Int} {q0 q1 q2 q3 : MV} {ds : Ds} {m : Mm} {Q : Ds → Mm → List MV → Prop} : WP 6 46 [q0, q1, q2, q3] [(0, s0), (0, s1), (2, s2)] ds m Q = (WP 6 47 [q0, q1, q2, q3] [(0, w32 (s1 + s0)), (2, s2)] ds m Q) := P_nx k6_46 rfl
set_option maxRecDepth 20000 in
theorem k6_47 : mjCode 6 47 = some (.putfield 35, 3, 0, 7) := by decide +kernel
theorem p6_47 {s0 s1 : Int} {q0 q1 q2 q3 : MV} {ds : Ds} {m : Mm} {Q : Ds → Mm → List MV → Prop} : WP 6 47 [q0, q1, q2, q3] [(0, s0), (2, s1)] ds m Q = ((dk ds s1 = 0 ∧ WP 6 50 [q0, q1, q2, q3] [] ds (up m s1 7 s0) Q)) := P_pf k6_47 rfl
set_option maxRecDepth 20000 in
theorem k6_50 : mjCode 6 50 = some (.return_, 1, 0, 0) := by decide +kernel
theorem p6_50 {q0 q1 q2 q3 : MV} {ds : Ds} {m : Mm} {Q : Ds → Mm → List MV → Prop} : WP 6 50 [q0, q1, q2, q3] [] ds m Q = (Q ds m []) := P_rv k6_50 rk6
set_option maxRecDepth 20000 in
theorem k7_0 : mjCode 7 0 = some (.aload_n 0, 1, 0, 0) := by decide +kernel
theorem p7_0 {l0 : Int} {q1 : MV} {ds : Ds} {m : Mm} {Q : Ds → Mm → List MV → Prop} : WP 7 0 [(2, l0), q1] [] ds m Q = (WP 7 1 [(2, l0), q1] [(2, l0)] ds m Q) := P_nx k7_0 rfl
set_option maxRecDepth 20000 in
theorem k7_1 : mjCode 7 1 = some (.iload_n 1, 1, 0, 0) := by decide +kernel
theorem p7_1 {l1 s0 : Int} {q0 : MV} {ds : Ds} {m : Mm} {Q : Ds → Mm → List MV → Prop} : WP 7 1 [q0, (0, l1)] [(2, s0)] ds m Q = (WP 7 2 [q0, (0, l1)] [(0, l1), (2, s0)] ds m Q) := P_nx k7_1 rfl
set_option maxRecDepth 20000 in
theorem k7_2 : mjCode 7 2 = some (.invokevirtual 50, 3, 3, 2) := by decide +kernel
theorem p7_2 {s0 s1 : Int} {q0 q1 : MV} {ds : Ds} {m : Mm} {Q : Ds → Mm → List MV → Prop} : WP 7 2 [q0, q1] [(0, s0), (2, s1)] ds m Q = ((dk ds s1 = 0 ∧ WP 2 0 [(2, s1), (0, s0)] [] ds m (fun d2 m2 r2 => WP 7 5 [q0, q1] (r2 ++ []) d2 m2 Q))) := P_cv k7_2 mx2 mo2 rfl rfl rfl rfl rfl rfl rfl rfl
set_option maxRecDepth 20000 in
theorem k7_5 : mjCode 7 5 = some (.ifCond .eq 30, 3, 35, 0) := by decide +kernel
theorem p7_5 {s0 : Int} {q0 q1 : MV} {ds : Ds} {m : Mm} {Q : Ds → Mm → List MV → Prop} : WP 7 5 [q0, q1] [(0, s0)] ds m Q = (if s0 = 0 then WP 7 35 [q0, q1] [] ds m Q else WP 7 8 [q0, q1] [] ds m Q) := P_if k7_5 rfl
set_option maxRecDepth 20000 in
theorem k7_8 : mjCode 7 8 = some (.aload_n 0, 1, 0, 0) := by decide +kernel
theorem p7_8 {l0 : Int} {q1 : MV} {ds : Ds} {m : Mm} {Q : Ds → Mm → List MV → Prop} : WP 7 8 [(2, l0), q1] [] ds m Q = (WP 7 9 [(2, l0), q1] [(2, l0)] ds m Q) := P_nx k7_8 rfl
set_option maxRecDepth 20000 in
theorem k7_9 : mjCode 7 9 = some (.getfield 18, 3, 0, 2) := by decide +kernel
theorem p7_9 {s0 : Int} {q0 q1 : MV} {ds : Ds} {m : Mm} {Q : Ds → Mm → List MV → Prop} : WP 7 9 [q0, q1] [(2, s0)] ds m Q = ((dk ds s0 = 0 ∧ WP 7 12 [q0, q1] [(2, m s0 2)] ds m Q)) := P_gd k7_9 rfl
set_option maxRecDepth 20000 in
theorem k7_12 : mjCode 7 12 = some (.iload_n 1, 1, 0, 0) := by decide +kernel
theorem p7_12 {l1 s0 : Int} {q0 : MV} {ds : Ds} {m : Mm} {Q : Ds → Mm → List MV → Prop} : WP 7 12 [q0, (0, l1)] [(2, s0)] ds m Q = (WP 7 13 [q0, (0, l1)] [(0, l1), (2, s0)] ds m Q) := P_nx k7_12 rfl
set_option maxRecDepth 20000 in
theorem k7_13 : mjCode 7 13 = some (.iaload, 1, 0, 0) := by decide +kernel
theorem p7_13 {s0 s1 : Int} {q0 q1 : MV} {ds : Ds} {m : Mm} {Q : Ds → Mm → List MV → Prop} : WP 7 13 [q0, q1] [(0, s0), (2, s1)] ds m Q = ((dk ds s1 = 10 ∧ 0 ≤ s0 ∧ s0 < dl ds s1 ∧ WP 7 14 [q0, q1] [(0, m s1 s0)] ds m Q)) := P_g3 k7_13 rfl
set_option maxRecDepth 20000 in
theorem k7_14 : mjCode 7 14 = some (.iconst (-1), 1, 0, 0) := by decide +kernel
theorem p7_14 {s0 : Int} {q0 q1 : MV} {ds : Ds} {m : Mm} {Q : Ds → Mm → List MV → Prop} : WP 7 14 [q0, q1] [(0, s0)] ds m Q = (WP 7 15 [q0, q1] [(0, (-1)), (0, s0)] ds m Q) := P_nx k7_14 rfl
set_option maxRecDepth 20000 in
theorem k7_15 : mjCode 7 15 = some (.if_icmp .eq 20, 3, 35, 0) := by decide +kernel
theorem p7_15 {s0 s1 : Int} {q0 q1 : MV} {ds : Ds} {m : Mm} {Q : Ds → Mm → List MV → Prop} : WP 7 15 [q0, q1] [(0, s0), (0, s1)] ds m Q = (if s1 = s0 then WP 7 35 [q0, q1] [] ds m Q else WP 7 18 [q0, q1] [] ds m Q) := P_if k7_15 rfl
set_option maxRecDepth 20000 in
theorem k7_18 : mjCode 7 18 = some (.aload_n 0, 1, 0, 0) := by decide +kernel
theorem p7_18 {l0 : Int} {q1 : MV} {ds : Ds} {m : Mm} {Q : Ds → Mm → List MV → Prop} : WP 7 18 [(2, l0), q1] [] ds m Q = (WP 7 19 [(2, l0), q1] [(2, l0)] ds m Q) := P_nx k7_18 rfl
set_option maxRecDepth 20000 in
theorem k7_19 : mjCode 7 19 = some (.getfield 18, 3, 0, 2) := by decide +kernel
theorem p7_19 {s0 : Int} {q0 q1 : MV} {ds : Ds} {m : Mm} {Q : Ds → Mm → List MV → Prop} : WP 7 19 [q0, q1] [(2, s0)] ds m Q = ((dk ds s0 = 0 ∧ WP 7 22 [q0, q1] [(2, m s0 2)] ds m Q)) := P_gd k7_19 rfl
set_option maxRecDepth 20000 in
theorem k7_22 : mjCode 7 22 = some (.iload_n 1, 1, 0, 0) := by decide +kernel
theorem p7_22 {l1 s0 : Int} {q0 : MV} {ds : Ds} {m : Mm} {Q : Ds → Mm → List MV → Prop} : WP 7 22 [q0, (0, l1)] [(2, s0)] ds m Q = (WP 7 23 [q0, (0, l1)] [(0, l1), (2, s0)] ds m Q) := P_nx k7_22 rfl
set_option maxRecDepth 20000 in
theorem k7_23 : mjCode 7 23 = some (.iconst (-1), 1, 0, 0) := by decide +kernel
theorem p7_23 {s0 s1 : Int} {q0 q1 : MV} {ds : Ds} {m : Mm} {Q : Ds → Mm → List MV → Prop} : WP 7 23 [q0, q1] [(0, s0), (2, s1)] ds m Q = (WP 7 24 [q0, q1] [(0, (-1)), (0, s0), (2, s1)] ds m Q) := P_nx k7_23 rfl
set_option maxRecDepth 20000 in
theorem k7_24 : mjCode 7 24 = some (.iastore, 1, 0, 0) := by decide +kernel
theorem p7_24 {s0 s1 s2 : Int} {q0 q1 : MV} {ds : Ds} {m : Mm} {Q : Ds → Mm → List MV → Prop} : WP 7 24 [q0, q1] [(0, s0), (0, s1), (2, s2)] ds m Q = ((dk ds s2 = 10 ∧ 0 ≤ s1 ∧ s1 < dl ds s2 ∧ WP 7 25 [q0, q1] [] ds (up m s2 s1 s0) Q)) := P_s3 k7_24 rfl
set_option maxRecDepth 20000 in
theorem k7_25 : mjCode 7 25 = some (.aload_n 0, 1, 0, 0) := by decide +kernel
theorem p7_25 {l0 : Int} {q1 : MV} {ds : Ds} {m : Mm} {Q : Ds → Mm → List MV → Prop} : WP 7 25 [(2, l0), q1] [] ds m Q = (WP 7 26 [(2, l0), q1] [(2, l0)] ds m Q) := P_nx k7_25 rfl
set_option maxRecDepth 20000 in
theorem k7_26 : mjCode 7 26 = some (.dup, 1, 0, 0) := by decide +kernel
theorem p7_26 {s0 : Int} {q0 q1 : MV} {ds : Ds} {m : Mm} {Q : Ds → Mm → List MV → Prop} : WP 7 26 [q0, q1] [(2, s0)] ds m Q = (WP 7 27 [q0, q1] [(2, s0), (2, s0)] ds m Q) := P_nx k7_26 rfl
set_option maxRecDepth 20000 in
theorem k7_27 : mjCode 7 27 = some (.getfield 35, 3, 0, 7) := by decide +kernel
theorem p7_27 {s0 s1 : Int} {q0 q1 : MV} {ds : Ds} {m : Mm} {Q : Ds → Mm → List MV → Prop} : WP 7 27 [q0, q1] [(2, s0), (2, s1)] ds m Q = ((dk ds s0 = 0 ∧ WP 7 30 [q0, q1] [(0, m s0 7), (2, s1)] ds m Q)) := P_gd k7_27 rfl
set_option maxRecDepth 20000 in
theorem k7_30 : mjCode 7 30 = some (.iconst 1, 1, 0, 0) := by decide +kernel
theorem p7_30 {s0 s1 : Int} {q0 q1 : MV} {ds : Ds} {m : Mm} {Q : Ds → Mm → List MV → Prop} : WP 7 30 [q0, q1] [(0, s0), (2, s1)] ds m Q = (WP 7 31 [q0, q1] [(0, 1), (0, s0), (2, s1)] ds m Q) := P_nx k7_30 rfl
set_option maxRecDepth 20000 in
theorem k7_31 : mjCode 7 31 = some (.isub, 1, 0, 0) := by decide +kernel
theorem p7_31 {s0 s1 s2 : Int} {q0 q1 : MV} {ds : Ds} {m : Mm} {Q : Ds → Mm → List MV → Prop} : WP 7 31 [q0, q1] [(0, s0), (0, s1), (2, s2)] ds m Q = (WP 7 32 [q0, q1] [(0, w32 (s1 - s0)), (2, s2)] ds m Q) := P_nx k7_31 rfl
set_option maxRecDepth 20000 in
theorem k7_32 : mjCode 7 32 = some (.putfield 35, 3, 0, 7) := by decide +kernel
theorem p7_32 {s0 s1 : Int} {q0 q1 : MV} {ds : Ds} {m : Mm} {Q : Ds → Mm → List MV → Prop} : WP 7 32 [q0, q1] [(0, s0), (2, s1)] ds m Q = ((dk ds s1 = 0 ∧ WP 7 35 [q0, q1] [] ds (up m s1 7 s0) Q)) := P_pf k7_32 rfl
set_option maxRecDepth 20000 in
theorem k7_35 : mjCode 7 35 = some (.return_, 1, 0, 0) := by decide +kernel
theorem p7_35 {q0 q1 : MV} {ds : Ds} {m : Mm} {Q : Ds → Mm → List MV → Prop} : WP 7 35 [q0, q1] [] ds m Q = (Q ds m []) := P_rv k7_35 rk7
set_option maxRecDepth 20000 in
theorem k8_0 : mjCode 8 0 = some (.aload_n 0, 1, 0, 0) := by decide +kernel
theorem p8_0 {l0 : Int} {q1 : MV} {ds : Ds} {m : Mm} {Q : Ds → Mm → List MV → Prop} : WP 8 0 [(2, l0), q1] [] ds m Q = (WP 8 1 [(2, l0), q1] [(2, l0)] ds m Q) := P_nx k8_0 rfl
set_option maxRecDepth 20000 in
theorem k8_1 : mjCode 8 1 = some (.iload_n 1, 1, 0, 0) := by decide +kernel
theorem p8_1 {l1 s0 : Int} {q0 : MV} {ds : Ds} {m : Mm} {Q : Ds → Mm → List MV → Prop} : WP 8 1 [q0, (0, l1)] [(2, s0)] ds m Q = (WP 8 2 [q0, (0, l1)] [(0, l1), (2, s0)] ds m Q) := P_nx k8_1 rfl
set_option maxRecDepth 20000 in
theorem k8_2 : mjCode 8 2 = some (.invokevirtual 53, 3, 8, 2) := by decide +kernel
theorem p8_2 {s0 s1 : Int} {q0 q1 : MV} {ds : Ds} {m : Mm} {Q : Ds → Mm → List MV → Prop} : WP 8 2 [q0, q1] [(0, s0), (2, s1)] ds m Q = ((dk ds s1 = 0 ∧ WP 7 0 [(2, s1), (0, s0)] [] ds m (fun d2 m2 r2 => WP 8 5 [q0, q1] (r2 ++ []) d2 m2 Q))) := P_cv k8_2 mx7 mo7 rfl rfl rfl rfl rfl rfl rfl rfl
set_option maxRecDepth 20000 in
theorem k8_5 : mjCode 8 5 = some (.aload_n 0, 1, 0, 0) := by decide +kernel
theorem p8_5 {l0 : Int} {q1 : MV} {ds : Ds} {m : Mm} {Q : Ds → Mm → List MV → Prop} : WP 8 5 [(2, l0), q1] [] ds m Q = (WP 8 6 [(2, l0), q1] [(2, l0)] ds m Q) := P_nx k8_5 rfl
set_option maxRecDepth 20000 in
theorem k8_6 : mjCode 8 6 = some (.iload_n 1, 1, 0, 0) := by decide +kernel
theorem p8_6 {l1 s0 : Int} {q0 : MV} {ds : Ds} {m : Mm} {Q : Ds → Mm → List MV → Prop} : WP 8 6 [q0, (0, l1)] [(2, s0)] ds m Q = (WP 8 7 [q0, (0, l1)] [(0, l1), (2, s0)] ds m Q) := P_nx k8_6 rfl
set_option maxRecDepth 20000 in
theorem k8_7 : mjCode 8 7 = some (.invokevirtual 50, 3, 3, 2) := by decide +kernel
theorem p8_7 {s0 s1 : Int} {q0 q1 : MV} {ds : Ds} {m : Mm} {Q : Ds → Mm → List MV → Prop} : WP 8 7 [q0, q1] [(0, s0), (2, s1)] ds m Q = ((dk ds s1 = 0 ∧ WP 2 0 [(2, s1), (0, s0)] [] ds m (fun d2 m2 r2 => WP 8 10 [q0, q1] (r2 ++ []) d2 m2 Q))) := P_cv k8_7 mx2 mo2 rfl rfl rfl rfl rfl rfl rfl rfl
set_option maxRecDepth 20000 in
theorem k8_10 : mjCode 8 10 = some (.ifCond .eq 37, 3, 47, 0) := by decide +kernel
theorem p8_10 {s0 : Int} {q0 q1 : MV} {ds : Ds} {m : Mm} {Q : Ds → Mm → List MV → Prop} : WP 8 10 [q0, q1] [(0, s0)] ds m Q = (if s0 = 0 then WP 8 47 [q0, q1] [] ds m Q else WP 8 13 [q0, q1] [] ds m Q) := P_if k8_10 rfl
set_option maxRecDepth 20000 in
theorem k8_13 : mjCode 8 13 = some (.aload_n 0, 1, 0, 0) := by decide +kernel
theorem p8_13 {l0 : Int} {q1 : MV} {ds : Ds} {m : Mm} {Q : Ds → Mm → List MV → Prop} : WP 8 13 [(2, l0), q1] [] ds m Q = (WP 8 14 [(2, l0), q1] [(2, l0)] ds m Q) := P_nx k8_13 rfl
set_option maxRecDepth 20000 in
theorem k8_14 : mjCode 8 14 = some (.getfield 15, 3, 0, 1) := by decide +kernel
theorem p8_14 {s0 : Int} {q0 q1 : MV} {ds : Ds} {m : Mm} {Q : Ds → Mm → List MV → Prop} : WP 8 14 [q0, q1] [(2, s0)] ds m Q = ((dk ds s0 = 0 ∧ WP 8 17 [q0, q1] [(2, m s0 1)] ds m Q)) := P_gd k8_14 rfl
set_option maxRecDepth 20000 in
theorem k8_17 : mjCode 8 17 = some (.iload_n 1, 1, 0, 0) := by decide +kernel
theorem p8_17 {l1 s0 : Int} {q0 : MV} {ds : Ds} {m : Mm} {Q : Ds → Mm → List MV → Prop} : WP 8 17 [q0, (0, l1)] [(2, s0)] ds m Q = (WP 8 18 [q0, (0, l1)] [(0, l1), (2, s0)] ds m Q) := P_nx k8_17 rfl
set_option maxRecDepth 20000 in
theorem k8_18 : mjCode 8 18 = some (.iaload, 1, 0, 0) := by decide +kernel
theorem p8_18 {s0 s1 : Int} {q0 q1 : MV} {ds : Ds} {m : Mm} {Q : Ds → Mm → List MV → Prop} : WP 8 18 [q0, q1] [(0, s0), (2, s1)] ds m Q = ((dk ds s1 = 10 ∧ 0 ≤ s0 ∧ s0 < dl ds s1 ∧ WP 8 19 [q0, q1] [(0, m s1 s0)] ds m Q)) := P_g3 k8_18 rfl
set_option maxRecDepth 20000 in
theorem k8_19 : mjCode 8 19 = some (.invokestatic 47, 3, 108, 1) := by decide +kernel
theorem p8_19 {s0 : Int} {q0 q1 : MV} {ds : Ds} {m : Mm} {Q : Ds → Mm → List MV → Prop} : WP 8 19 [q0, q1] [(0, s0)] ds m Q = (WP 107 0 [(0, s0)] [] ds m (fun d2 m2 r2 => WP 8 22 [q0, q1] (r2 ++ []) d2 m2 Q)) := P_cs k8_19 mx107 rfl rfl rfl rfl rfl rfl rfl
set_option maxRecDepth 20000 in
theorem k8_22 : mjCode 8 22 = some (.ifCond .eq 25, 3, 47, 0) := by decide +kernel
theorem p8_22 {s0 : Int} {q0 q1 : MV} {ds : Ds} {m : Mm} {Q : Ds → Mm → List MV → Prop} : WP 8 22 [q0, q1] [(0, s0)] ds m Q = (if s0 = 0 then WP 8 47 [q0, q1] [] ds m Q else WP 8 25 [q0, q1] [] ds m Q) := P_if k8_22 rfl
set_option maxRecDepth 20000 in
theorem k8_25 : mjCode 8 25 = some (.aload_n 0, 1, 0, 0) := by decide +kernel
theorem p8_25 {l0 : Int} {q1 : MV} {ds : Ds} {m : Mm} {Q : Ds → Mm → List MV → Prop} : WP 8 25 [(2, l0), q1] [] ds m Q = (WP 8 26 [(2, l0), q1] [(2, l0)] ds m Q) := P_nx k8_25 rfl
set_option maxRecDepth 20000 in
theorem k8_26 : mjCode 8 26 = some (.getfield 9, 3, 0, 0) := by decide +kernel
theorem p8_26 {s0 : Int} {q0 q1 : MV} {ds : Ds} {m : Mm} {Q : Ds → Mm → List MV → Prop} : WP 8 26 [q0, q1] [(2, s0)] ds m Q = ((dk ds s0 = 0 ∧ WP 8 29 [q0, q1] [(2, m s0 0)] ds m Q)) := P_gd k8_26 rfl
set_option maxRecDepth 20000 in
theorem k8_29 : mjCode 8 29 = some (.aload_n 0, 1, 0, 0) := by decide +kernel
theorem p8_29 {l0 s0 : Int} {q1 : MV} {ds : Ds} {m : Mm} {Q : Ds → Mm → List MV → Prop} : WP 8 29 [(2, l0), q1] [(2, s0)] ds m Q = (WP 8 30 [(2, l0), q1] [(2, l0), (2, s0)] ds m Q) := P_nx k8_29 rfl
set_option maxRecDepth 20000 in
theorem k8_30 : mjCode 8 30 = some (.getfield 15, 3, 0, 1) := by decide +kernel
theorem p8_30 {s0 s1 : Int} {q0 q1 : MV} {ds : Ds} {m : Mm} {Q : Ds → Mm → List MV → Prop} : WP 8 30 [q0, q1] [(2, s0), (2, s1)] ds m Q = ((dk ds s0 = 0 ∧ WP 8 33 [q0, q1] [(2, m s0 1), (2, s1)] ds m Q)) := P_gd k8_30 rfl
set_option maxRecDepth 20000 in
theorem k8_33 : mjCode 8 33 = some (.iload_n 1, 1, 0, 0) := by decide +kernel
theorem p8_33 {l1 s0 s1 : Int} {q0 : MV} {ds : Ds} {m : Mm} {Q : Ds → Mm → List MV → Prop} : WP 8 33 [q0, (0, l1)] [(2, s0), (2, s1)] ds m Q = (WP 8 34 [q0, (0, l1)] [(0, l1), (2, s0), (2, s1)] ds m Q) := P_nx k8_33 rfl
set_option maxRecDepth 20000 in
theorem k8_34 : mjCode 8 34 = some (.iaload, 1, 0, 0) := by decide +kernel
theorem p8_34 {s0 s1 s2 : Int} {q0 q1 : MV} {ds : Ds} {m : Mm} {Q : Ds → Mm → List MV → Prop} : WP 8 34 [q0, q1] [(0, s0), (2, s1), (2, s2)] ds m Q = ((dk ds s1 = 10 ∧ 0 ≤ s0 ∧ s0 < dl ds s1 ∧ WP 8 35 [q0, q1] [(0, m s1 s0), (2, s2)] ds m Q)) := P_g3 k8_34 rfl
set_option maxRecDepth 20000 in
theorem k8_35 : mjCode 8 35 = some (.iconst (-1), 1, 0, 0) := by decide +kernel
theorem p8_35 {s0 s1 : Int} {q0 q1 : MV} {ds : Ds} {m : Mm} {Q : Ds → Mm → List MV → Prop} : WP 8 35 [q0, q1] [(0, s0), (2, s1)] ds m Q = (WP 8 36 [q0, q1] [(0, (-1)), (0, s0), (2, s1)] ds m Q) := P_nx k8_35 rfl
set_option maxRecDepth 20000 in
theorem k8_36 : mjCode 8 36 = some (.iastore, 1, 0, 0) := by decide +kernel
theorem p8_36 {s0 s1 s2 : Int} {q0 q1 : MV} {ds : Ds} {m : Mm} {Q : Ds → Mm → List MV → Prop} : WP 8 36 [q0, q1] [(0, s0), (0, s1), (2, s2)] ds m Q = ((dk ds s2 = 10 ∧ 0 ≤ s1 ∧ s1 < dl ds s2 ∧ WP 8 37 [q0, q1] [] ds (up m s2 s1 s0) Q)) := P_s3 k8_36 rfl
set_option maxRecDepth 20000 in
theorem k8_37 : mjCode 8 37 = some (.aload_n 0, 1, 0, 0) := by decide +kernel
theorem p8_37 {l0 : Int} {q1 : MV} {ds : Ds} {m : Mm} {Q : Ds → Mm → List MV → Prop} : WP 8 37 [(2, l0), q1] [] ds m Q = (WP 8 38 [(2, l0), q1] [(2, l0)] ds m Q) := P_nx k8_37 rfl
set_option maxRecDepth 20000 in
theorem k8_38 : mjCode 8 38 = some (.dup, 1, 0, 0) := by decide +kernel
theorem p8_38 {s0 : Int} {q0 q1 : MV} {ds : Ds} {m : Mm} {Q : Ds → Mm → List MV → Prop} : WP 8 38 [q0, q1] [(2, s0)] ds m Q = (WP 8 39 [q0, q1] [(2, s0), (2, s0)] ds m Q) := P_nx k8_38 rfl
set_option maxRecDepth 20000 in
theorem k8_39 : mjCode 8 39 = some (.getfield 38, 3, 0, 8) := by decide +kernel
theorem p8_39 {s0 s1 : Int} {q0 q1 : MV} {ds : Ds} {m : Mm} {Q : Ds → Mm → List MV → Prop} : WP 8 39 [q0, q1] [(2, s0), (2, s1)] ds m Q = ((dk ds s0 = 0 ∧ WP 8 42 [q0, q1] [(0, m s0 8), (2, s1)] ds m Q)) := P_gd k8_39 rfl
set_option maxRecDepth 20000 in
theorem k8_42 : mjCode 8 42 = some (.iconst 1, 1, 0, 0) := by decide +kernel
theorem p8_42 {s0 s1 : Int} {q0 q1 : MV} {ds : Ds} {m : Mm} {Q : Ds → Mm → List MV → Prop} : WP 8 42 [q0, q1] [(0, s0), (2, s1)] ds m Q = (WP 8 43 [q0, q1] [(0, 1), (0, s0), (2, s1)] ds m Q) := P_nx k8_42 rfl
set_option maxRecDepth 20000 in
theorem k8_43 : mjCode 8 43 = some (.iadd, 1, 0, 0) := by decide +kernel
theorem p8_43 {s0 s1 s2 : Int} {q0 q1 : MV} {ds : Ds} {m : Mm} {Q : Ds → Mm → List MV → Prop} : WP 8 43 [q0, q1] [(0, s0), (0, s1), (2, s2)] ds m Q = (WP 8 44 [q0, q1] [(0, w32 (s1 + s0)), (2, s2)] ds m Q) := P_nx k8_43 rfl
set_option maxRecDepth 20000 in
theorem k8_44 : mjCode 8 44 = some (.putfield 38, 3, 0, 8) := by decide +kernel
theorem p8_44 {s0 s1 : Int} {q0 q1 : MV} {ds : Ds} {m : Mm} {Q : Ds → Mm → List MV → Prop} : WP 8 44 [q0, q1] [(0, s0), (2, s1)] ds m Q = ((dk ds s1 = 0 ∧ WP 8 47 [q0, q1] [] ds (up m s1 8 s0) Q)) := P_pf k8_44 rfl
set_option maxRecDepth 20000 in
theorem k8_47 : mjCode 8 47 = some (.return_, 1, 0, 0) := by decide +kernel
theorem p8_47 {q0 q1 : MV} {ds : Ds} {m : Mm} {Q : Ds → Mm → List MV → Prop} : WP 8 47 [q0, q1] [] ds m Q = (Q ds m []) := P_rv k8_47 rk8
set_option maxRecDepth 20000 in
theorem k9_0 : mjCode 9 0 = some (.aload_n 0, 1, 0, 0) := by decide +kernel
theorem p9_0 {l0 : Int} {q1 q2 q3 : MV} {ds : Ds} {m : Mm} {Q : Ds → Mm → List MV → Prop} : WP 9 0 [(2, l0), q1, q2, q3] [] ds m Q = (WP 9 1 [(2, l0), q1, q2, q3] [(2, l0)] ds m Q) := P_nx k9_0 rfl
set_option maxRecDepth 20000 in
theorem k9_1 : mjCode 9 1 = some (.iload_n 1, 1, 0, 0) := by decide +kernel
theorem p9_1 {l1 s0 : Int} {q0 q2 q3 : MV} {ds : Ds} {m : Mm} {Q : Ds → Mm → List MV → Prop} : WP 9 1 [q0, (0, l1), q2, q3] [(2, s0)] ds m Q = (WP 9 2 [q0, (0, l1), q2, q3] [(0, l1), (2, s0)] ds m Q) := P_nx k9_1 rfl
set_option maxRecDepth 20000 in
theorem k9_2 : mjCode 9 2 = some (.invokevirtual 50, 3, 3, 2) := by decide +kernel
theorem p9_2 {s0 s1 : Int} {q0 q1 q2 q3 : MV} {ds : Ds} {m : Mm} {Q : Ds → Mm → List MV → Prop} : WP 9 2 [q0, q1, q2, q3] [(0, s0), (2, s1)] ds m Q = ((dk ds s1 = 0 ∧ WP 2 0 [(2, s1), (0, s0)] [] ds m (fun d2 m2 r2 => WP 9 5 [q0, q1, q2, q3] (r2 ++ []) d2 m2 Q))) := P_cv k9_2 mx2 mo2 rfl rfl rfl rfl rfl rfl rfl rfl
set_option maxRecDepth 20000 in
theorem k9_5 : mjCode 9 5 = some (.ifCond .eq 79, 3, 84, 0) := by decide +kernel
theorem p9_5 {s0 : Int} {q0 q1 q2 q3 : MV} {ds : Ds} {m : Mm} {Q : Ds → Mm → List MV → Prop} : WP 9 5 [q0, q1, q2, q3] [(0, s0)] ds m Q = (if s0 = 0 then WP 9 84 [q0, q1, q2, q3] [] ds m Q else WP 9 8 [q0, q1, q2, q3] [] ds m Q) := P_if k9_5 rfl
set_option maxRecDepth 20000 in
theorem k9_8 : mjCode 9 8 = some (.iload_n 2, 1, 0, 0) := by decide +kernel
theorem p9_8 {l2 : Int} {q0 q1 q3 : MV} {ds : Ds} {m : Mm} {Q : Ds → Mm → List MV → Prop} : WP 9 8 [q0, q1, (0, l2), q3] [] ds m Q = (WP 9 9 [q0, q1, (0, l2), q3] [(0, l2)] ds m Q) := P_nx k9_8 rfl
set_option maxRecDepth 20000 in
theorem k9_9 : mjCode 9 9 = some (.invokestatic 47, 3, 108, 1) := by decide +kernel
theorem p9_9 {s0 : Int} {q0 q1 q2 q3 : MV} {ds : Ds} {m : Mm} {Q : Ds → Mm → List MV → Prop} : WP 9 9 [q0, q1, q2, q3] [(0, s0)] ds m Q = (WP 107 0 [(0, s0)] [] ds m (fun d2 m2 r2 => WP 9 12 [q0, q1, q2, q3] (r2 ++ []) d2 m2 Q)) := P_cs k9_9 mx107 rfl rfl rfl rfl rfl rfl rfl
set_option maxRecDepth 20000 in
theorem k9_12 : mjCode 9 12 = some (.ifCond .eq 72, 3, 84, 0) := by decide +kernel
theorem p9_12 {s0 : Int} {q0 q1 q2 q3 : MV} {ds : Ds} {m : Mm} {Q : Ds → Mm → List MV → Prop} : WP 9 12 [q0, q1, q2, q3] [(0, s0)] ds m Q = (if s0 = 0 then WP 9 84 [q0, q1, q2, q3] [] ds m Q else WP 9 15 [q0, q1, q2, q3] [] ds m Q) := P_if k9_12 rfl
set_option maxRecDepth 20000 in
theorem k9_15 : mjCode 9 15 = some (.aload_n 0, 1, 0, 0) := by decide +kernel
theorem p9_15 {l0 : Int} {q1 q2 q3 : MV} {ds : Ds} {m : Mm} {Q : Ds → Mm → List MV → Prop} : WP 9 15 [(2, l0), q1, q2, q3] [] ds m Q = (WP 9 16 [(2, l0), q1, q2, q3] [(2, l0)] ds m Q) := P_nx k9_15 rfl
set_option maxRecDepth 20000 in
theorem k9_16 : mjCode 9 16 = some (.getfield 15, 3, 0, 1) := by decide +kernel
theorem p9_16 {s0 : Int} {q0 q1 q2 q3 : MV} {ds : Ds} {m : Mm} {Q : Ds → Mm → List MV → Prop} : WP 9 16 [q0, q1, q2, q3] [(2, s0)] ds m Q = ((dk ds s0 = 0 ∧ WP 9 19 [q0, q1, q2, q3] [(2, m s0 1)] ds m Q)) := P_gd k9_16 rfl
set_option maxRecDepth 20000 in
theorem k9_19 : mjCode 9 19 = some (.iload_n 1, 1, 0, 0) := by decide +kernel
theorem p9_19 {l1 s0 : Int} {q0 q2 q3 : MV} {ds : Ds} {m : Mm} {Q : Ds → Mm → List MV → Prop} : WP 9 19 [q0, (0, l1), q2, q3] [(2, s0)] ds m Q = (WP 9 20 [q0, (0, l1), q2, q3] [(0, l1), (2, s0)] ds m Q) := P_nx k9_19 rfl
set_option maxRecDepth 20000 in
theorem k9_20 : mjCode 9 20 = some (.iaload, 1, 0, 0) := by decide +kernel
theorem p9_20 {s0 s1 : Int} {q0 q1 q2 q3 : MV} {ds : Ds} {m : Mm} {Q : Ds → Mm → List MV → Prop} : WP 9 20 [q0, q1, q2, q3] [(0, s0), (2, s1)] ds m Q = ((dk ds s1 = 10 ∧ 0 ≤ s0 ∧ s0 < dl ds s1 ∧ WP 9 21 [q0, q1, q2, q3] [(0, m s1 s0)] ds m Q)) := P_g3 k9_20 rfl
set_option maxRecDepth 20000 in
theorem k9_21 : mjCode 9 21 = some (.invokestatic 47, 3, 108, 1) := by decide +kernel
theorem p9_21 {s0 : Int} {q0 q1 q2 q3 : MV} {ds : Ds} {m : Mm} {Q : Ds → Mm → List MV → Prop} : WP 9 21 [q0, q1, q2, q3] [(0, s0)] ds m Q = (WP 107 0 [(0, s0)] [] ds m (fun d2 m2 r2 => WP 9 24 [q0, q1, q2, q3] (r2 ++ []) d2 m2 Q)) := P_cs k9_21 mx107 rfl rfl rfl rfl rfl rfl rfl
set_option maxRecDepth 20000 in
theorem k9_24 : mjCode 9 24 = some (.ifCond .eq 60, 3, 84, 0) := by decide +kernel
theorem p9_24 {s0 : Int} {q0 q1 q2 q3 : MV} {ds : Ds} {m : Mm} {Q : Ds → Mm → List MV → Prop} : WP 9 24 [q0, q1, q2, q3] [(0, s0)] ds m Q = (if s0 = 0 then WP 9 84 [q0, q1, q2, q3] [] ds m Q else WP 9 27 [q0, q1, q2, q3] [] ds m Q) := P_if k9_24 rfl
set_option maxRecDepth 20000 in
theorem k9_27 : mjCode 9 27 = some (.aload_n 0, 1, 0, 0) := by decide +kernel
theorem p9_27 {l0 : Int} {q1 q2 q3 : MV} {ds : Ds} {m : Mm} {Q : Ds → Mm → List MV → Prop} : WP 9 27 [(2, l0), q1, q2, q3] [] ds m Q = (WP 9 28 [(2, l0), q1, q2, q3] [(2, l0)] ds m Q) := P_nx k9_27 rfl
set_option maxRecDepth 20000 in
theorem k9_28 : mjCode 9 28 = some (.getfield 9, 3, 0, 0) := by decide +kernel
theorem p9_28 {s0 : Int} {q0 q1 q2 q3 : MV} {ds : Ds} {m : Mm} {Q : Ds → Mm → List MV → Prop} : WP 9 28 [q0, q1, q2, q3] [(2, s0)] ds m Q = ((dk ds s0 = 0 ∧ WP 9 31 [q0, q1, q2, q3] [(2, m s0 0)] ds m Q)) := P_gd k9_28 rfl
set_option maxRecDepth 20000 in
theorem k9_31 : mjCode 9 31 = some (.aload_n 0, 1, 0, 0) := by decide +kernel
theorem p9_31 {l0 s0 : Int} {q1 q2 q3 : MV} {ds : Ds} {m : Mm} {Q : Ds → Mm → List MV → Prop} : WP 9 31 [(2, l0), q1, q2, q3] [(2, s0)] ds m Q = (WP 9 32 [(2, l0), q1, q2, q3] [(2, l0), (2, s0)] ds m Q) := P_nx k9_31 rfl
set_option maxRecDepth 20000 in
theorem k9_32 : mjCode 9 32 = some (.getfield 15, 3, 0, 1) := by decide +kernel
theorem p9_32 {s0 s1 : Int} {q0 q1 q2 q3 : MV} {ds : Ds} {m : Mm} {Q : Ds → Mm → List MV → Prop} : WP 9 32 [q0, q1, q2, q3] [(2, s0), (2, s1)] ds m Q = ((dk ds s0 = 0 ∧ WP 9 35 [q0, q1, q2, q3] [(2, m s0 1), (2, s1)] ds m Q)) := P_gd k9_32 rfl
set_option maxRecDepth 20000 in
theorem k9_35 : mjCode 9 35 = some (.iload_n 1, 1, 0, 0) := by decide +kernel
theorem p9_35 {l1 s0 s1 : Int} {q0 q2 q3 : MV} {ds : Ds} {m : Mm} {Q : Ds → Mm → List MV → Prop} : WP 9 35 [q0, (0, l1), q2, q3] [(2, s0), (2, s1)] ds m Q = (WP 9 36 [q0, (0, l1), q2, q3] [(0, l1), (2, s0), (2, s1)] ds m Q) := P_nx k9_35 rfl
set_option maxRecDepth 20000 in
theorem k9_36 : mjCode 9 36 = some (.iaload, 1, 0, 0) := by decide +kernel
theorem p9_36 {s0 s1 s2 : Int} {q0 q1 q2 q3 : MV} {ds : Ds} {m : Mm} {Q : Ds → Mm → List MV → Prop} : WP 9 36 [q0, q1, q2, q3] [(0, s0), (2, s1), (2, s2)] ds m Q = ((dk ds s1 = 10 ∧ 0 ≤ s0 ∧ s0 < dl ds s1 ∧ WP 9 37 [q0, q1, q2, q3] [(0, m s1 s0), (2, s2)] ds m Q)) := P_g3 k9_36 rfl
set_option maxRecDepth 20000 in
theorem k9_37 : mjCode 9 37 = some (.iconst (-1), 1, 0, 0) := by decide +kernel
theorem p9_37 {s0 s1 : Int} {q0 q1 q2 q3 : MV} {ds : Ds} {m : Mm} {Q : Ds → Mm → List MV → Prop} : WP 9 37 [q0, q1, q2, q3] [(0, s0), (2, s1)] ds m Q = (WP 9 38 [q0, q1, q2, q3] [(0, (-1)), (0, s0), (2, s1)] ds m Q) := P_nx k9_37 rfl
set_option maxRecDepth 20000 in
theorem k9_38 : mjCode 9 38 = some (.iastore, 1, 0, 0) := by decide +kernel
theorem p9_38 {s0 s1 s2 : Int} {q0 q1 q2 q3 : MV} {ds : Ds} {m : Mm} {Q : Ds → Mm → List MV → Prop} : WP 9 38 [q0, q1, q2, q3] [(0, s0), (0, s1), (2, s2)] ds m Q = ((dk ds s2 = 10 ∧ 0 ≤ s1 ∧ s1 < dl ds s2 ∧ WP 9 39 [q0, q1, q2, q3] [] ds (up m s2 s1 s0) Q)) := P_s3 k9_38 rfl
set_option maxRecDepth 20000 in
theorem k9_39 : mjCode 9 39 = some (.aload_n 0, 1, 0, 0) := by decide +kernel
theorem p9_39 {l0 : Int} {q1 q2 q3 : MV} {ds : Ds} {m : Mm} {Q : Ds → Mm → List MV → Prop} : WP 9 39 [(2, l0), q1, q2, q3] [] ds m Q = (WP 9 40 [(2, l0), q1, q2, q3] [(2, l0)] ds m Q) := P_nx k9_39 rfl
set_option maxRecDepth 20000 in
theorem k9_40 : mjCode 9 40 = some (.getfield 9, 3, 0, 0) := by decide +kernel
theorem p9_40 {s0 : Int} {q0 q1 q2 q3 : MV} {ds : Ds} {m : Mm} {Q : Ds → Mm → List MV → Prop} : WP 9 40 [q0, q1, q2, q3] [(2, s0)] ds m Q = ((dk ds s0 = 0 ∧ WP 9 43 [q0, q1, q2, q3] [(2, m s0 0)] ds m Q)) := P_gd k9_40 rfl
set_option maxRecDepth 20000 in
theorem k9_43 : mjCode 9 43 = some (.iload_n 2, 1, 0, 0) := by decide +kernel
theorem p9_43 {l2 s0 : Int} {q0 q1 q3 : MV} {ds : Ds} {m : Mm} {Q : Ds → Mm → List MV → Prop} : WP 9 43 [q0, q1, (0, l2), q3] [(2, s0)] ds m Q = (WP 9 44 [q0, q1, (0, l2), q3] [(0, l2), (2, s0)] ds m Q) := P_nx k9_43 rfl
set_option maxRecDepth 20000 in
theorem k9_44 : mjCode 9 44 = some (.iload_n 1, 1, 0, 0) := by decide +kernel
theorem p9_44 {l1 s0 s1 : Int} {q0 q2 q3 : MV} {ds : Ds} {m : Mm} {Q : Ds → Mm → List MV → Prop} : WP 9 44 [q0, (0, l1), q2, q3] [(0, s0), (2, s1)] ds m Q = (WP 9 45 [q0, (0, l1), q2, q3] [(0, l1), (0, s0), (2, s1)] ds m Q) := P_nx k9_44 rfl
set_option maxRecDepth 20000 in
theorem k9_45 : mjCode 9 45 = some (.iastore, 1, 0, 0) := by decide +kernel
theorem p9_45 {s0 s1 s2 : Int} {q0 q1 q2 q3 : MV} {ds : Ds} {m : Mm} {Q : Ds → Mm → List MV → Prop} : WP 9 45 [q0, q1, q2, q3] [(0, s0), (0, s1), (2, s2)] ds m Q = ((dk ds s2 = 10 ∧ 0 ≤ s1 ∧ s1 < dl ds s2 ∧ WP 9 46 [q0, q1, q2, q3] [] ds (up m s2 s1 s0) Q)) := P_s3 k9_45 rfl
set_option maxRecDepth 20000 in
theorem k9_46 : mjCode 9 46 = some (.aload_n 0, 1, 0, 0) := by decide +kernel
theorem p9_46 {l0 : Int} {q1 q2 q3 : MV} {ds : Ds} {m : Mm} {Q : Ds → Mm → List MV → Prop} : WP 9 46 [(2, l0), q1, q2, q3] [] ds m Q = (WP 9 47 [(2, l0), q1, q2, q3] [(2, l0)] ds m Q) := P_nx k9_46 rfl
set_option maxRecDepth 20000 in
theorem k9_47 : mjCode 9 47 = some (.getfield 15, 3, 0, 1) := by decide +kernel
theorem p9_47 {s0 : Int} {q0 q1 q2 q3 : MV} {ds : Ds} {m : Mm} {Q : Ds → Mm → List MV → Prop} : WP 9 47 [q0, q1, q2, q3] [(2, s0)] ds m Q = ((dk ds s0 = 0 ∧ WP 9 50 [q0, q1, q2, q3] [(2, m s0 1)] ds m Q)) := P_gd k9_47 rfl
set_option maxRecDepth 20000 in
theorem k9_50 : mjCode 9 50 = some (.iload_n 1, 1, 0, 0) := by decide +kernel
theorem p9_50 {l1 s0 : Int} {q0 q2 q3 : MV} {ds : Ds} {m : Mm} {Q : Ds → Mm → List MV → Prop} : WP 9 50 [q0, (0, l1), q2, q3] [(2, s0)] ds m Q = (WP 9 51 [q0, (0, l1), q2, q3] [(0, l1), (2, s0)] ds m Q) := P_nx k9_50 rfl
set_option maxRecDepth 20000 in
theorem k9_51 : mjCode 9 51 = some (.iload_n 2, 1, 0, 0) := by decide +kernel
theorem p9_51 {l2 s0 s1 : Int} {q0 q1 q3 : MV} {ds : Ds} {m : Mm} {Q : Ds → Mm → List MV → Prop} : WP 9 51 [q0, q1, (0, l2), q3] [(0, s0), (2, s1)] ds m Q = (WP 9 52 [q0, q1, (0, l2), q3] [(0, l2), (0, s0), (2, s1)] ds m Q) := P_nx k9_51 rfl
set_option maxRecDepth 20000 in
theorem k9_52 : mjCode 9 52 = some (.iastore, 1, 0, 0) := by decide +kernel
theorem p9_52 {s0 s1 s2 : Int} {q0 q1 q2 q3 : MV} {ds : Ds} {m : Mm} {Q : Ds → Mm → List MV → Prop} : WP 9 52 [q0, q1, q2, q3] [(0, s0), (0, s1), (2, s2)] ds m Q = ((dk ds s2 = 10 ∧ 0 ≤ s1 ∧ s1 < dl ds s2 ∧ WP 9 53 [q0, q1, q2, q3] [] ds (up m s2 s1 s0) Q)) := P_s3 k9_52 rfl
set_option maxRecDepth 20000 in
theorem k9_53 : mjCode 9 53 = some (.aload_n 0, 1, 0, 0) := by decide +kernel
theorem p9_53 {l0 : Int} {q1 q2 q3 : MV} {ds : Ds} {m : Mm} {Q : Ds → Mm → List MV → Prop} : WP 9 53 [(2, l0), q1, q2, q3] [] ds m Q = (WP 9 54 [(2, l0), q1, q2, q3] [(2, l0)] ds m Q) := P_nx k9_53 rfl
set_option maxRecDepth 20000 in
theorem k9_54 : mjCode 9 54 = some (.getfield 18, 3, 0, 2) := by decide +kernel
theorem p9_54 {s0 : Int} {q0 q1 q2 q3 : MV} {ds : Ds} {m : Mm} {Q : Ds → Mm → List MV → Prop} : WP 9 54 [q0, q1, q2, q3] [(2, s0)] ds m Q = ((dk ds s0 = 0 ∧ WP 9 57 [q0, q1, q2, q3] [(2, m s0 2)] ds m Q)) := P_gd k9_54 rfl
set_option maxRecDepth 20000 in
theorem k9_57 : mjCode 9 57 = some (.iload_n 1, 1, 0, 0) := by decide +kernel
theorem p9_57 {l1 s0 : Int} {q0 q2 q3 : MV} {ds : Ds} {m : Mm} {Q : Ds → Mm → List MV → Prop} : WP 9 57 [q0, (0, l1), q2, q3] [(2, s0)] ds m Q = (WP 9 58 [q0, (0, l1), q2, q3] [(0, l1), (2, s0)] ds m Q) := P_nx k9_57 rfl
set_option maxRecDepth 20000 in
theorem k9_58 : mjCode 9 58 = some (.iload_n 3, 1, 0, 0) := by decide +kernel
theorem p9_58 {l3 s0 s1 : Int} {q0 q1 q2 : MV} {ds : Ds} {m : Mm} {Q : Ds → Mm → List MV → Prop} : WP 9 58 [q0, q1, q2, (0, l3)] [(0, s0), (2, s1)] ds m Q = (WP 9 59 [q0, q1, q2, (0, l3)] [(0, l3), (0, s0), (2, s1)] ds m Q) := P_nx k9_58 rfl
set_option maxRecDepth 20000 in
theorem k9_59 : mjCode 9 59 = some (.iastore, 1, 0, 0) := by decide +kernel
theorem p9_59 {s0 s1 s2 : Int} {q0 q1 q2 q3 : MV} {ds : Ds} {m : Mm} {Q : Ds → Mm → List MV → Prop} : WP 9 59 [q0, q1, q2, q3] [(0, s0), (0, s1), (2, s2)] ds m Q = ((dk ds s2 = 10 ∧ 0 ≤ s1 ∧ s1 < dl ds s2 ∧ WP 9 60 [q0, q1, q2, q3] [] ds (up m s2 s1 s0) Q)) := P_s3 k9_59 rfl
set_option maxRecDepth 20000 in
theorem k9_60 : mjCode 9 60 = some (.aload_n 0, 1, 0, 0) := by decide +kernel
theorem p9_60 {l0 : Int} {q1 q2 q3 : MV} {ds : Ds} {m : Mm} {Q : Ds → Mm → List MV → Prop} : WP 9 60 [(2, l0), q1, q2, q3] [] ds m Q = (WP 9 61 [(2, l0), q1, q2, q3] [(2, l0)] ds m Q) := P_nx k9_60 rfl
set_option maxRecDepth 20000 in
theorem k9_61 : mjCode 9 61 = some (.getfield 21, 3, 0, 3) := by decide +kernel
theorem p9_61 {s0 : Int} {q0 q1 q2 q3 : MV} {ds : Ds} {m : Mm} {Q : Ds → Mm → List MV → Prop} : WP 9 61 [q0, q1, q2, q3] [(2, s0)] ds m Q = ((dk ds s0 = 0 ∧ WP 9 64 [q0, q1, q2, q3] [(2, m s0 3)] ds m Q)) := P_gd k9_61 rfl
set_option maxRecDepth 20000 in
theorem k9_64 : mjCode 9 64 = some (.iload_n 1, 1, 0, 0) := by decide +kernel
theorem p9_64 {l1 s0 : Int} {q0 q2 q3 : MV} {ds : Ds} {m : Mm} {Q : Ds → Mm → List MV → Prop} : WP 9 64 [q0, (0, l1), q2, q3] [(2, s0)] ds m Q = (WP 9 65 [q0, (0, l1), q2, q3] [(0, l1), (2, s0)] ds m Q) := P_nx k9_64 rfl
set_option maxRecDepth 20000 in
theorem k9_65 : mjCode 9 65 = some (.dup2, 1, 0, 0) := by decide +kernel
theorem p9_65 {s0 s1 : Int} {q0 q1 q2 q3 : MV} {ds : Ds} {m : Mm} {Q : Ds → Mm → List MV → Prop} : WP 9 65 [q0, q1, q2, q3] [(0, s0), (2, s1)] ds m Q = (WP 9 66 [q0, q1, q2, q3] [(0, s0), (2, s1), (0, s0), (2, s1)] ds m Q) := P_nx k9_65 rfl
set_option maxRecDepth 20000 in
theorem k9_66 : mjCode 9 66 = some (.iaload, 1, 0, 0) := by decide +kernel
theorem p9_66 {s0 s1 s2 s3 : Int} {q0 q1 q2 q3 : MV} {ds : Ds} {m : Mm} {Q : Ds → Mm → List MV → Prop} : WP 9 66 [q0, q1, q2, q3] [(0, s0), (2, s1), (0, s2), (2, s3)] ds m Q = ((dk ds s1 = 10 ∧ 0 ≤ s0 ∧ s0 < dl ds s1 ∧ WP 9 67 [q0, q1, q2, q3] [(0, m s1 s0), (0, s2), (2, s3)] ds m Q)) := P_g3 k9_66 rfl
set_option maxRecDepth 20000 in
theorem k9_67 : mjCode 9 67 = some (.iconst 1, 1, 0, 0) := by decide +kernel
theorem p9_67 {s0 s1 s2 : Int} {q0 q1 q2 q3 : MV} {ds : Ds} {m : Mm} {Q : Ds → Mm → List MV → Prop} : WP 9 67 [q0, q1, q2, q3] [(0, s0), (0, s1), (2, s2)] ds m Q = (WP 9 68 [q0, q1, q2, q3] [(0, 1), (0, s0), (0, s1), (2, s2)] ds m Q) := P_nx k9_67 rfl
set_option maxRecDepth 20000 in
theorem k9_68 : mjCode 9 68 = some (.isub, 1, 0, 0) := by decide +kernel
theorem p9_68 {s0 s1 s2 s3 : Int} {q0 q1 q2 q3 : MV} {ds : Ds} {m : Mm} {Q : Ds → Mm → List MV → Prop} : WP 9 68 [q0, q1, q2, q3] [(0, s0), (0, s1), (0, s2), (2, s3)] ds m Q = (WP 9 69 [q0, q1, q2, q3] [(0, w32 (s1 - s0)), (0, s2), (2, s3)] ds m Q) := P_nx k9_68 rfl
set_option maxRecDepth 20000 in
theorem k9_69 : mjCode 9 69 = some (.iastore, 1, 0, 0) := by decide +kernel
theorem p9_69 {s0 s1 s2 : Int} {q0 q1 q2 q3 : MV} {ds : Ds} {m : Mm} {Q : Ds → Mm → List MV → Prop} : WP 9 69 [q0, q1, q2, q3] [(0, s0), (0, s1), (2, s2)] ds m Q = ((dk ds s2 = 10 ∧ 0 ≤ s1 ∧ s1 < dl ds s2 ∧ WP 9 70 [q0, q1, q2, q3] [] ds (up m s2 s1 s0) Q)) := P_s3 k9_69 rfl
set_option maxRecDepth 20000 in
theorem k9_70 : mjCode 9 70 = some (.aload_n 0, 1, 0, 0) := by decide +kernel
theorem p9_70 {l0 : Int} {q1 q2 q3 : MV} {ds : Ds} {m : Mm} {Q : Ds → Mm → List MV → Prop} : WP 9 70 [(2, l0), q1, q2, q3] [] ds m Q = (WP 9 71 [(2, l0), q1, q2, q3] [(2, l0)] ds m Q) := P_nx k9_70 rfl
set_option maxRecDepth 20000 in
theorem k9_71 : mjCode 9 71 = some (.getfield 21, 3, 0, 3) := by decide +kernel
theorem p9_71 {s0 : Int} {q0 q1 q2 q3 : MV} {ds : Ds} {m : Mm} {Q : Ds → Mm → List MV → Prop} : WP 9 71 [q0, q1, q2, q3] [(2, s0)] ds m Q = ((dk ds s0 = 0 ∧ WP 9 74 [q0, q1, q2, q3] [(2, m s0 3)] ds m Q)) := P_gd k9_71 rfl
set_option maxRecDepth 20000 in
theorem k9_74 : mjCode 9 74 = some (.iload_n 1, 1, 0, 0) := by decide +kernel
theorem p9_74 {l1 s0 : Int} {q0 q2 q3 : MV} {ds : Ds} {m : Mm} {Q : Ds → Mm → List MV → Prop} : WP 9 74 [q0, (0, l1), q2, q3] [(2, s0)] ds m Q = (WP 9 75 [q0, (0, l1), q2, q3] [(0, l1), (2, s0)] ds m Q) := P_nx k9_74 rfl
set_option maxRecDepth 20000 in
theorem k9_75 : mjCode 9 75 = some (.iaload, 1, 0, 0) := by decide +kernel
theorem p9_75 {s0 s1 : Int} {q0 q1 q2 q3 : MV} {ds : Ds} {m : Mm} {Q : Ds → Mm → List MV → Prop} : WP 9 75 [q0, q1, q2, q3] [(0, s0), (2, s1)] ds m Q = ((dk ds s1 = 10 ∧ 0 ≤ s0 ∧ s0 < dl ds s1 ∧ WP 9 76 [q0, q1, q2, q3] [(0, m s1 s0)] ds m Q)) := P_g3 k9_75 rfl
set_option maxRecDepth 20000 in
theorem k9_76 : mjCode 9 76 = some (.ifCond .gt 8, 3, 84, 0) := by decide +kernel
theorem p9_76 {s0 : Int} {q0 q1 q2 q3 : MV} {ds : Ds} {m : Mm} {Q : Ds → Mm → List MV → Prop} : WP 9 76 [q0, q1, q2, q3] [(0, s0)] ds m Q = (if 0 < s0 then WP 9 84 [q0, q1, q2, q3] [] ds m Q else WP 9 79 [q0, q1, q2, q3] [] ds m Q) := P_if k9_76 rfl
set_option maxRecDepth 20000 in
theorem k9_79 : mjCode 9 79 = some (.aload_n 0, 1, 0, 0) := by decide +kernel
theorem p9_79 {l0 : Int} {q1 q2 q3 : MV} {ds : Ds} {m : Mm} {Q : Ds → Mm → List MV → Prop} : WP 9 79 [(2, l0), q1, q2, q3] [] ds m Q = (WP 9 80 [(2, l0), q1, q2, q3] [(2, l0)] ds m Q) := P_nx k9_79 rfl
set_option maxRecDepth 20000 in
theorem k9_80 : mjCode 9 80 = some (.iload_n 1, 1, 0, 0) := by decide +kernel
theorem p9_80 {l1 s0 : Int} {q0 q2 q3 : MV} {ds : Ds} {m : Mm} {Q : Ds → Mm → List MV → Prop} : WP 9 80 [q0, (0, l1), q2, q3] [(2, s0)] ds m Q = (WP 9 81 [q0, (0, l1), q2, q3] [(0, l1), (2, s0)] ds m Q) := P_nx k9_80 rfl
set_option maxRecDepth 20000 in
theorem k9_81 : mjCode 9 81 = some (.invokevirtual 53, 3, 8, 2) := by decide +kernel
theorem p9_81 {s0 s1 : Int} {q0 q1 q2 q3 : MV} {ds : Ds} {m : Mm} {Q : Ds → Mm → List MV → Prop} : WP 9 81 [q0, q1, q2, q3] [(0, s0), (2, s1)] ds m Q = ((dk ds s1 = 0 ∧ WP 7 0 [(2, s1), (0, s0)] [] ds m (fun d2 m2 r2 => WP 9 84 [q0, q1, q2, q3] (r2 ++ []) d2 m2 Q))) := P_cv k9_81 mx7 mo7 rfl rfl rfl rfl rfl rfl rfl rfl
set_option maxRecDepth 20000 in
theorem k9_84 : mjCode 9 84 = some (.return_, 1, 0, 0) := by decide +kernel
theorem p9_84 {q0 q1 q2 q3 : MV} {ds : Ds} {m : Mm} {Q : Ds → Mm → List MV → Prop} : WP 9 84 [q0, q1, q2, q3] [] ds m Q = (Q ds m []) := P_rv k9_84 rk9
set_option maxRecDepth 20000 in
theorem k10_0 : mjCode 10 0 = some (.aload_n 0, 1, 0, 0) := by decide +kernel
theorem p10_0 {l0 : Int} {ds : Ds} {m : Mm} {Q : Ds → Mm → List MV → Prop} : WP 10 0 [(2, l0)] [] ds m Q = (WP 10 1 [(2, l0)] [(2, l0)] ds m Q) := P_nx k10_0 rfl
set_option maxRecDepth 20000 in
theorem k10_1 : mjCode 10 1 = some (.invokespecial 3, 3, 0, 1) := by decide +kernel
theorem p10_1 {s0 : Int} {q0 : MV} {ds : Ds} {m : Mm} {Q : Ds → Mm → List MV → Prop} : WP 10 1 [q0] [(2, s0)] ds m Q = (((0 ≤ s0 ∧ ([].map cat).sum ≤ 8) ∧ WP 10 4 [q0] [] ds m Q)) := P_gd k10_1 rfl
set_option maxRecDepth 20000 in
theorem k10_4 : mjCode 10 4 = some (.aload_n 0, 1, 0, 0) := by decide +kernel
theorem p10_4 {l0 : Int} {ds : Ds} {m : Mm} {Q : Ds → Mm → List MV → Prop} : WP 10 4 [(2, l0)] [] ds m Q = (WP 10 5 [(2, l0)] [(2, l0)] ds m Q) := P_nx k10_4 rfl
set_option maxRecDepth 20000 in
theorem k10_5 : mjCode 10 5 = some (.sipush 400, 3, 0, 0) := by decide +kernel
theorem p10_5 {s0 : Int} {q0 : MV} {ds : Ds} {m : Mm} {Q : Ds → Mm → List MV → Prop} : WP 10 5 [q0] [(2, s0)] ds m Q = (WP 10 8 [q0] [(0, 400), (2, s0)] ds m Q) := P_nx k10_5 rfl
set_option maxRecDepth 20000 in
theorem k10_8 : mjCode 10 8 = some (.newarray .int, 2, 10, 0) := by decide +kernel
theorem p10_8 {s0 s1 : Int} {q0 : MV} {ds : Ds} {m : Mm} {Q : Ds → Mm → List MV → Prop} : WP 10 8 [q0] [(0, s0), (2, s1)] ds m Q = (((0 ≤ s0 ∧ s0 ≤ 30000) ∧ WP 10 10 [q0] [(2, (ds.length : Int)), (2, s1)] (ds ++ [(10, s0.toNat)]) (al m (ds.length : Int) (dfl 10)) Q)) := P_gd k10_8 rfl
set_option maxRecDepth 20000 in
theorem k10_10 : mjCode 10 10 = some (.putfield 9, 3, 1, 0) := by decide +kernel
theorem p10_10 {s0 s1 : Int} {q0 : MV} {ds : Ds} {m : Mm} {Q : Ds → Mm → List MV → Prop} : WP 10 10 [q0] [(2, s0), (2, s1)] ds m Q = ((dk ds s1 = 1 ∧ WP 10 13 [q0] [] ds (up m s1 0 s0) Q)) := P_pf k10_10 rfl
set_option maxRecDepth 20000 in
theorem k10_13 : mjCode 10 13 = some (.aload_n 0, 1, 0, 0) := by decide +kernel
theorem p10_13 {l0 : Int} {ds : Ds} {m : Mm} {Q : Ds → Mm → List MV → Prop} : WP 10 13 [(2, l0)] [] ds m Q = (WP 10 14 [(2, l0)] [(2, l0)] ds m Q) := P_nx k10_13 rfl
set_option maxRecDepth 20000 in
theorem k10_14 : mjCode 10 14 = some (.sipush 400, 3, 0, 0) := by decide +kernel
theorem p10_14 {s0 : Int} {q0 : MV} {ds : Ds} {m : Mm} {Q : Ds → Mm → List MV → Prop} : WP 10 14 [q0] [(2, s0)] ds m Q = (WP 10 17 [q0] [(0, 400), (2, s0)] ds m Q) := P_nx k10_14 rfl
set_option maxRecDepth 20000 in
theorem k10_17 : mjCode 10 17 = some (.newarray .int, 2, 10, 0) := by decide +kernel
theorem p10_17 {s0 s1 : Int} {q0 : MV} {ds : Ds} {m : Mm} {Q : Ds → Mm → List MV → Prop} : WP 10 17 [q0] [(0, s0), (2, s1)] ds m Q = (((0 ≤ s0 ∧ s0 ≤ 30000) ∧ WP 10 19 [q0] [(2, (ds.length : Int)), (2, s1)] (ds ++ [(10, s0.toNat)]) (al m (ds.length : Int) (dfl 10)) Q)) := P_gd k10_17 rfl
set_option maxRecDepth 20000 in
theorem k10_19 : mjCode 10 19 = some (.putfield 15, 3, 1, 1) := by decide +kernel
theorem p10_19 {s0 s1 : Int} {q0 : MV} {ds : Ds} {m : Mm} {Q : Ds → Mm → List MV → Prop} : WP 10 19 [q0] [(2, s0), (2, s1)] ds m Q = ((dk ds s1 = 1 ∧ WP 10 22 [q0] [] ds (up m s1 1 s0) Q)) := P_pf k10_19 rfl
set_option maxRecDepth 20000 in
theorem k10_22 : mjCode 10 22 = some (.aload_n 0, 1, 0, 0) := by decide +kernel
theorem p10_22 {l0 : Int} {ds : Ds} {m : Mm} {Q : Ds → Mm → List MV → Prop} : WP 10 22 [(2, l0)] [] ds m Q = (WP 10 23 [(2, l0)] [(2, l0)] ds m Q) := P_nx k10_22 rfl
set_option maxRecDepth 20000 in
theorem k10_23 : mjCode 10 23 = some (.sipush 1196, 3, 0, 0) := by decide +kernel
theorem p10_23 {s0 : Int} {q0 : MV} {ds : Ds} {m : Mm} {Q : Ds → Mm → List MV → Prop} : WP 10 23 [q0] [(2, s0)] ds m Q = (WP 10 26 [q0] [(0, 1196), (2, s0)] ds m Q) := P_nx k10_23 rfl
set_option maxRecDepth 20000 in
theorem k10_26 : mjCode 10 26 = some (.newarray .int, 2, 10, 0) := by decide +kernel
theorem p10_26 {s0 s1 : Int} {q0 : MV} {ds : Ds} {m : Mm} {Q : Ds → Mm → List MV → Prop} : WP 10 26 [q0] [(0, s0), (2, s1)] ds m Q = (((0 ≤ s0 ∧ s0 ≤ 30000) ∧ WP 10 28 [q0] [(2, (ds.length : Int)), (2, s1)] (ds ++ [(10, s0.toNat)]) (al m (ds.length : Int) (dfl 10)) Q)) := P_gd k10_26 rfl
set_option maxRecDepth 20000 in
theorem k10_28 : mjCode 10 28 = some (.putfield 18, 3, 1, 2) := by decide +kernel
theorem p10_28 {s0 s1 : Int} {q0 : MV} {ds : Ds} {m : Mm} {Q : Ds → Mm → List MV → Prop} : WP 10 28 [q0] [(2, s0), (2, s1)] ds m Q = ((dk ds s1 = 1 ∧ WP 10 31 [q0] [] ds (up m s1 2 s0) Q)) := P_pf k10_28 rfl
set_option maxRecDepth 20000 in
theorem k10_31 : mjCode 10 31 = some (.aload_n 0, 1, 0, 0) := by decide +kernel
theorem p10_31 {l0 : Int} {ds : Ds} {m : Mm} {Q : Ds → Mm → List MV → Prop} : WP 10 31 [(2, l0)] [] ds m Q = (WP 10 32 [(2, l0)] [(2, l0)] ds m Q) := P_nx k10_31 rfl
set_option maxRecDepth 20000 in
theorem k10_32 : mjCode 10 32 = some (.sipush 1196, 3, 0, 0) := by decide +kernel
theorem p10_32 {s0 : Int} {q0 : MV} {ds : Ds} {m : Mm} {Q : Ds → Mm → List MV → Prop} : WP 10 32 [q0] [(2, s0)] ds m Q = (WP 10 35 [q0] [(0, 1196), (2, s0)] ds m Q) := P_nx k10_32 rfl
set_option maxRecDepth 20000 in
theorem k10_35 : mjCode 10 35 = some (.newarray .int, 2, 10, 0) := by decide +kernel
theorem p10_35 {s0 s1 : Int} {q0 : MV} {ds : Ds} {m : Mm} {Q : Ds → Mm → List MV → Prop} : WP 10 35 [q0] [(0, s0), (2, s1)] ds m Q = (((0 ≤ s0 ∧ s0 ≤ 30000) ∧ WP 10 37 [q0] [(2, (ds.length : Int)), (2, s1)] (ds ++ [(10, s0.toNat)]) (al m (ds.length : Int) (dfl 10)) Q)) := P_gd k10_35 rfl
set_option maxRecDepth 20000 in
theorem k10_37 : mjCode 10 37 = some (.putfield 21, 3, 1, 3) := by decide +kernel
theorem p10_37 {s0 s1 : Int} {q0 : MV} {ds : Ds} {m : Mm} {Q : Ds → Mm → List MV → Prop} : WP 10 37 [q0] [(2, s0), (2, s1)] ds m Q = ((dk ds s1 = 1 ∧ WP 10 40 [q0] [] ds (up m s1 3 s0) Q)) := P_pf k10_37 rfl
set_option maxRecDepth 20000 in
theorem k10_40 : mjCode 10 40 = some (.aload_n 0, 1, 0, 0) := by decide +kernel
theorem p10_40 {l0 : Int} {ds : Ds} {m : Mm} {Q : Ds → Mm → List MV → Prop} : WP 10 40 [(2, l0)] [] ds m Q = (WP 10 41 [(2, l0)] [(2, l0)] ds m Q) := P_nx k10_40 rfl
set_option maxRecDepth 20000 in
theorem k10_41 : mjCode 10 41 = some (.sipush 1196, 3, 0, 0) := by decide +kernel
theorem p10_41 {s0 : Int} {q0 : MV} {ds : Ds} {m : Mm} {Q : Ds → Mm → List MV → Prop} : WP 10 41 [q0] [(2, s0)] ds m Q = (WP 10 44 [q0] [(0, 1196), (2, s0)] ds m Q) := P_nx k10_41 rfl
set_option maxRecDepth 20000 in
theorem k10_44 : mjCode 10 44 = some (.newarray .int, 2, 10, 0) := by decide +kernel
theorem p10_44 {s0 s1 : Int} {q0 : MV} {ds : Ds} {m : Mm} {Q : Ds → Mm → List MV → Prop} : WP 10 44 [q0] [(0, s0), (2, s1)] ds m Q = (((0 ≤ s0 ∧ s0 ≤ 30000) ∧ WP 10 46 [q0] [(2, (ds.length : Int)), (2, s1)] (ds ++ [(10, s0.toNat)]) (al m (ds.length : Int) (dfl 10)) Q)) := P_gd k10_44 rfl
set_option maxRecDepth 20000 in
theorem k10_46 : mjCode 10 46 = some (.putfield 24, 3, 1, 4) := by decide +kernel
theorem p10_46 {s0 s1 : Int} {q0 : MV} {ds : Ds} {m : Mm} {Q : Ds → Mm → List MV → Prop} : WP 10 46 [q0] [(2, s0), (2, s1)] ds m Q = ((dk ds s1 = 1 ∧ WP 10 49 [q0] [] ds (up m s1 4 s0) Q)) := P_pf k10_46 rfl
set_option maxRecDepth 20000 in
theorem k10_49 : mjCode 10 49 = some (.aload_n 0, 1, 0, 0) := by decide +kernel
theorem p10_49 {l0 : Int} {ds : Ds} {m : Mm} {Q : Ds → Mm → List MV → Prop} : WP 10 49 [(2, l0)] [] ds m Q = (WP 10 50 [(2, l0)] [(2, l0)] ds m Q) := P_nx k10_49 rfl
set_option maxRecDepth 20000 in
theorem k10_50 : mjCode 10 50 = some (.sipush 1196, 3, 0, 0) := by decide +kernel
theorem p10_50 {s0 : Int} {q0 : MV} {ds : Ds} {m : Mm} {Q : Ds → Mm → List MV → Prop} : WP 10 50 [q0] [(2, s0)] ds m Q = (WP 10 53 [q0] [(0, 1196), (2, s0)] ds m Q) := P_nx k10_50 rfl
set_option maxRecDepth 20000 in
theorem k10_53 : mjCode 10 53 = some (.newarray .boolean, 2, 11, 0) := by decide +kernel
theorem p10_53 {s0 s1 : Int} {q0 : MV} {ds : Ds} {m : Mm} {Q : Ds → Mm → List MV → Prop} : WP 10 53 [q0] [(0, s0), (2, s1)] ds m Q = (((0 ≤ s0 ∧ s0 ≤ 30000) ∧ WP 10 55 [q0] [(2, (ds.length : Int)), (2, s1)] (ds ++ [(11, s0.toNat)]) (al m (ds.length : Int) (dfl 11)) Q)) := P_gd k10_53 rfl
set_option maxRecDepth 20000 in
theorem k10_55 : mjCode 10 55 = some (.putfield 27, 3, 1, 5) := by decide +kernel
theorem p10_55 {s0 s1 : Int} {q0 : MV} {ds : Ds} {m : Mm} {Q : Ds → Mm → List MV → Prop} : WP 10 55 [q0] [(2, s0), (2, s1)] ds m Q = ((dk ds s1 = 1 ∧ WP 10 58 [q0] [] ds (up m s1 5 s0) Q)) := P_pf k10_55 rfl
set_option maxRecDepth 20000 in
theorem k10_58 : mjCode 10 58 = some (.return_, 1, 0, 0) := by decide +kernel
theorem p10_58 {q0 : MV} {ds : Ds} {m : Mm} {Q : Ds → Mm → List MV → Prop} : WP 10 58 [q0] [] ds m Q = (Q ds m []) := P_rv k10_58 rk10
set_option maxRecDepth 20000 in
theorem k11_0 : mjCode 11 0 = some (.iconst 0, 1, 0, 0) := by decide +kernel
theorem p11_0 {q0 q1 : MV} {ds : Ds} {m : Mm} {Q : Ds → Mm → List MV → Prop} : WP 11 0 [q0, q1] [] ds m Q = (WP 11 1 [q0, q1] [(0, 0)] ds m Q) := P_nx k11_0 rfl
set_option maxRecDepth 20000 in
theorem k11_1 : mjCode 11 1 = some (.istore_n 1, 1, 0, 0) := by decide +kernel
theorem p11_1 {l0 s0 : Int} {q1 : MV} {ds : Ds} {m : Mm} {Q : Ds → Mm → List MV → Prop} : WP 11 1 [(2, l0), q1] [(0, s0)] ds m Q = (WP 11 2 [(2, l0), (0, s0)] [] ds m Q) := P_nx k11_1 rfl
set_option maxRecDepth 20000 in
theorem k11_2 : mjCode 11 2 = some (.iload_n 1, 1, 0, 0) := by decide +kernel
theorem p11_2 {l1 : Int} {q0 : MV} {ds : Ds} {m : Mm} {Q : Ds → Mm → List MV → Prop} : WP 11 2 [q0, (0, l1)] [] ds m Q = (WP 11 3 [q0, (0, l1)] [(0, l1)] ds m Q) := P_nx k11_2 rfl
set_option maxRecDepth 20000 in
theorem k11_3 : mjCode 11 3 = some (.sipush 400, 3, 0, 0) := by decide +kernel
theorem p11_3 {s0 : Int} {q0 q1 : MV} {ds : Ds} {m : Mm} {Q : Ds → Mm → List MV → Prop} : WP 11 3 [q0, q1] [(0, s0)] ds m Q = (WP 11 6 [q0, q1] [(0, 400), (0, s0)] ds m Q) := P_nx k11_3 rfl
set_option maxRecDepth 20000 in
theorem k11_6 : mjCode 11 6 = some (.if_icmp .ge 23, 3, 29, 0) := by decide +kernel
theorem p11_6 {s0 s1 : Int} {q0 q1 : MV} {ds : Ds} {m : Mm} {Q : Ds → Mm → List MV → Prop} : WP 11 6 [q0, q1] [(0, s0), (0, s1)] ds m Q = (if s1 < s0 then WP 11 9 [q0, q1] [] ds m Q else WP 11 29 [q0, q1] [] ds m Q) := P_if k11_6 rfl
set_option maxRecDepth 20000 in
theorem k11_9 : mjCode 11 9 = some (.aload_n 0, 1, 0, 0) := by decide +kernel
theorem p11_9 {l0 : Int} {q1 : MV} {ds : Ds} {m : Mm} {Q : Ds → Mm → List MV → Prop} : WP 11 9 [(2, l0), q1] [] ds m Q = (WP 11 10 [(2, l0), q1] [(2, l0)] ds m Q) := P_nx k11_9 rfl
set_option maxRecDepth 20000 in
theorem k11_10 : mjCode 11 10 = some (.getfield 9, 3, 1, 0) := by decide +kernel
theorem p11_10 {s0 : Int} {q0 q1 : MV} {ds : Ds} {m : Mm} {Q : Ds → Mm → List MV → Prop} : WP 11 10 [q0, q1] [(2, s0)] ds m Q = ((dk ds s0 = 1 ∧ WP 11 13 [q0, q1] [(2, m s0 0)] ds m Q)) := P_gd k11_10 rfl
set_option maxRecDepth 20000 in
theorem k11_13 : mjCode 11 13 = some (.iload_n 1, 1, 0, 0) := by decide +kernel
theorem p11_13 {l1 s0 : Int} {q0 : MV} {ds : Ds} {m : Mm} {Q : Ds → Mm → List MV → Prop} : WP 11 13 [q0, (0, l1)] [(2, s0)] ds m Q = (WP 11 14 [q0, (0, l1)] [(0, l1), (2, s0)] ds m Q) := P_nx k11_13 rfl
set_option maxRecDepth 20000 in
theorem k11_14 : mjCode 11 14 = some (.iconst (-1), 1, 0, 0) := by decide +kernel
theorem p11_14 {s0 s1 : Int} {q0 q1 : MV} {ds : Ds} {m : Mm} {Q : Ds → Mm → List MV → Prop} : WP 11 14 [q0, q1] [(0, s0), (2, s1)] ds m Q = (WP 11 15 [q0, q1] [(0, (-1)), (0, s0), (2, s1)] ds m Q) := P_nx k11_14 rfl
set_option maxRecDepth 20000 in
theorem k11_15 : mjCode 11 15 = some (.iastore, 1, 0, 0) := by decide +kernel
theorem p11_15 {s0 s1 s2 : Int} {q0 q1 : MV} {ds : Ds} {m : Mm} {Q : Ds → Mm → List MV → Prop} : WP 11 15 [q0, q1] [(0, s0), (0, s1), (2, s2)] ds m Q = ((dk ds s2 = 10 ∧ 0 ≤ s1 ∧ s1 < dl ds s2 ∧ WP 11 16 [q0, q1] [] ds (up m s2 s1 s0) Q)) := P_s3 k11_15 rfl
set_option maxRecDepth 20000 in
theorem k11_16 : mjCode 11 16 = some (.aload_n 0, 1, 0, 0) := by decide +kernel
theorem p11_16 {l0 : Int} {q1 : MV} {ds : Ds} {m : Mm} {Q : Ds → Mm → List MV → Prop} : WP 11 16 [(2, l0), q1] [] ds m Q = (WP 11 17 [(2, l0), q1] [(2, l0)] ds m Q) := P_nx k11_16 rfl
set_option maxRecDepth 20000 in
theorem k11_17 : mjCode 11 17 = some (.getfield 15, 3, 1, 1) := by decide +kernel
theorem p11_17 {s0 : Int} {q0 q1 : MV} {ds : Ds} {m : Mm} {Q : Ds → Mm → List MV → Prop} : WP 11 17 [q0, q1] [(2, s0)] ds m Q = ((dk ds s0 = 1 ∧ WP 11 20 [q0, q1] [(2, m s0 1)] ds m Q)) := P_gd k11_17 rfl
set_option maxRecDepth 20000 in
theorem k11_20 : mjCode 11 20 = some (.iload_n 1, 1, 0, 0) := by decide +kernel
theorem p11_20 {l1 s0 : Int} {q0 : MV} {ds : Ds} {m : Mm} {Q : Ds → Mm → List MV → Prop} : WP 11 20 [q0, (0, l1)] [(2, s0)] ds m Q = (WP 11 21 [q0, (0, l1)] [(0, l1), (2, s0)] ds m Q) := P_nx k11_20 rfl
set_option maxRecDepth 20000 in
theorem k11_21 : mjCode 11 21 = some (.iconst (-1), 1, 0, 0) := by decide +kernel
theorem p11_21 {s0 s1 : Int} {q0 q1 : MV} {ds : Ds} {m : Mm} {Q : Ds → Mm → List MV → Prop} : WP 11 21 [q0, q1] [(0, s0), (2, s1)] ds m Q = (WP 11 22 [q0, q1] [(0, (-1)), (0, s0), (2, s1)] ds m Q) := P_nx k11_21 rfl
set_option maxRecDepth 20000 in
theorem k11_22 : mjCode 11 22 = some (.iastore, 1, 0, 0) := by decide +kernel
theorem p11_22 {s0 s1 s2 : Int} {q0 q1 : MV} {ds : Ds} {m : Mm} {Q : Ds → Mm → List MV → Prop} : WP 11 22 [q0, q1] [(0, s0), (0, s1), (2, s2)] ds m Q = ((dk ds s2 = 10 ∧ 0 ≤ s1 ∧ s1 < dl ds s2 ∧ WP 11 23 [q0, q1] [] ds (up m s2 s1 s0) Q)) := P_s3 k11_22 rfl
set_option maxRecDepth 20000 in
theorem k11_23 : mjCode 11 23 = some (.iinc 1 1, 3, 0, 0) := by decide +kernel
theorem p11_23 {l1 : Int} {q0 : MV} {ds : Ds} {m : Mm} {Q : Ds → Mm → List MV → Prop} : WP 11 23 [q0, (0, l1)] [] ds m Q = (WP 11 26 [q0, (0, w32 (l1 + 1))] [] ds m Q) := P_nx k11_23 rfl
set_option maxRecDepth 20000 in
theorem k11_26 : mjCode 11 26 = some (.goto (-24), 3, 2, 0) := by decide +kernel
theorem p11_26 {q0 q1 : MV} {ds : Ds} {m : Mm} {Q : Ds → Mm → List MV → Prop} : WP 11 26 [q0, q1] [] ds m Q = (WP 11 2 [q0, q1] [] ds m Q) := P_nx k11_26 rfl
set_option maxRecDepth 20000 in
theorem k11_29 : mjCode 11 29 = some (.aload_n 0, 1, 0, 0) := by decide +kernel
theorem p11_29 {l0 : Int} {q1 : MV} {ds : Ds} {m : Mm} {Q : Ds → Mm → List MV → Prop} : WP 11 29 [(2, l0), q1] [] ds m Q = (WP 11 30 [(2, l0), q1] [(2, l0)] ds m Q) := P_nx k11_29 rfl
set_option maxRecDepth 20000 in
theorem k11_30 : mjCode 11 30 = some (.iconst 0, 1, 0, 0) := by decide +kernel
theorem p11_30 {s0 : Int} {q0 q1 : MV} {ds : Ds} {m : Mm} {Q : Ds → Mm → List MV → Prop} : WP 11 30 [q0, q1] [(2, s0)] ds m Q = (WP 11 31 [q0, q1] [(0, 0), (2, s0)] ds m Q) := P_nx k11_30 rfl
set_option maxRecDepth 20000 in
theorem k11_31 : mjCode 11 31 = some (.putfield 31, 3, 1, 6) := by decide +kernel
theorem p11_31 {s0 s1 : Int} {q0 q1 : MV} {ds : Ds} {m : Mm} {Q : Ds → Mm → List MV → Prop} : WP 11 31 [q0, q1] [(0, s0), (2, s1)] ds m Q = ((dk ds s1 = 1 ∧ WP 11 34 [q0, q1] [] ds (up m s1 6 s0) Q)) := P_pf k11_31 rfl
set_option maxRecDepth 20000 in
theorem k11_34 : mjCode 11 34 = some (.aload_n 0, 1, 0, 0) := by decide +kernel
theorem p11_34 {l0 : Int} {q1 : MV} {ds : Ds} {m : Mm} {Q : Ds → Mm → List MV → Prop} : WP 11 34 [(2, l0), q1] [] ds m Q = (WP 11 35 [(2, l0), q1] [(2, l0)] ds m Q) := P_nx k11_34 rfl
set_option maxRecDepth 20000 in
theorem k11_35 : mjCode 11 35 = some (.iconst 0, 1, 0, 0) := by decide +kernel
theorem p11_35 {s0 : Int} {q0 q1 : MV} {ds : Ds} {m : Mm} {Q : Ds → Mm → List MV → Prop} : WP 11 35 [q0, q1] [(2, s0)] ds m Q = (WP 11 36 [q0, q1] [(0, 0), (2, s0)] ds m Q) := P_nx k11_35 rfl
set_option maxRecDepth 20000 in
theorem k11_36 : mjCode 11 36 = some (.putfield 35, 3, 1, 7) := by decide +kernel
theorem p11_36 {s0 s1 : Int} {q0 q1 : MV} {ds : Ds} {m : Mm} {Q : Ds → Mm → List MV → Prop} : WP 11 36 [q0, q1] [(0, s0), (2, s1)] ds m Q = ((dk ds s1 = 1 ∧ WP 11 39 [q0, q1] [] ds (up m s1 7 s0) Q)) := P_pf k11_36 rfl
set_option maxRecDepth 20000 in
theorem k11_39 : mjCode 11 39 = some (.return_, 1, 0, 0) := by decide +kernel
theorem p11_39 {q0 q1 : MV} {ds : Ds} {m : Mm} {Q : Ds → Mm → List MV → Prop} : WP 11 39 [q0, q1] [] ds m Q = (Q ds m []) := P_rv k11_39 rk11
set_option maxRecDepth 20000 in
theorem k12_0 : mjCode 12 0 = some (.aload_n 0, 1, 0, 0) := by decide +kernel
theorem p12_0 {l0 : Int} {q1 q2 q3 q4 q5 : MV} {ds : Ds} {m : Mm} {Q : Ds → Mm → List MV → Prop} : WP 12 0 [(2, l0), q1, q2, q3, q4, q5] [] ds m Q = (WP 12 1 [(2, l0), q1, q2, q3, q4, q5] [(2, l0)] ds m Q) := P_nx k12_0 rfl
set_option maxRecDepth 20000 in
theorem k12_1 : mjCode 12 1 = some (.dup, 1, 0, 0) := by decide +kernel
theorem p12_1 {s0 : Int} {q0 q1 q2 q3 q4 q5 : MV} {ds : Ds} {m : Mm} {Q : Ds → Mm → List MV → Prop} : WP 12 1 [q0, q1, q2, q3, q4, q5] [(2, s0)] ds m Q = (WP 12 2 [q0, q1, q2, q3, q4, q5] [(2, s0), (2, s0)] ds m Q) := P_nx k12_1 rfl
set_option maxRecDepth 20000 in
theorem k12_2 : mjCode 12 2 = some (.getfield 35, 3, 1, 7) := by decide +kernel
theorem p12_2 {s0 s1 : Int} {q0 q1 q2 q3 q4 q5 : MV} {ds : Ds} {m : Mm} {Q : Ds → Mm → List MV → Prop} : WP 12 2 [q0, q1, q2, q3, q4, q5] [(2, s0), (2, s1)] ds m Q = ((dk ds s0 = 1 ∧ WP 12 5 [q0, q1, q2, q3, q4, q5] [(0, m s0 7), (2, s1)] ds m Q)) := P_gd k12_2 rfl
set_option maxRecDepth 20000 in
theorem k12_5 : mjCode 12 5 = some (.iconst 1, 1, 0, 0) := by decide +kernel
theorem p12_5 {s0 s1 : Int} {q0 q1 q2 q3 q4 q5 : MV} {ds : Ds} {m : Mm} {Q : Ds → Mm → List MV → Prop} : WP 12 5 [q0, q1, q2, q3, q4, q5] [(0, s0), (2, s1)] ds m Q = (WP 12 6 [q0, q1, q2, q3, q4, q5] [(0, 1), (0, s0), (2, s1)] ds m Q) := P_nx k12_5 rfl
set_option maxRecDepth 20000 in
theorem k12_6 : mjCode 12 6 = some (.iadd, 1, 0, 0) := by decide +kernel
theorem p12_6 {s0 s1 s2 : Int} {q0 q1 q2 q3 q4 q5 : MV} {ds : Ds} {m : Mm} {Q : Ds → Mm → List MV → Prop} : WP 12 6 [q0, q1, q2, q3, q4, q5] [(0, s0), (0, s1), (2, s2)] ds m Q = (WP 12 7 [q0, q1, q2, q3, q4, q5] [(0, w32 (s1 + s0)), (2, s2)] ds m Q) := P_nx k12_6 rfl
set_option maxRecDepth 20000 in
theorem k12_7 : mjCode 12 7 = some (.putfield 35, 3, 1, 7) := by decide +kernel
theorem p12_7 {s0 s1 : Int} {q0 q1 q2 q3 q4 q5 : MV} {ds : Ds} {m : Mm} {Q : Ds → Mm → List MV → Prop} : WP 12 7 [q0, q1, q2, q3, q4, q5] [(0, s0), (2, s1)] ds m Q = ((dk ds s1 = 1 ∧ WP 12 10 [q0, q1, q2, q3, q4, q5] [] ds (up m s1 7 s0) Q)) := P_pf k12_7 rfl
set_option maxRecDepth 20000 in
theorem k12_10 : mjCode 12 10 = some (.iload_n 1, 1, 0, 0) := by decide +kernel
theorem p12_10 {l1 : Int} {q0 q2 q3 q4 q5 : MV} {ds : Ds} {m : Mm} {Q : Ds → Mm → List MV → Prop} : WP 12 10 [q0, (0, l1), q2, q3, q4, q5] [] ds m Q = (WP 12 11 [q0, (0, l1), q2, q3, q4, q5] [(0, l1)] ds m Q) := P_nx k12_10 rfl
set_option maxRecDepth 20000 in
theorem k12_11 : mjCode 12 11 = some (.ifCond .lt 27, 3, 38, 0) := by decide +kernel
theorem p12_11 {s0 : Int} {q0 q1 q2 q3 q4 q5 : MV} {ds : Ds} {m : Mm} {Q : Ds → Mm → List MV → Prop} : WP 12 11 [q0, q1, q2, q3, q4, q5] [(0, s0)] ds m Q = (if s0 < 0 then WP 12 38 [q0, q1, q2, q3, q4, q5] [] ds m Q else WP 12 14 [q0, q1, q2, q3, q4, q5] [] ds m Q) := P_if k12_11 rfl
set_option maxRecDepth 20000 in
theorem k12_14 : mjCode 12 14 = some (.iload_n 1, 1, 0, 0) := by decide +kernel
theorem p12_14 {l1 : Int} {q0 q2 q3 q4 q5 : MV} {ds : Ds} {m : Mm} {Q : Ds → Mm → List MV → Prop} : WP 12 14 [q0, (0, l1), q2, q3, q4, q5] [] ds m Q = (WP 12 15 [q0, (0, l1), q2, q3, q4, q5] [(0, l1)] ds m Q) := P_nx k12_14 rfl
set_option maxRecDepth 20000 in
theorem k12_15 : mjCode 12 15 = some (.sipush 400, 3, 0, 0) := by decide +kernel
theorem p12_15 {s0 : Int} {q0 q1 q2 q3 q4 q5 : MV} {ds : Ds} {m : Mm} {Q : Ds → Mm → List MV → Prop} : WP 12 15 [q0, q1, q2, q3, q4, q5] [(0, s0)] ds m Q = (WP 12 18 [q0, q1, q2, q3, q4, q5] [(0, 400), (0, s0)] ds m Q) := P_nx k12_15 rfl
set_option maxRecDepth 20000 in
theorem k12_18 : mjCode 12 18 = some (.if_icmp .ge 20, 3, 38, 0) := by decide +kernel
theorem p12_18 {s0 s1 : Int} {q0 q1 q2 q3 q4 q5 : MV} {ds : Ds} {m : Mm} {Q : Ds → Mm → List MV → Prop} : WP 12 18 [q0, q1, q2, q3, q4, q5] [(0, s0), (0, s1)] ds m Q = (if s1 < s0 then WP 12 21 [q0, q1, q2, q3, q4, q5] [] ds m Q else WP 12 38 [q0, q1, q2, q3, q4, q5] [] ds m Q) := P_if k12_18 rfl
set_option maxRecDepth 20000 in
theorem k12_21 : mjCode 12 21 = some (.aload_n 0, 1, 0, 0) := by decide +kernel
theorem p12_21 {l0 : Int} {q1 q2 q3 q4 q5 : MV} {ds : Ds} {m : Mm} {Q : Ds → Mm → List MV → Prop} : WP 12 21 [(2, l0), q1, q2, q3, q4, q5] [] ds m Q = (WP 12 22 [(2, l0), q1, q2, q3, q4, q5] [(2, l0)] ds m Q) := P_nx k12_21 rfl
set_option maxRecDepth 20000 in
theorem k12_22 : mjCode 12 22 = some (.getfield 31, 3, 1, 6) := by decide +kernel
theorem p12_22 {s0 : Int} {q0 q1 q2 q3 q4 q5 : MV} {ds : Ds} {m : Mm} {Q : Ds → Mm → List MV → Prop} : WP 12 22 [q0, q1, q2, q3, q4, q5] [(2, s0)] ds m Q = ((dk ds s0 = 1 ∧ WP 12 25 [q0, q1, q2, q3, q4, q5] [(0, m s0 6)] ds m Q)) := P_gd k12_22 rfl
set_option maxRecDepth 20000 in
theorem k12_25 : mjCode 12 25 = some (.ifCond .lt 13, 3, 38, 0) := by decide +kernel
theorem p12_25 {s0 : Int} {q0 q1 q2 q3 q4 q5 : MV} {ds : Ds} {m : Mm} {Q : Ds → Mm → List MV → Prop} : WP 12 25 [q0, q1, q2, q3, q4, q5] [(0, s0)] ds m Q = (if s0 < 0 then WP 12 38 [q0, q1, q2, q3, q4, q5] [] ds m Q else WP 12 28 [q0, q1, q2, q3, q4, q5] [] ds m Q) := P_if k12_25 rfl
set_option maxRecDepth 20000 in
theorem k12_28 : mjCode 12 28 = some (.aload_n 0, 1, 0, 0) := by decide +kernel
theorem p12_28 {l0 : Int} {q1 q2 q3 q4 q5 : MV} {ds : Ds} {m : Mm} {Q : Ds → Mm → List MV → Prop} : WP 12 28 [(2, l0), q1, q2, q3, q4, q5] [] ds m Q = (WP 12 29 [(2, l0), q1, q2, q3, q4, q5] [(2, l0)] ds m Q) := P_nx k12_28 rfl
set_option maxRecDepth 20000 in
theorem k12_29 : mjCode 12 29 = some (.getfield 31, 3, 1, 6) := by decide +kernel
theorem p12_29 {s0 : Int} {q0 q1 q2 q3 q4 q5 : MV} {ds : Ds} {m : Mm} {Q : Ds → Mm → List MV → Prop} : WP 12 29 [q0, q1, q2, q3, q4, q5] [(2, s0)] ds m Q = ((dk ds s0 = 1 ∧ WP 12 32 [q0, q1, q2, q3, q4, q5] [(0, m s0 6)] ds m Q)) := P_gd k12_29 rfl
set_option maxRecDepth 20000 in
theorem k12_32 : mjCode 12 32 = some (.sipush 1196, 3, 0, 0) := by decide +kernel
theorem p12_32 {s0 : Int} {q0 q1 q2 q3 q4 q5 : MV} {ds : Ds} {m : Mm} {Q : Ds → Mm → List MV → Prop} : WP 12 32 [q0, q1, q2, q3, q4, q5] [(0, s0)] ds m Q = (WP 12 35 [q0, q1, q2, q3, q4, q5] [(0, 1196), (0, s0)] ds m Q) := P_nx k12_32 rfl
set_option maxRecDepth 20000 in
theorem k12_35 : mjCode 12 35 = some (.if_icmp .lt 4, 3, 39, 0) := by decide +kernel
theorem p12_35 {s0 s1 : Int} {q0 q1 q2 q3 q4 q5 : MV} {ds : Ds} {m : Mm} {Q : Ds → Mm → List MV → Prop} : WP 12 35 [q0, q1, q2, q3, q4, q5] [(0, s0), (0, s1)] ds m Q = (if s1 < s0 then WP 12 39 [q0, q1, q2, q3, q4, q5] [] ds m Q else WP 12 38 [q0, q1, q2, q3, q4, q5] [] ds m Q) := P_if k12_35 rfl
set_option maxRecDepth 20000 in
theorem k12_38 : mjCode 12 38 = some (.return_, 1, 0, 0) := by decide +kernel
theorem p12_38 {q0 q1 q2 q3 q4 q5 : MV} {ds : Ds} {m : Mm} {Q : Ds → Mm → List MV → Prop} : WP 12 38 [q0, q1, q2, q3, q4, q5] [] ds m Q = (Q ds m []) := P_rv k12_38 rk12
set_option maxRecDepth 20000 in
theorem k12_39 : mjCode 12 39 = some (.aload_n 0, 1, 0, 0) := by decide +kernel
theorem p12_39 {l0 : Int} {q1 q2 q3 q4 q5 : MV} {ds : Ds} {m : Mm} {Q : Ds → Mm → List MV → Prop} : WP 12 39 [(2, l0), q1, q2, q3, q4, q5] [] ds m Q = (WP 12 40 [(2, l0), q1, q2, q3, q4, q5] [(2, l0)] ds m Q) := P_nx k12_39 rfl
set_option maxRecDepth 20000 in
theorem k12_40 : mjCode 12 40 = some (.getfield 21, 3, 1, 3) := by decide +kernel
theorem p12_40 {s0 : Int} {q0 q1 q2 q3 q4 q5 : MV} {ds : Ds} {m : Mm} {Q : Ds → Mm → List MV → Prop} : WP 12 40 [q0, q1, q2, q3, q4, q5] [(2, s0)] ds m Q = ((dk ds s0 = 1 ∧ WP 12 43 [q0, q1, q2, q3, q4, q5] [(2, m s0 3)] ds m Q)) := P_gd k12_40 rfl
set_option maxRecDepth 20000 in
theorem k12_43 : mjCode 12 43 = some (.aload_n 0, 1, 0, 0) := by decide +kernel
theorem p12_43 {l0 s0 : Int} {q1 q2 q3 q4 q5 : MV} {ds : Ds} {m : Mm} {Q : Ds → Mm → List MV → Prop} : WP 12 43 [(2, l0), q1, q2, q3, q4, q5] [(2, s0)] ds m Q = (WP 12 44 [(2, l0), q1, q2, q3, q4, q5] [(2, l0), (2, s0)] ds m Q) := P_nx k12_43 rfl
set_option maxRecDepth 20000 in
theorem k12_44 : mjCode 12 44 = some (.getfield 31, 3, 1, 6) := by decide +kernel
theorem p12_44 {s0 s1 : Int} {q0 q1 q2 q3 q4 q5 : MV} {ds : Ds} {m : Mm} {Q : Ds → Mm → List MV → Prop} : WP 12 44 [q0, q1, q2, q3, q4, q5] [(2, s0), (2, s1)] ds m Q = ((dk ds s0 = 1 ∧ WP 12 47 [q0, q1, q2, q3, q4, q5] [(0, m s0 6), (2, s1)] ds m Q)) := P_gd k12_44 rfl
set_option maxRecDepth 20000 in
theorem k12_47 : mjCode 12 47 = some (.iload_n 2, 1, 0, 0) := by decide +kernel
theorem p12_47 {l2 s0 s1 : Int} {q0 q1 q3 q4 q5 : MV} {ds : Ds} {m : Mm} {Q : Ds → Mm → List MV → Prop} : WP 12 47 [q0, q1, (0, l2), q3, q4, q5] [(0, s0), (2, s1)] ds m Q = (WP 12 48 [q0, q1, (0, l2), q3, q4, q5] [(0, l2), (0, s0), (2, s1)] ds m Q) := P_nx k12_47 rfl
set_option maxRecDepth 20000 in
theorem k12_48 : mjCode 12 48 = some (.iastore, 1, 0, 0) := by decide +kernel
theorem p12_48 {s0 s1 s2 : Int} {q0 q1 q2 q3 q4 q5 : MV} {ds : Ds} {m : Mm} {Q : Ds → Mm → List MV → Prop} : WP 12 48 [q0, q1, q2, q3, q4, q5] [(0, s0), (0, s1), (2, s2)] ds m Q = ((dk ds s2 = 10 ∧ 0 ≤ s1 ∧ s1 < dl ds s2 ∧ WP 12 49 [q0, q1, q2, q3, q4, q5] [] ds (up m s2 s1 s0) Q)) := P_s3 k12_48 rfl
set_option maxRecDepth 20000 in
theorem k12_49 : mjCode 12 49 = some (.aload_n 0, 1, 0, 0) := by decide +kernel
theorem p12_49 {l0 : Int} {q1 q2 q3 q4 q5 : MV} {ds : Ds} {m : Mm} {Q : Ds → Mm → List MV → Prop} : WP 12 49 [(2, l0), q1, q2, q3, q4, q5] [] ds m Q = (WP 12 50 [(2, l0), q1, q2, q3, q4, q5] [(2, l0)] ds m Q) := P_nx k12_49 rfl
set_option maxRecDepth 20000 in
theorem k12_50 : mjCode 12 50 = some (.getfield 24, 3, 1, 4) := by decide +kernel
theorem p12_50 {s0 : Int} {q0 q1 q2 q3 q4 q5 : MV} {ds : Ds} {m : Mm} {Q : Ds → Mm → List MV → Prop} : WP 12 50 [q0, q1, q2, q3, q4, q5] [(2, s0)] ds m Q = ((dk ds s0 = 1 ∧ WP 12 53 [q0, q1, q2, q3, q4, q5] [(2, m s0 4)] ds m Q)) := P_gd k12_50 rfl
set_option maxRecDepth 20000 in
theorem k12_53 : mjCode 12 53 = some (.aload_n 0, 1, 0, 0) := by decide +kernel
theorem p12_53 {l0 s0 : Int} {q1 q2 q3 q4 q5 : MV} {ds : Ds} {m : Mm} {Q : Ds → Mm → List MV → Prop} : WP 12 53 [(2, l0), q1, q2, q3, q4, q5] [(2, s0)] ds m Q = (WP 12 54 [(2, l0), q1, q2, q3, q4, q5] [(2, l0), (2, s0)] ds m Q) := P_nx k12_53 rfl
set_option maxRecDepth 20000 in
theorem k12_54 : mjCode 12 54 = some (.getfield 31, 3, 1, 6) := by decide +kernel
theorem p12_54 {s0 s1 : Int} {q0 q1 q2 q3 q4 q5 : MV} {ds : Ds} {m : Mm} {Q : Ds → Mm → List MV → Prop} : WP 12 54 [q0, q1, q2, q3, q4, q5] [(2, s0), (2, s1)] ds m Q = ((dk ds s0 = 1 ∧ WP 12 57 [q0, q1, q2, q3, q4, q5] [(0, m s0 6), (2, s1)] ds m Q)) := P_gd k12_54 rfl
set_option maxRecDepth 20000 in
theorem k12_57 : mjCode 12 57 = some (.iload_n 3, 1, 0, 0) := by decide +kernel
theorem p12_57 {l3 s0 s1 : Int} {q0 q1 q2 q4 q5 : MV} {ds : Ds} {m : Mm} {Q : Ds → Mm → List MV → Prop} : WP 12 57 [q0, q1, q2, (0, l3), q4, q5] [(0, s0), (2, s1)] ds m Q = (WP 12 58 [q0, q1, q2, (0, l3), q4, q5] [(0, l3), (0, s0), (2, s1)] ds m Q) := P_nx k12_57 rfl
set_option maxRecDepth 20000 in
theorem k12_58 : mjCode 12 58 = some (.iastore, 1, 0, 0) := by decide +kernel
theorem p12_58 {s0 s1 s2 : Int} {q0 q1 q2 q3 q4 q5 : MV} {ds : Ds} {m : Mm} {Q : Ds → Mm → List MV → Prop} : WP 12 58 [q0, q1, q2, q3, q4, q5] [(0, s0), (0, s1), (2, s2)] ds m Q = ((dk ds s2 = 10 ∧ 0 ≤ s1 ∧ s1 < dl ds s2 ∧ WP 12 59 [q0, q1, q2, q3, q4, q5] [] ds (up m s2 s1 s0) Q)) := P_s3 k12_58 rfl
set_option maxRecDepth 20000 in
theorem k12_59 : mjCode 12 59 = some (.aload_n 0, 1, 0, 0) := by decide +kernel
theorem p12_59 {l0 : Int} {q1 q2 q3 q4 q5 : MV} {ds : Ds} {m : Mm} {Q : Ds → Mm → List MV → Prop} : WP 12 59 [(2, l0), q1, q2, q3, q4, q5] [] ds m Q = (WP 12 60 [(2, l0), q1, q2, q3, q4, q5] [(2, l0)] ds m Q) := P_nx k12_59 rfl
set_option maxRecDepth 20000 in
theorem k12_60 : mjCode 12 60 = some (.getfield 27, 3, 1, 5) := by decide +kernel
theorem p12_60 {s0 : Int} {q0 q1 q2 q3 q4 q5 : MV} {ds : Ds} {m : Mm} {Q : Ds → Mm → List MV → Prop} : WP 12 60 [q0, q1, q2, q3, q4, q5] [(2, s0)] ds m Q = ((dk ds s0 = 1 ∧ WP 12 63 [q0, q1, q2, q3, q4, q5] [(2, m s0 5)] ds m Q)) := P_gd k12_60 rfl
set_option maxRecDepth 20000 in
theorem k12_63 : mjCode 12 63 = some (.aload_n 0, 1, 0, 0) := by decide +kernel
theorem p12_63 {l0 s0 : Int} {q1 q2 q3 q4 q5 : MV} {ds : Ds} {m : Mm} {Q : Ds → Mm → List MV → Prop} : WP 12 63 [(2, l0), q1, q2, q3, q4, q5] [(2, s0)] ds m Q = (WP 12 64 [(2, l0), q1, q2, q3, q4, q5] [(2, l0), (2, s0)] ds m Q) := P_nx k12_63 rfl
set_option maxRecDepth 20000 in
theorem k12_64 : mjCode 12 64 = some (.getfield 31, 3, 1, 6) := by decide +kernel
theorem p12_64 {s0 s1 : Int} {q0 q1 q2 q3 q4 q5 : MV} {ds : Ds} {m : Mm} {Q : Ds → Mm → List MV → Prop} : WP 12 64 [q0, q1, q2, q3, q4, q5] [(2, s0), (2, s1)] ds m Q = ((dk ds s0 = 1 ∧ WP 12 67 [q0, q1, q2, q3, q4, q5] [(0, m s0 6), (2, s1)] ds m Q)) := P_gd k12_64 rfl
set_option maxRecDepth 20000 in
theorem k12_67 : mjCode 12 67 = some (.iload 4, 2, 0, 0) := by decide +kernel
theorem p12_67 {l4 s0 s1 : Int} {q0 q1 q2 q3 q5 : MV} {ds : Ds} {m : Mm} {Q : Ds → Mm → List MV → Prop} : WP 12 67 [q0, q1, q2, q3, (0, l4), q5] [(0, s0), (2, s1)] ds m Q = (WP 12 69 [q0, q1, q2, q3, (0, l4), q5] [(0, l4), (0, s0), (2, s1)] ds m Q) := P_nx k12_67 rfl
set_option maxRecDepth 20000 in
theorem k12_69 : mjCode 12 69 = some (.bastore, 1, 0, 0) := by decide +kernel
theorem p12_69 {s0 s1 s2 : Int} {q0 q1 q2 q3 q4 q5 : MV} {ds : Ds} {m : Mm} {Q : Ds → Mm → List MV → Prop} : WP 12 69 [q0, q1, q2, q3, q4, q5] [(0, s0), (0, s1), (2, s2)] ds m Q = (((s0 = 0 ∨ s0 = 1) ∧ dk ds s2 = 11 ∧ 0 ≤ s1 ∧ s1 < dl ds s2 ∧ WP 12 70 [q0, q1, q2, q3, q4, q5] [] ds (up m s2 s1 s0) Q)) := P_s4 k12_69 rfl
set_option maxRecDepth 20000 in
theorem k12_70 : mjCode 12 70 = some (.aload_n 0, 1, 0, 0) := by decide +kernel
theorem p12_70 {l0 : Int} {q1 q2 q3 q4 q5 : MV} {ds : Ds} {m : Mm} {Q : Ds → Mm → List MV → Prop} : WP 12 70 [(2, l0), q1, q2, q3, q4, q5] [] ds m Q = (WP 12 71 [(2, l0), q1, q2, q3, q4, q5] [(2, l0)] ds m Q) := P_nx k12_70 rfl
set_option maxRecDepth 20000 in
theorem k12_71 : mjCode 12 71 = some (.getfield 18, 3, 1, 2) := by decide +kernel
theorem p12_71 {s0 : Int} {q0 q1 q2 q3 q4 q5 : MV} {ds : Ds} {m : Mm} {Q : Ds → Mm → List MV → Prop} : WP 12 71 [q0, q1, q2, q3, q4, q5] [(2, s0)] ds m Q = ((dk ds s0 = 1 ∧ WP 12 74 [q0, q1, q2, q3, q4, q5] [(2, m s0 2)] ds m Q)) := P_gd k12_71 rfl
set_option maxRecDepth 20000 in
theorem k12_74 : mjCode 12 74 = some (.aload_n 0, 1, 0, 0) := by decide +kernel
theorem p12_74 {l0 s0 : Int} {q1 q2 q3 q4 q5 : MV} {ds : Ds} {m : Mm} {Q : Ds → Mm → List MV → Prop} : WP 12 74 [(2, l0), q1, q2, q3, q4, q5] [(2, s0)] ds m Q = (WP 12 75 [(2, l0), q1, q2, q3, q4, q5] [(2, l0), (2, s0)] ds m Q) := P_nx k12_74 rfl
set_option maxRecDepth 20000 in
theorem k12_75 : mjCode 12 75 = some (.getfield 31, 3, 1, 6) := by decide +kernel
theorem p12_75 {s0 s1 : Int} {q0 q1 q2 q3 q4 q5 : MV} {ds : Ds} {m : Mm} {Q : Ds → Mm → List MV → Prop} : WP 12 75 [q0, q1, q2, q3, q4, q5] [(2, s0), (2, s1)] ds m Q = ((dk ds s0 = 1 ∧ WP 12 78 [q0, q1, q2, q3, q4, q5] [(0, m s0 6), (2, s1)] ds m Q)) := P_gd k12_75 rfl
set_option maxRecDepth 20000 in
theorem k12_78 : mjCode 12 78 = some (.iconst (-1), 1, 0, 0) := by decide +kernel
theorem p12_78 {s0 s1 : Int} {q0 q1 q2 q3 q4 q5 : MV} {ds : Ds} {m : Mm} {Q : Ds → Mm → List MV → Prop} : WP 12 78 [q0, q1, q2, q3, q4, q5] [(0, s0), (2, s1)] ds m Q = (WP 12 79 [q0, q1, q2, q3, q4, q5] [(0, (-1)), (0, s0), (2, s1)] ds m Q) := P_nx k12_78 rfl
set_option maxRecDepth 20000 in
theorem k12_79 : mjCode 12 79 = some (.iastore, 1, 0, 0) := by decide +kernel
theorem p12_79 {s0 s1 s2 : Int} {q0 q1 q2 q3 q4 q5 : MV} {ds : Ds} {m : Mm} {Q : Ds → Mm → List MV → Prop} : WP 12 79 [q0, q1, q2, q3, q4, q5] [(0, s0), (0, s1), (2, s2)] ds m Q = ((dk ds s2 = 10 ∧ 0 ≤ s1 ∧ s1 < dl ds s2 ∧ WP 12 80 [q0, q1, q2, q3, q4, q5] [] ds (up m s2 s1 s0) Q)) := P_s3 k12_79 rfl
set_option maxRecDepth 20000 in
theorem k12_80 : mjCode 12 80 = some (.aload_n 0, 1, 0, 0) := by decide +kernel
theorem p12_80 {l0 : Int} {q1 q2 q3 q4 q5 : MV} {ds : Ds} {m : Mm} {Q : Ds → Mm → List MV → Prop} : WP 12 80 [(2, l0), q1, q2, q3, q4, q5] [] ds m Q = (WP 12 81 [(2, l0), q1, q2, q3, q4, q5] [(2, l0)] ds m Q) := P_nx k12_80 rfl
set_option maxRecDepth 20000 in
theorem k12_81 : mjCode 12 81 = some (.getfield 15, 3, 1, 1) := by decide +kernel
theorem p12_81 {s0 : Int} {q0 q1 q2 q3 q4 q5 : MV} {ds : Ds} {m : Mm} {Q : Ds → Mm → List MV → Prop} : WP 12 81 [q0, q1, q2, q3, q4, q5] [(2, s0)] ds m Q = ((dk ds s0 = 1 ∧ WP 12 84 [q0, q1, q2, q3, q4, q5] [(2, m s0 1)] ds m Q)) := P_gd k12_81 rfl
set_option maxRecDepth 20000 in
theorem k12_84 : mjCode 12 84 = some (.iload_n 1, 1, 0, 0) := by decide +kernel
theorem p12_84 {l1 s0 : Int} {q0 q2 q3 q4 q5 : MV} {ds : Ds} {m : Mm} {Q : Ds → Mm → List MV → Prop} : WP 12 84 [q0, (0, l1), q2, q3, q4, q5] [(2, s0)] ds m Q = (WP 12 85 [q0, (0, l1), q2, q3, q4, q5] [(0, l1), (2, s0)] ds m Q) := P_nx k12_84 rfl
set_option maxRecDepth 20000 in
theorem k12_85 : mjCode 12 85 = some (.iaload, 1, 0, 0) := by decide +kernel
theorem p12_85 {s0 s1 : Int} {q0 q1 q2 q3 q4 q5 : MV} {ds : Ds} {m : Mm} {Q : Ds → Mm → List MV → Prop} : WP 12 85 [q0, q1, q2, q3, q4, q5] [(0, s0), (2, s1)] ds m Q = ((dk ds s1 = 10 ∧ 0 ≤ s0 ∧ s0 < dl ds s1 ∧ WP 12 86 [q0, q1, q2, q3, q4, q5] [(0, m s1 s0)] ds m Q)) := P_g3 k12_85 rfl
set_option maxRecDepth 20000 in
theorem k12_86 : mjCode 12 86 = some (.istore 5, 2, 0, 0) := by decide +kernel
theorem p12_86 {l4 s0 : Int} {q0 q1 q2 q3 q5 : MV} {ds : Ds} {m : Mm} {Q : Ds → Mm → List MV → Prop} : WP 12 86 [q0, q1, q2, q3, (0, l4), q5] [(0, s0)] ds m Q = (WP 12 88 [q0, q1, q2, q3, (0, l4), (0, s0)] [] ds m Q) := P_nx k12_86 rfl
set_option maxRecDepth 20000 in
theorem k12_88 : mjCode 12 88 = some (.iload 5, 2, 0, 0) := by decide +kernel
theorem p12_88 {l5 : Int} {q0 q1 q2 q3 q4 : MV} {ds : Ds} {m : Mm} {Q : Ds → Mm → List MV → Prop} : WP 12 88 [q0, q1, q2, q3, q4, (0, l5)] [] ds m Q = (WP 12 90 [q0, q1, q2, q3, q4, (0, l5)] [(0, l5)] ds m Q) := P_nx k12_88 rfl
set_option maxRecDepth 20000 in
theorem k12_90 : mjCode 12 90 = some (.ifCond .lt 26, 3, 116, 0) := by decide +kernel
theorem p12_90 {s0 : Int} {q0 q1 q2 q3 q4 q5 : MV} {ds : Ds} {m : Mm} {Q : Ds → Mm → List MV → Prop} : WP 12 90 [q0, q1, q2, q3, q4, q5] [(0, s0)] ds m Q = (if s0 < 0 then WP 12 116 [q0, q1, q2, q3, q4, q5] [] ds m Q else WP 12 93 [q0, q1, q2, q3, q4, q5] [] ds m Q) := P_if k12_90 rfl
set_option maxRecDepth 20000 in
theorem k12_93 : mjCode 12 93 = some (.iload 5, 2, 0, 0) := by decide +kernel
theorem p12_93 {l5 : Int} {q0 q1 q2 q3 q4 : MV} {ds : Ds} {m : Mm} {Q : Ds → Mm → List MV → Prop} : WP 12 93 [q0, q1, q2, q3, q4, (0, l5)] [] ds m Q = (WP 12 95 [q0, q1, q2, q3, q4, (0, l5)] [(0, l5)] ds m Q) := P_nx k12_93 rfl
set_option maxRecDepth 20000 in
theorem k12_95 : mjCode 12 95 = some (.aload_n 0, 1, 0, 0) := by decide +kernel
theorem p12_95 {l0 s0 : Int} {q1 q2 q3 q4 q5 : MV} {ds : Ds} {m : Mm} {Q : Ds → Mm → List MV → Prop} : WP 12 95 [(2, l0), q1, q2, q3, q4, q5] [(0, s0)] ds m Q = (WP 12 96 [(2, l0), q1, q2, q3, q4, q5] [(2, l0), (0, s0)] ds m Q) := P_nx k12_95 rfl
set_option maxRecDepth 20000 in
theorem k12_96 : mjCode 12 96 = some (.getfield 31, 3, 1, 6) := by decide +kernel
theorem p12_96 {s0 s1 : Int} {q0 q1 q2 q3 q4 q5 : MV} {ds : Ds} {m : Mm} {Q : Ds → Mm → List MV → Prop} : WP 12 96 [q0, q1, q2, q3, q4, q5] [(2, s0), (0, s1)] ds m Q = ((dk ds s0 = 1 ∧ WP 12 99 [q0, q1, q2, q3, q4, q5] [(0, m s0 6), (0, s1)] ds m Q)) := P_gd k12_96 rfl
set_option maxRecDepth 20000 in
theorem k12_99 : mjCode 12 99 = some (.if_icmp .ge 17, 3, 116, 0) := by decide +kernel
theorem p12_99 {s0 s1 : Int} {q0 q1 q2 q3 q4 q5 : MV} {ds : Ds} {m : Mm} {Q : Ds → Mm → List MV → Prop} : WP 12 99 [q0, q1, q2, q3, q4, q5] [(0, s0), (0, s1)] ds m Q = (if s1 < s0 then WP 12 102 [q0, q1, q2, q3, q4, q5] [] ds m Q else WP 12 116 [q0, q1, q2, q3, q4, q5] [] ds m Q) := P_if k12_99 rfl
set_option maxRecDepth 20000 in
theorem k12_102 : mjCode 12 102 = some (.aload_n 0, 1, 0, 0) := by decide +kernel
theorem p12_102 {l0 : Int} {q1 q2 q3 q4 q5 : MV} {ds : Ds} {m : Mm} {Q : Ds → Mm → List MV → Prop} : WP 12 102 [(2, l0), q1, q2, q3, q4, q5] [] ds m Q = (WP 12 103 [(2, l0), q1, q2, q3, q4, q5] [(2, l0)] ds m Q) := P_nx k12_102 rfl
set_option maxRecDepth 20000 in
theorem k12_103 : mjCode 12 103 = some (.getfield 18, 3, 1, 2) := by decide +kernel
theorem p12_103 {s0 : Int} {q0 q1 q2 q3 q4 q5 : MV} {ds : Ds} {m : Mm} {Q : Ds → Mm → List MV → Prop} : WP 12 103 [q0, q1, q2, q3, q4, q5] [(2, s0)] ds m Q = ((dk ds s0 = 1 ∧ WP 12 106 [q0, q1, q2, q3, q4, q5] [(2, m s0 2)] ds m Q)) := P_gd k12_103 rfl
set_option maxRecDepth 20000 in
theorem k12_106 : mjCode 12 106 = some (.iload 5, 2, 0, 0) := by decide +kernel
theorem p12_106 {l5 s0 : Int} {q0 q1 q2 q3 q4 : MV} {ds : Ds} {m : Mm} {Q : Ds → Mm → List MV → Prop} : WP 12 106 [q0, q1, q2, q3, q4, (0, l5)] [(2, s0)] ds m Q = (WP 12 108 [q0, q1, q2, q3, q4, (0, l5)] [(0, l5), (2, s0)] ds m Q) := P_nx k12_106 rfl
set_option maxRecDepth 20000 in
theorem k12_108 : mjCode 12 108 = some (.aload_n 0, 1, 0, 0) := by decide +kernel
theorem p12_108 {l0 s0 s1 : Int} {q1 q2 q3 q4 q5 : MV} {ds : Ds} {m : Mm} {Q : Ds → Mm → List MV → Prop} : WP 12 108 [(2, l0), q1, q2, q3, q4, q5] [(0, s0), (2, s1)] ds m Q = (WP 12 109 [(2, l0), q1, q2, q3, q4, q5] [(2, l0), (0, s0), (2, s1)] ds m Q) := P_nx k12_108 rfl
set_option maxRecDepth 20000 in
theorem k12_109 : mjCode 12 109 = some (.getfield 31, 3, 1, 6) := by decide +kernel
theorem p12_109 {s0 s1 s2 : Int} {q0 q1 q2 q3 q4 q5 : MV} {ds : Ds} {m : Mm} {Q : Ds → Mm → List MV → Prop} : WP 12 109 [q0, q1, q2, q3, q4, q5] [(2, s0), (0, s1), (2, s2)] ds m Q = ((dk ds s0 = 1 ∧ WP 12 112 [q0, q1, q2, q3, q4, q5] [(0, m s0 6), (0, s1), (2, s2)] ds m Q)) := P_gd k12_109 rfl
set_option maxRecDepth 20000 in
theorem k12_112 : mjCode 12 112 = some (.iastore, 1, 0, 0) := by decide +kernel
theorem p12_112 {s0 s1 s2 : Int} {q0 q1 q2 q3 q4 q5 : MV} {ds : Ds} {m : Mm} {Q : Ds → Mm → List MV → Prop} : WP 12 112 [q0, q1, q2, q3, q4, q5] [(0, s0), (0, s1), (2, s2)] ds m Q = ((dk ds s2 = 10 ∧ 0 ≤ s1 ∧ s1 < dl ds s2 ∧ WP 12 113 [q0, q1, q2, q3, q4, q5] [] ds (up m s2 s1 s0) Q)) := P_s3 k12_112 rfl
set_option maxRecDepth 20000 in
theorem k12_113 : mjCode 12 113 = some (.goto 13, 3, 126, 0) := by decide +kernel
theorem p12_113 {q0 q1 q2 q3 q4 q5 : MV} {ds : Ds} {m : Mm} {Q : Ds → Mm → List MV → Prop} : WP 12 113 [q0, q1, q2, q3, q4, q5] [] ds m Q = (WP 12 126 [q0, q1, q2, q3, q4, q5] [] ds m Q) := P_nx k12_113 rfl
set_option maxRecDepth 20000 in
theorem k12_116 : mjCode 12 116 = some (.aload_n 0, 1, 0, 0) := by decide +kernel
theorem p12_116 {l0 : Int} {q1 q2 q3 q4 q5 : MV} {ds : Ds} {m : Mm} {Q : Ds → Mm → List MV → Prop} : WP 12 116 [(2, l0), q1, q2, q3, q4, q5] [] ds m Q = (WP 12 117 [(2, l0), q1, q2, q3, q4, q5] [(2, l0)] ds m Q) := P_nx k12_116 rfl
set_option maxRecDepth 20000 in
theorem k12_117 : mjCode 12 117 = some (.getfield 9, 3, 1, 0) := by decide +kernel
theorem p12_117 {s0 : Int} {q0 q1 q2 q3 q4 q5 : MV} {ds : Ds} {m : Mm} {Q : Ds → Mm → List MV → Prop} : WP 12 117 [q0, q1, q2, q3, q4, q5] [(2, s0)] ds m Q = ((dk ds s0 = 1 ∧ WP 12 120 [q0, q1, q2, q3, q4, q5] [(2, m s0 0)] ds m Q)) := P_gd k12_117 rfl
set_option maxRecDepth 20000 in
theorem k12_120 : mjCode 12 120 = some (.iload_n 1, 1, 0, 0) := by decide +kernel
theorem p12_120 {l1 s0 : Int} {q0 q2 q3 q4 q5 : MV} {ds : Ds} {m : Mm} {Q : Ds → Mm → List MV → Prop} : WP 12 120 [q0, (0, l1), q2, q3, q4, q5] [(2, s0)] ds m Q = (WP 12 121 [q0, (0, l1), q2, q3, q4, q5] [(0, l1), (2, s0)] ds m Q) := P_nx k12_120 rfl
set_option maxRecDepth 20000 in
theorem k12_121 : mjCode 12 121 = some (.aload_n 0, 1, 0, 0) := by decide +kernel
theorem p12_121 {l0 s0 s1 : Int} {q1 q2 q3 q4 q5 : MV} {ds : Ds} {m : Mm} {Q : Ds → Mm → List MV → Prop} : WP 12 121 [(2, l0), q1, q2, q3, q4, q5] [(0, s0), (2, s1)] ds m Q = (WP 12 122 [(2, l0), q1, q2, q3, q4, q5] [(2, l0), (0, s0), (2, s1)] ds m Q) := P_nx k12_121 rfl
set_option maxRecDepth 20000 in
theorem k12_122 : mjCode 12 122 = some (.getfield 31, 3, 1, 6) := by decide +kernel
theorem p12_122 {s0 s1 s2 : Int} {q0 q1 q2 q3 q4 q5 : MV} {ds : Ds} {m : Mm} {Q : Ds → Mm → List MV → Prop} : WP 12 122 [q0, q1, q2, q3, q4, q5] [(2, s0), (0, s1), (2, s2)] ds m Q = ((dk ds s0 = 1 ∧ WP 12 125 [q0, q1, q2, q3, q4, q5] [(0, m s0 6), (0, s1), (2, s2)] ds m Q)) := P_gd k12_122 rfl
set_option maxRecDepth 20000 in
theorem k12_125 : mjCode 12 125 = some (.iastore, 1, 0, 0) := by decide +kernel
theorem p12_125 {s0 s1 s2 : Int} {q0 q1 q2 q3 q4 q5 : MV} {ds : Ds} {m : Mm} {Q : Ds → Mm → List MV → Prop} : WP 12 125 [q0, q1, q2, q3, q4, q5] [(0, s0), (0, s1), (2, s2)] ds m Q = ((dk ds s2 = 10 ∧ 0 ≤ s1 ∧ s1 < dl ds s2 ∧ WP 12 126 [q0, q1, q2, q3, q4, q5] [] ds (up m s2 s1 s0) Q)) := P_s3 k12_125 rfl
set_option maxRecDepth 20000 in
theorem k12_126 : mjCode 12 126 = some (.aload_n 0, 1, 0, 0) := by decide +kernel
theorem p12_126 {l0 : Int} {q1 q2 q3 q4 q5 : MV} {ds : Ds} {m : Mm} {Q : Ds → Mm → List MV → Prop} : WP 12 126 [(2, l0), q1, q2, q3, q4, q5] [] ds m Q = (WP 12 127 [(2, l0), q1, q2, q3, q4, q5] [(2, l0)] ds m Q) := P_nx k12_126 rfl
set_option maxRecDepth 20000 in
theorem k12_127 : mjCode 12 127 = some (.getfield 15, 3, 1, 1) := by decide +kernel
theorem p12_127 {s0 : Int} {q0 q1 q2 q3 q4 q5 : MV} {ds : Ds} {m : Mm} {Q : Ds → Mm → List MV → Prop} : WP 12 127 [q0, q1, q2, q3, q4, q5] [(2, s0)] ds m Q = ((dk ds s0 = 1 ∧ WP 12 130 [q0, q1, q2, q3, q4, q5] [(2, m s0 1)] ds m Q)) := P_gd k12_127 rfl
set_option maxRecDepth 20000 in
theorem k12_130 : mjCode 12 130 = some (.iload_n 1, 1, 0, 0) := by decide +kernel
theorem p12_130 {l1 s0 : Int} {q0 q2 q3 q4 q5 : MV} {ds : Ds} {m : Mm} {Q : Ds → Mm → List MV → Prop} : WP 12 130 [q0, (0, l1), q2, q3, q4, q5] [(2, s0)] ds m Q = (WP 12 131 [q0, (0, l1), q2, q3, q4, q5] [(0, l1), (2, s0)] ds m Q) := P_nx k12_130 rfl
set_option maxRecDepth 20000 in
theorem k12_131 : mjCode 12 131 = some (.aload_n 0, 1, 0, 0) := by decide +kernel
theorem p12_131 {l0 s0 s1 : Int} {q1 q2 q3 q4 q5 : MV} {ds : Ds} {m : Mm} {Q : Ds → Mm → List MV → Prop} : WP 12 131 [(2, l0), q1, q2, q3, q4, q5] [(0, s0), (2, s1)] ds m Q = (WP 12 132 [(2, l0), q1, q2, q3, q4, q5] [(2, l0), (0, s0), (2, s1)] ds m Q) := P_nx k12_131 rfl
set_option maxRecDepth 20000 in
theorem k12_132 : mjCode 12 132 = some (.getfield 31, 3, 1, 6) := by decide +kernel
theorem p12_132 {s0 s1 s2 : Int} {q0 q1 q2 q3 q4 q5 : MV} {ds : Ds} {m : Mm} {Q : Ds → Mm → List MV → Prop} : WP 12 132 [q0, q1, q2, q3, q4, q5] [(2, s0), (0, s1), (2, s2)] ds m Q = ((dk ds s0 = 1 ∧ WP 12 135 [q0, q1, q2, q3, q4, q5] [(0, m s0 6), (0, s1), (2, s2)] ds m Q)) := P_gd k12_132 rfl
set_option maxRecDepth 20000 in
theorem k12_135 : mjCode 12 135 = some (.iastore, 1, 0, 0) := by decide +kernel
theorem p12_135 {s0 s1 s2 : Int} {q0 q1 q2 q3 q4 q5 : MV} {ds : Ds} {m : Mm} {Q : Ds → Mm → List MV → Prop} : WP 12 135 [q0, q1, q2, q3, q4, q5] [(0, s0), (0, s1), (2, s2)] ds m Q = ((dk ds s2 = 10 ∧ 0 ≤ s1 ∧ s1 < dl ds s2 ∧ WP 12 136 [q0, q1, q2, q3, q4, q5] [] ds (up m s2 s1 s0) Q)) := P_s3 k12_135 rfl
set_option maxRecDepth 20000 in
theorem k12_136 : mjCode 12 136 = some (.aload_n 0, 1, 0, 0) := by decide +kernel
theorem p12_136 {l0 : Int} {q1 q2 q3 q4 q5 : MV} {ds : Ds} {m : Mm} {Q : Ds → Mm → List MV → Prop} : WP 12 136 [(2, l0), q1, q2, q3, q4, q5] [] ds m Q = (WP 12 137 [(2, l0), q1, q2, q3, q4, q5] [(2, l0)] ds m Q) := P_nx k12_136 rfl
set_option maxRecDepth 20000 in
theorem k12_137 : mjCode 12 137 = some (.dup, 1, 0, 0) := by decide +kernel
theorem p12_137 {s0 : Int} {q0 q1 q2 q3 q4 q5 : MV} {ds : Ds} {m : Mm} {Q : Ds → Mm → List MV → Prop} : WP 12 137 [q0, q1, q2, q3, q4, q5] [(2, s0)] ds m Q = (WP 12 138 [q0, q1, q2, q3, q4, q5] [(2, s0), (2, s0)] ds m Q) := P_nx k12_137 rfl
set_option maxRecDepth 20000 in
theorem k12_138 : mjCode 12 138 = some (.getfield 31, 3, 1, 6) := by decide +kernel
theorem p12_138 {s0 s1 : Int} {q0 q1 q2 q3 q4 q5 : MV} {ds : Ds} {m : Mm} {Q : Ds → Mm → List MV → Prop} : WP 12 138 [q0, q1, q2, q3, q4, q5] [(2, s0), (2, s1)] ds m Q = ((dk ds s0 = 1 ∧ WP 12 141 [q0, q1, q2, q3, q4, q5] [(0, m s0 6), (2, s1)] ds m Q)) := P_gd k12_138 rfl
set_option maxRecDepth 20000 in
theorem k12_141 : mjCode 12 141 = some (.iconst 1, 1, 0, 0) := by decide +kernel
theorem p12_141 {s0 s1 : Int} {q0 q1 q2 q3 q4 q5 : MV} {ds : Ds} {m : Mm} {Q : Ds → Mm → List MV → Prop} : WP 12 141 [q0, q1, q2, q3, q4, q5] [(0, s0), (2, s1)] ds m Q = (WP 12 142 [q0, q1, q2, q3, q4, q5] [(0, 1), (0, s0), (2, s1)] ds m Q) := P_nx k12_141 rfl
set_option maxRecDepth 20000 in
theorem k12_142 : mjCode 12 142 = some (.iadd, 1, 0, 0) := by decide +kernel
theorem p12_142 {s0 s1 s2 : Int} {q0 q1 q2 q3 q4 q5 : MV} {ds : Ds} {m : Mm} {Q : Ds → Mm → List MV → Prop} : WP 12 142 [q0, q1, q2, q3, q4, q5] [(0, s0), (0, s1), (2, s2)] ds m Q = (WP 12 143 [q0, q1, q2, q3, q4, q5] [(0, w32 (s1 + s0)), (2, s2)] ds m Q) := P_nx k12_142 rfl
set_option maxRecDepth 20000 in
theorem k12_143 : mjCode 12 143 = some (.putfield 31, 3, 1, 6) := by decide +kernel
theorem p12_143 {s0 s1 : Int} {q0 q1 q2 q3 q4 q5 : MV} {ds : Ds} {m : Mm} {Q : Ds → Mm → List MV → Prop} : WP 12 143 [q0, q1, q2, q3, q4, q5] [(0, s0), (2, s1)] ds m Q = ((dk ds s1 = 1 ∧ WP 12 146 [q0, q1, q2, q3, q4, q5] [] ds (up m s1 6 s0) Q)) := P_pf k12_143 rfl
set_option maxRecDepth 20000 in
theorem k12_146 : mjCode 12 146 = some (.return_, 1, 0, 0) := by decide +kernel
theorem p12_146 {q0 q1 q2 q3 q4 q5 : MV} {ds : Ds} {m : Mm} {Q : Ds → Mm → List MV → Prop} : WP 12 146 [q0, q1, q2, q3, q4, q5] [] ds m Q = (Q ds m []) := P_rv k12_146 rk12
set_option maxRecDepth 20000 in
theorem k13_0 : mjCode 13 0 = some (.iload_n 1, 1, 0, 0) := by decide +kernel
theorem p13_0 {l1 : Int} {q0 : MV} {ds : Ds} {m : Mm} {Q : Ds → Mm → List MV → Prop} : WP 13 0 [q0, (0, l1)] [] ds m Q = (WP 13 1 [q0, (0, l1)] [(0, l1)] ds m Q) := P_nx k13_0 rfl
set_option maxRecDepth 20000 in
theorem k13_1 : mjCode 13 1 = some (.ifCond .lt 19, 3, 20, 0) := by decide +kernel
theorem p13_1 {s0 : Int} {q0 q1 : MV} {ds : Ds} {m : Mm} {Q : Ds → Mm → List MV → Prop} : WP 13 1 [q0, q1] [(0, s0)] ds m Q = (if s0 < 0 then WP 13 20 [q0, q1] [] ds m Q else WP 13 4 [q0, q1] [] ds m Q) := P_if k13_1 rfl
set_option maxRecDepth 20000 in
theorem k13_4 : mjCode 13 4 = some (.iload_n 1, 1, 0, 0) := by decide +kernel
theorem p13_4 {l1 : Int} {q0 : MV} {ds : Ds} {m : Mm} {Q : Ds → Mm → List MV → Prop} : WP 13 4 [q0, (0, l1)] [] ds m Q = (WP 13 5 [q0, (0, l1)] [(0, l1)] ds m Q) := P_nx k13_4 rfl
set_option maxRecDepth 20000 in
theorem k13_5 : mjCode 13 5 = some (.sipush 400, 3, 0, 0) := by decide +kernel
theorem p13_5 {s0 : Int} {q0 q1 : MV} {ds : Ds} {m : Mm} {Q : Ds → Mm → List MV → Prop} : WP 13 5 [q0, q1] [(0, s0)] ds m Q = (WP 13 8 [q0, q1] [(0, 400), (0, s0)] ds m Q) := P_nx k13_5 rfl
set_option maxRecDepth 20000 in
theorem k13_8 : mjCode 13 8 = some (.if_icmp .ge 12, 3, 20, 0) := by decide +kernel
theorem p13_8 {s0 s1 : Int} {q0 q1 : MV} {ds : Ds} {m : Mm} {Q : Ds → Mm → List MV → Prop} : WP 13 8 [q0, q1] [(0, s0), (0, s1)] ds m Q = (if s1 < s0 then WP 13 11 [q0, q1] [] ds m Q else WP 13 20 [q0, q1] [] ds m Q) := P_if k13_8 rfl
set_option maxRecDepth 20000 in
theorem k13_11 : mjCode 13 11 = some (.aload_n 0, 1, 0, 0) := by decide +kernel
theorem p13_11 {l0 : Int} {q1 : MV} {ds : Ds} {m : Mm} {Q : Ds → Mm → List MV → Prop} : WP 13 11 [(2, l0), q1] [] ds m Q = (WP 13 12 [(2, l0), q1] [(2, l0)] ds m Q) := P_nx k13_11 rfl
set_option maxRecDepth 20000 in
theorem k13_12 : mjCode 13 12 = some (.getfield 9, 3, 1, 0) := by decide +kernel
theorem p13_12 {s0 : Int} {q0 q1 : MV} {ds : Ds} {m : Mm} {Q : Ds → Mm → List MV → Prop} : WP 13 12 [q0, q1] [(2, s0)] ds m Q = ((dk ds s0 = 1 ∧ WP 13 15 [q0, q1] [(2, m s0 0)] ds m Q)) := P_gd k13_12 rfl
set_option maxRecDepth 20000 in
theorem k13_15 : mjCode 13 15 = some (.iload_n 1, 1, 0, 0) := by decide +kernel
theorem p13_15 {l1 s0 : Int} {q0 : MV} {ds : Ds} {m : Mm} {Q : Ds → Mm → List MV → Prop} : WP 13 15 [q0, (0, l1)] [(2, s0)] ds m Q = (WP 13 16 [q0, (0, l1)] [(0, l1), (2, s0)] ds m Q) := P_nx k13_15 rfl
set_option maxRecDepth 20000 in
theorem k13_16 : mjCode 13 16 = some (.iaload, 1, 0, 0) := by decide +kernel
theorem p13_16 {s0 s1 : Int} {q0 q1 : MV} {ds : Ds} {m : Mm} {Q : Ds → Mm → List MV → Prop} : WP 13 16 [q0, q1] [(0, s0), (2, s1)] ds m Q = ((dk ds s1 = 10 ∧ 0 ≤ s0 ∧ s0 < dl ds s1 ∧ WP 13 17 [q0, q1] [(0, m s1 s0)] ds m Q)) := P_g3 k13_16 rfl
set_option maxRecDepth 20000 in
theorem k13_17 : mjCode 13 17 = some (.goto 4, 3, 21, 0) := by decide +kernel
theorem p13_17 {s0 : Int} {q0 q1 : MV} {ds : Ds} {m : Mm} {Q : Ds → Mm → List MV → Prop} : WP 13 17 [q0, q1] [(0, s0)] ds m Q = (WP 13 21 [q0, q1] [(0, s0)] ds m Q) := P_nx k13_17 rfl
set_option maxRecDepth 20000 in
theorem k13_20 : mjCode 13 20 = some (.iconst (-1), 1, 0, 0) := by decide +kernel
theorem p13_20 {q0 q1 : MV} {ds : Ds} {m : Mm} {Q : Ds → Mm → List MV → Prop} : WP 13 20 [q0, q1] [] ds m Q = (WP 13 21 [q0, q1] [(0, (-1))] ds m Q) := P_nx k13_20 rfl
set_option maxRecDepth 20000 in
theorem k13_21 : mjCode 13 21 = some (.ireturn, 1, 0, 0) := by decide +kernel
theorem p13_21 {s0 : Int} {q0 q1 : MV} {ds : Ds} {m : Mm} {Q : Ds → Mm → List MV → Prop} : WP 13 21 [q0, q1] [(0, s0)] ds m Q = (Q ds m [(0, s0)]) := P_ri k13_21 rk13
set_option maxRecDepth 20000 in
theorem k14_0 : mjCode 14 0 = some (.iload_n 1, 1, 0, 0) := by decide +kernel
theorem p14_0 {l1 : Int} {q0 : MV} {ds : Ds} {m : Mm} {Q : Ds → Mm → List MV → Prop} : WP 14 0 [q0, (0, l1)] [] ds m Q = (WP 14 1 [q0, (0, l1)] [(0, l1)] ds m Q) := P_nx k14_0 rfl
set_option maxRecDepth 20000 in
theorem k14_1 : mjCode 14 1 = some (.ifCond .lt 22, 3, 23, 0) := by decide +kernel
theorem p14_1 {s0 : Int} {q0 q1 : MV} {ds : Ds} {m : Mm} {Q : Ds → Mm → List MV → Prop} : WP 14 1 [q0, q1] [(0, s0)] ds m Q = (if s0 < 0 then WP 14 23 [q0, q1] [] ds m Q else WP 14 4 [q0, q1] [] ds m Q) := P_if k14_1 rfl
set_option maxRecDepth 20000 in
theorem k14_4 : mjCode 14 4 = some (.iload_n 1, 1, 0, 0) := by decide +kernel
theorem p14_4 {l1 : Int} {q0 : MV} {ds : Ds} {m : Mm} {Q : Ds → Mm → List MV → Prop} : WP 14 4 [q0, (0, l1)] [] ds m Q = (WP 14 5 [q0, (0, l1)] [(0, l1)] ds m Q) := P_nx k14_4 rfl
set_option maxRecDepth 20000 in
theorem k14_5 : mjCode 14 5 = some (.aload_n 0, 1, 0, 0) := by decide +kernel
theorem p14_5 {l0 s0 : Int} {q1 : MV} {ds : Ds} {m : Mm} {Q : Ds → Mm → List MV → Prop} : WP 14 5 [(2, l0), q1] [(0, s0)] ds m Q = (WP 14 6 [(2, l0), q1] [(2, l0), (0, s0)] ds m Q) := P_nx k14_5 rfl
set_option maxRecDepth 20000 in
theorem k14_6 : mjCode 14 6 = some (.getfield 31, 3, 1, 6) := by decide +kernel
theorem p14_6 {s0 s1 : Int} {q0 q1 : MV} {ds : Ds} {m : Mm} {Q : Ds → Mm → List MV → Prop} : WP 14 6 [q0, q1] [(2, s0), (0, s1)] ds m Q = ((dk ds s0 = 1 ∧ WP 14 9 [q0, q1] [(0, m s0 6), (0, s1)] ds m Q)) := P_gd k14_6 rfl
set_option maxRecDepth 20000 in
theorem k14_9 : mjCode 14 9 = some (.if_icmp .ge 14, 3, 23, 0) := by decide +kernel
theorem p14_9 {s0 s1 : Int} {q0 q1 : MV} {ds : Ds} {m : Mm} {Q : Ds → Mm → List MV → Prop} : WP 14 9 [q0, q1] [(0, s0), (0, s1)] ds m Q = (if s1 < s0 then WP 14 12 [q0, q1] [] ds m Q else WP 14 23 [q0, q1] [] ds m Q) := P_if k14_9 rfl
set_option maxRecDepth 20000 in
theorem k14_12 : mjCode 14 12 = some (.iload_n 1, 1, 0, 0) := by decide +kernel
theorem p14_12 {l1 : Int} {q0 : MV} {ds : Ds} {m : Mm} {Q : Ds → Mm → List MV → Prop} : WP 14 12 [q0, (0, l1)] [] ds m Q = (WP 14 13 [q0, (0, l1)] [(0, l1)] ds m Q) := P_nx k14_12 rfl
set_option maxRecDepth 20000 in
theorem k14_13 : mjCode 14 13 = some (.sipush 1196, 3, 0, 0) := by decide +kernel
theorem p14_13 {s0 : Int} {q0 q1 : MV} {ds : Ds} {m : Mm} {Q : Ds → Mm → List MV → Prop} : WP 14 13 [q0, q1] [(0, s0)] ds m Q = (WP 14 16 [q0, q1] [(0, 1196), (0, s0)] ds m Q) := P_nx k14_13 rfl
set_option maxRecDepth 20000 in
theorem k14_16 : mjCode 14 16 = some (.if_icmp .ge 7, 3, 23, 0) := by decide +kernel
theorem p14_16 {s0 s1 : Int} {q0 q1 : MV} {ds : Ds} {m : Mm} {Q : Ds → Mm → List MV → Prop} : WP 14 16 [q0, q1] [(0, s0), (0, s1)] ds m Q = (if s1 < s0 then WP 14 19 [q0, q1] [] ds m Q else WP 14 23 [q0, q1] [] ds m Q) := P_if k14_16 rfl
set_option maxRecDepth 20000 in
theorem k14_19 : mjCode 14 19 = some (.iconst 1, 1, 0, 0) := by decide +kernel
theorem p14_19 {q0 q1 : MV} {ds : Ds} {m : Mm} {Q : Ds → Mm → List MV → Prop} : WP 14 19 [q0, q1] [] ds m Q = (WP 14 20 [q0, q1] [(0, 1)] ds m Q) := P_nx k14_19 rfl
set_option maxRecDepth 20000 in
theorem k14_20 : mjCode 14 20 = some (.goto 4, 3, 24, 0) := by decide +kernel
theorem p14_20 {s0 : Int} {q0 q1 : MV} {ds : Ds} {m : Mm} {Q : Ds → Mm → List MV → Prop} : WP 14 20 [q0, q1] [(0, s0)] ds m Q = (WP 14 24 [q0, q1] [(0, s0)] ds m Q) := P_nx k14_20 rfl
set_option maxRecDepth 20000 in
theorem k14_23 : mjCode 14 23 = some (.iconst 0, 1, 0, 0) := by decide +kernel
theorem p14_23 {q0 q1 : MV} {ds : Ds} {m : Mm} {Q : Ds → Mm → List MV → Prop} : WP 14 23 [q0, q1] [] ds m Q = (WP 14 24 [q0, q1] [(0, 0)] ds m Q) := P_nx k14_23 rfl
set_option maxRecDepth 20000 in
theorem k14_24 : mjCode 14 24 = some (.ireturn, 1, 0, 0) := by decide +kernel
theorem p14_24 {s0 : Int} {q0 q1 : MV} {ds : Ds} {m : Mm} {Q : Ds → Mm → List MV → Prop} : WP 14 24 [q0, q1] [(0, s0)] ds m Q = (((s0 = 0 ∨ s0 = 1) ∧ Q ds m [(0, s0)])) := P_rb k14_24 rk14
set_option maxRecDepth 20000 in
theorem k15_0 : mjCode 15 0 = some (.aload_n 0, 1, 0, 0) := by decide +kernel
theorem p15_0 {l0 : Int} {q1 q2 : MV} {ds : Ds} {m : Mm} {Q : Ds → Mm → List MV → Prop} : WP 15 0 [(2, l0), q1, q2] [] ds m Q = (WP 15 1 [(2, l0), q1, q2] [(2, l0)] ds m Q) := P_nx k15_0 rfl
set_option maxRecDepth 20000 in
theorem k15_1 : mjCode 15 1 = some (.invokespecial 3, 3, 0, 1) := by decide +kernel
theorem p15_1 {s0 : Int} {q0 q1 q2 : MV} {ds : Ds} {m : Mm} {Q : Ds → Mm → List MV → Prop} : WP 15 1 [q0, q1, q2] [(2, s0)] ds m Q = (((0 ≤ s0 ∧ ([].map cat).sum ≤ 8) ∧ WP 15 4 [q0, q1, q2] [] ds m Q)) := P_gd k15_1 rfl
set_option maxRecDepth 20000 in
theorem k15_4 : mjCode 15 4 = some (.iload_n 1, 1, 0, 0) := by decide +kernel
theorem p15_4 {l1 : Int} {q0 q2 : MV} {ds : Ds} {m : Mm} {Q : Ds → Mm → List MV → Prop} : WP 15 4 [q0, (0, l1), q2] [] ds m Q = (WP 15 5 [q0, (0, l1), q2] [(0, l1)] ds m Q) := P_nx k15_4 rfl
set_option maxRecDepth 20000 in
theorem k15_5 : mjCode 15 5 = some (.ifCond .ge 7, 3, 12, 0) := by decide +kernel
theorem p15_5 {s0 : Int} {q0 q1 q2 : MV} {ds : Ds} {m : Mm} {Q : Ds → Mm → List MV → Prop} : WP 15 5 [q0, q1, q2] [(0, s0)] ds m Q = (if s0 < 0 then WP 15 8 [q0, q1, q2] [] ds m Q else WP 15 12 [q0, q1, q2] [] ds m Q) := P_if k15_5 rfl
set_option maxRecDepth 20000 in
theorem k15_8 : mjCode 15 8 = some (.iconst 0, 1, 0, 0) := by decide +kernel
theorem p15_8 {q0 q1 q2 : MV} {ds : Ds} {m : Mm} {Q : Ds → Mm → List MV → Prop} : WP 15 8 [q0, q1, q2] [] ds m Q = (WP 15 9 [q0, q1, q2] [(0, 0)] ds m Q) := P_nx k15_8 rfl
set_option maxRecDepth 20000 in
theorem k15_9 : mjCode 15 9 = some (.goto 4, 3, 13, 0) := by decide +kernel
theorem p15_9 {s0 : Int} {q0 q1 q2 : MV} {ds : Ds} {m : Mm} {Q : Ds → Mm → List MV → Prop} : WP 15 9 [q0, q1, q2] [(0, s0)] ds m Q = (WP 15 13 [q0, q1, q2] [(0, s0)] ds m Q) := P_nx k15_9 rfl
set_option maxRecDepth 20000 in
theorem k15_12 : mjCode 15 12 = some (.iload_n 1, 1, 0, 0) := by decide +kernel
theorem p15_12 {l1 : Int} {q0 q2 : MV} {ds : Ds} {m : Mm} {Q : Ds → Mm → List MV → Prop} : WP 15 12 [q0, (0, l1), q2] [] ds m Q = (WP 15 13 [q0, (0, l1), q2] [(0, l1)] ds m Q) := P_nx k15_12 rfl
set_option maxRecDepth 20000 in
theorem k15_13 : mjCode 15 13 = some (.istore_n 2, 1, 0, 0) := by decide +kernel
theorem p15_13 {l1 s0 : Int} {q0 q2 : MV} {ds : Ds} {m : Mm} {Q : Ds → Mm → List MV → Prop} : WP 15 13 [q0, (0, l1), q2] [(0, s0)] ds m Q = (WP 15 14 [q0, (0, l1), (0, s0)] [] ds m Q) := P_nx k15_13 rfl
set_option maxRecDepth 20000 in
theorem k15_14 : mjCode 15 14 = some (.aload_n 0, 1, 0, 0) := by decide +kernel
theorem p15_14 {l0 : Int} {q1 q2 : MV} {ds : Ds} {m : Mm} {Q : Ds → Mm → List MV → Prop} : WP 15 14 [(2, l0), q1, q2] [] ds m Q = (WP 15 15 [(2, l0), q1, q2] [(2, l0)] ds m Q) := P_nx k15_14 rfl
set_option maxRecDepth 20000 in
theorem k15_15 : mjCode 15 15 = some (.iload_n 2, 1, 0, 0) := by decide +kernel
theorem p15_15 {l2 s0 : Int} {q0 q1 : MV} {ds : Ds} {m : Mm} {Q : Ds → Mm → List MV → Prop} : WP 15 15 [q0, q1, (0, l2)] [(2, s0)] ds m Q = (WP 15 16 [q0, q1, (0, l2)] [(0, l2), (2, s0)] ds m Q) := P_nx k15_15 rfl
set_option maxRecDepth 20000 in
theorem k15_16 : mjCode 15 16 = some (.newarray .int, 2, 10, 0) := by decide +kernel
theorem p15_16 {s0 s1 : Int} {q0 q1 q2 : MV} {ds : Ds} {m : Mm} {Q : Ds → Mm → List MV → Prop} : WP 15 16 [q0, q1, q2] [(0, s0), (2, s1)] ds m Q = (((0 ≤ s0 ∧ s0 ≤ 30000) ∧ WP 15 18 [q0, q1, q2] [(2, (ds.length : Int)), (2, s1)] (ds ++ [(10, s0.toNat)]) (al m (ds.length : Int) (dfl 10)) Q)) := P_gd k15_16 rfl
set_option maxRecDepth 20000 in
theorem k15_18 : mjCode 15 18 = some (.putfield 9, 3, 2, 0) := by decide +kernel
theorem p15_18 {s0 s1 : Int} {q0 q1 q2 : MV} {ds : Ds} {m : Mm} {Q : Ds → Mm → List MV → Prop} : WP 15 18 [q0, q1, q2] [(2, s0), (2, s1)] ds m Q = ((dk ds s1 = 2 ∧ WP 15 21 [q0, q1, q2] [] ds (up m s1 0 s0) Q)) := P_pf k15_18 rfl
set_option maxRecDepth 20000 in
theorem k15_21 : mjCode 15 21 = some (.aload_n 0, 1, 0, 0) := by decide +kernel
theorem p15_21 {l0 : Int} {q1 q2 : MV} {ds : Ds} {m : Mm} {Q : Ds → Mm → List MV → Prop} : WP 15 21 [(2, l0), q1, q2] [] ds m Q = (WP 15 22 [(2, l0), q1, q2] [(2, l0)] ds m Q) := P_nx k15_21 rfl
set_option maxRecDepth 20000 in
theorem k15_22 : mjCode 15 22 = some (.iload_n 2, 1, 0, 0) := by decide +kernel
theorem p15_22 {l2 s0 : Int} {q0 q1 : MV} {ds : Ds} {m : Mm} {Q : Ds → Mm → List MV → Prop} : WP 15 22 [q0, q1, (0, l2)] [(2, s0)] ds m Q = (WP 15 23 [q0, q1, (0, l2)] [(0, l2), (2, s0)] ds m Q) := P_nx k15_22 rfl
set_option maxRecDepth 20000 in
theorem k15_23 : mjCode 15 23 = some (.newarray .int, 2, 10, 0) := by decide +kernel
theorem p15_23 {s0 s1 : Int} {q0 q1 q2 : MV} {ds : Ds} {m : Mm} {Q : Ds → Mm → List MV → Prop} : WP 15 23 [q0, q1, q2] [(0, s0), (2, s1)] ds m Q = (((0 ≤ s0 ∧ s0 ≤ 30000) ∧ WP 15 25 [q0, q1, q2] [(2, (ds.length : Int)), (2, s1)] (ds ++ [(10, s0.toNat)]) (al m (ds.length : Int) (dfl 10)) Q)) := P_gd k15_23 rfl
set_option maxRecDepth 20000 in
theorem k15_25 : mjCode 15 25 = some (.putfield 15, 3, 2, 1) := by decide +kernel
theorem p15_25 {s0 s1 : Int} {q0 q1 q2 : MV} {ds : Ds} {m : Mm} {Q : Ds → Mm → List MV → Prop} : WP 15 25 [q0, q1, q2] [(2, s0), (2, s1)] ds m Q = ((dk ds s1 = 2 ∧ WP 15 28 [q0, q1, q2] [] ds (up m s1 1 s0) Q)) := P_pf k15_25 rfl
set_option maxRecDepth 20000 in
theorem k15_28 : mjCode 15 28 = some (.aload_n 0, 1, 0, 0) := by decide +kernel
theorem p15_28 {l0 : Int} {q1 q2 : MV} {ds : Ds} {m : Mm} {Q : Ds → Mm → List MV → Prop} : WP 15 28 [(2, l0), q1, q2] [] ds m Q = (WP 15 29 [(2, l0), q1, q2] [(2, l0)] ds m Q) := P_nx k15_28 rfl
set_option maxRecDepth 20000 in
theorem k15_29 : mjCode 15 29 = some (.iload_n 2, 1, 0, 0) := by decide +kernel
theorem p15_29 {l2 s0 : Int} {q0 q1 : MV} {ds : Ds} {m : Mm} {Q : Ds → Mm → List MV → Prop} : WP 15 29 [q0, q1, (0, l2)] [(2, s0)] ds m Q = (WP 15 30 [q0, q1, (0, l2)] [(0, l2), (2, s0)] ds m Q) := P_nx k15_29 rfl
set_option maxRecDepth 20000 in
theorem k15_30 : mjCode 15 30 = some (.newarray .int, 2, 10, 0) := by decide +kernel
theorem p15_30 {s0 s1 : Int} {q0 q1 q2 : MV} {ds : Ds} {m : Mm} {Q : Ds → Mm → List MV → Prop} : WP 15 30 [q0, q1, q2] [(0, s0), (2, s1)] ds m Q = (((0 ≤ s0 ∧ s0 ≤ 30000) ∧ WP 15 32 [q0, q1, q2] [(2, (ds.length : Int)), (2, s1)] (ds ++ [(10, s0.toNat)]) (al m (ds.length : Int) (dfl 10)) Q)) := P_gd k15_30 rfl
set_option maxRecDepth 20000 in
theorem k15_32 : mjCode 15 32 = some (.putfield 18, 3, 2, 2) := by decide +kernel
theorem p15_32 {s0 s1 : Int} {q0 q1 q2 : MV} {ds : Ds} {m : Mm} {Q : Ds → Mm → List MV → Prop} : WP 15 32 [q0, q1, q2] [(2, s0), (2, s1)] ds m Q = ((dk ds s1 = 2 ∧ WP 15 35 [q0, q1, q2] [] ds (up m s1 2 s0) Q)) := P_pf k15_32 rfl
set_option maxRecDepth 20000 in
theorem k15_35 : mjCode 15 35 = some (.aload_n 0, 1, 0, 0) := by decide +kernel
theorem p15_35 {l0 : Int} {q1 q2 : MV} {ds : Ds} {m : Mm} {Q : Ds → Mm → List MV → Prop} : WP 15 35 [(2, l0), q1, q2] [] ds m Q = (WP 15 36 [(2, l0), q1, q2] [(2, l0)] ds m Q) := P_nx k15_35 rfl
set_option maxRecDepth 20000 in
theorem k15_36 : mjCode 15 36 = some (.iload_n 2, 1, 0, 0) := by decide +kernel
theorem p15_36 {l2 s0 : Int} {q0 q1 : MV} {ds : Ds} {m : Mm} {Q : Ds → Mm → List MV → Prop} : WP 15 36 [q0, q1, (0, l2)] [(2, s0)] ds m Q = (WP 15 37 [q0, q1, (0, l2)] [(0, l2), (2, s0)] ds m Q) := P_nx k15_36 rfl
set_option maxRecDepth 20000 in
theorem k15_37 : mjCode 15 37 = some (.newarray .int, 2, 10, 0) := by decide +kernel
theorem p15_37 {s0 s1 : Int} {q0 q1 q2 : MV} {ds : Ds} {m : Mm} {Q : Ds → Mm → List MV → Prop} : WP 15 37 [q0, q1, q2] [(0, s0), (2, s1)] ds m Q = (((0 ≤ s0 ∧ s0 ≤ 30000) ∧ WP 15 39 [q0, q1, q2] [(2, (ds.length : Int)), (2, s1)] (ds ++ [(10, s0.toNat)]) (al m (ds.length : Int) (dfl 10)) Q)) := P_gd k15_37 rfl
set_option maxRecDepth 20000 in
theorem k15_39 : mjCode 15 39 = some (.putfield 21, 3, 2, 3) := by decide +kernel
theorem p15_39 {s0 s1 : Int} {q0 q1 q2 : MV} {ds : Ds} {m : Mm} {Q : Ds → Mm → List MV → Prop} : WP 15 39 [q0, q1, q2] [(2, s0), (2, s1)] ds m Q = ((dk ds s1 = 2 ∧ WP 15 42 [q0, q1, q2] [] ds (up m s1 3 s0) Q)) := P_pf k15_39 rfl
set_option maxRecDepth 20000 in
theorem k15_42 : mjCode 15 42 = some (.return_, 1, 0, 0) := by decide +kernel
theorem p15_42 {q0 q1 q2 : MV} {ds : Ds} {m : Mm} {Q : Ds → Mm → List MV → Prop} : WP 15 42 [q0, q1, q2] [] ds m Q = (Q ds m []) := P_rv k15_42 rk15
set_option maxRecDepth 20000 in
theorem k16_0 : mjCode 16 0 = some (.iload_n 1, 1, 0, 0) := by decide +kernel
theorem p16_0 {l1 : Int} {q0 : MV} {ds : Ds} {m : Mm} {Q : Ds → Mm → List MV → Prop} : WP 16 0 [q0, (0, l1)] [] ds m Q = (WP 16 1 [q0, (0, l1)] [(0, l1)] ds m Q) := P_nx k16_0 rfl
set_option maxRecDepth 20000 in
theorem k16_1 : mjCode 16 1 = some (.ifCond .lt 24, 3, 25, 0) := by decide +kernel
theorem p16_1 {s0 : Int} {q0 q1 : MV} {ds : Ds} {m : Mm} {Q : Ds → Mm → List MV → Prop} : WP 16 1 [q0, q1] [(0, s0)] ds m Q = (if s0 < 0 then WP 16 25 [q0, q1] [] ds m Q else WP 16 4 [q0, q1] [] ds m Q) := P_if k16_1 rfl
set_option maxRecDepth 20000 in
theorem k16_4 : mjCode 16 4 = some (.iload_n 1, 1, 0, 0) := by decide +kernel
theorem p16_4 {l1 : Int} {q0 : MV} {ds : Ds} {m : Mm} {Q : Ds → Mm → List MV → Prop} : WP 16 4 [q0, (0, l1)] [] ds m Q = (WP 16 5 [q0, (0, l1)] [(0, l1)] ds m Q) := P_nx k16_4 rfl
set_option maxRecDepth 20000 in
theorem k16_5 : mjCode 16 5 = some (.aload_n 0, 1, 0, 0) := by decide +kernel
theorem p16_5 {l0 s0 : Int} {q1 : MV} {ds : Ds} {m : Mm} {Q : Ds → Mm → List MV → Prop} : WP 16 5 [(2, l0), q1] [(0, s0)] ds m Q = (WP 16 6 [(2, l0), q1] [(2, l0), (0, s0)] ds m Q) := P_nx k16_5 rfl
set_option maxRecDepth 20000 in
theorem k16_6 : mjCode 16 6 = some (.getfield 24, 3, 2, 4) := by decide +kernel
theorem p16_6 {s0 s1 : Int} {q0 q1 : MV} {ds : Ds} {m : Mm} {Q : Ds → Mm → List MV → Prop} : WP 16 6 [q0, q1] [(2, s0), (0, s1)] ds m Q = ((dk ds s0 = 2 ∧ WP 16 9 [q0, q1] [(0, m s0 4), (0, s1)] ds m Q)) := P_gd k16_6 rfl
set_option maxRecDepth 20000 in
theorem k16_9 : mjCode 16 9 = some (.if_icmp .ge 16, 3, 25, 0) := by decide +kernel
theorem p16_9 {s0 s1 : Int} {q0 q1 : MV} {ds : Ds} {m : Mm} {Q : Ds → Mm → List MV → Prop} : WP 16 9 [q0, q1] [(0, s0), (0, s1)] ds m Q = (if s1 < s0 then WP 16 12 [q0, q1] [] ds m Q else WP 16 25 [q0, q1] [] ds m Q) := P_if k16_9 rfl
set_option maxRecDepth 20000 in
theorem k16_12 : mjCode 16 12 = some (.iload_n 1, 1, 0, 0) := by decide +kernel
theorem p16_12 {l1 : Int} {q0 : MV} {ds : Ds} {m : Mm} {Q : Ds → Mm → List MV → Prop} : WP 16 12 [q0, (0, l1)] [] ds m Q = (WP 16 13 [q0, (0, l1)] [(0, l1)] ds m Q) := P_nx k16_12 rfl
set_option maxRecDepth 20000 in
theorem k16_13 : mjCode 16 13 = some (.aload_n 0, 1, 0, 0) := by decide +kernel
theorem p16_13 {l0 s0 : Int} {q1 : MV} {ds : Ds} {m : Mm} {Q : Ds → Mm → List MV → Prop} : WP 16 13 [(2, l0), q1] [(0, s0)] ds m Q = (WP 16 14 [(2, l0), q1] [(2, l0), (0, s0)] ds m Q) := P_nx k16_13 rfl
set_option maxRecDepth 20000 in
theorem k16_14 : mjCode 16 14 = some (.getfield 9, 3, 2, 0) := by decide +kernel
theorem p16_14 {s0 s1 : Int} {q0 q1 : MV} {ds : Ds} {m : Mm} {Q : Ds → Mm → List MV → Prop} : WP 16 14 [q0, q1] [(2, s0), (0, s1)] ds m Q = ((dk ds s0 = 2 ∧ WP 16 17 [q0, q1] [(2, m s0 0), (0, s1)] ds m Q)) := P_gd k16_14 rfl
set_option maxRecDepth 20000 in
theorem k16_17 : mjCode 16 17 = some (.arraylength, 1, 0, 0) := by decide +kernel
theorem p16_17 {s0 s1 : Int} {q0 q1 : MV} {ds : Ds} {m : Mm} {Q : Ds → Mm → List MV → Prop} : WP 16 17 [q0, q1] [(2, s0), (0, s1)] ds m Q = (((10 ≤ dk ds s0 ∧ dk ds s0 ≤ 14) ∧ WP 16 18 [q0, q1] [(0, (dl ds s0 : Int)), (0, s1)] ds m Q)) := P_gd k16_17 rfl
set_option maxRecDepth 20000 in
theorem k16_18 : mjCode 16 18 = some (.if_icmp .ge 7, 3, 25, 0) := by decide +kernel
theorem p16_18 {s0 s1 : Int} {q0 q1 : MV} {ds : Ds} {m : Mm} {Q : Ds → Mm → List MV → Prop} : WP 16 18 [q0, q1] [(0, s0), (0, s1)] ds m Q = (if s1 < s0 then WP 16 21 [q0, q1] [] ds m Q else WP 16 25 [q0, q1] [] ds m Q) := P_if k16_18 rfl
set_option maxRecDepth 20000 in
theorem k16_21 : mjCode 16 21 = some (.iconst 1, 1, 0, 0) := by decide +kernel
theorem p16_21 {q0 q1 : MV} {ds : Ds} {m : Mm} {Q : Ds → Mm → List MV → Prop} : WP 16 21 [q0, q1] [] ds m Q = (WP 16 22 [q0, q1] [(0, 1)] ds m Q) := P_nx k16_21 rfl
set_option maxRecDepth 20000 in
theorem k16_22 : mjCode 16 22 = some (.goto 4, 3, 26, 0) := by decide +kernel
theorem p16_22 {s0 : Int} {q0 q1 : MV} {ds : Ds} {m : Mm} {Q : Ds → Mm → List MV → Prop} : WP 16 22 [q0, q1] [(0, s0)] ds m Q = (WP 16 26 [q0, q1] [(0, s0)] ds m Q) := P_nx k16_22 rfl
set_option maxRecDepth 20000 in
theorem k16_25 : mjCode 16 25 = some (.iconst 0, 1, 0, 0) := by decide +kernel
theorem p16_25 {q0 q1 : MV} {ds : Ds} {m : Mm} {Q : Ds → Mm → List MV → Prop} : WP 16 25 [q0, q1] [] ds m Q = (WP 16 26 [q0, q1] [(0, 0)] ds m Q) := P_nx k16_25 rfl
set_option maxRecDepth 20000 in
theorem k16_26 : mjCode 16 26 = some (.ireturn, 1, 0, 0) := by decide +kernel
theorem p16_26 {s0 : Int} {q0 q1 : MV} {ds : Ds} {m : Mm} {Q : Ds → Mm → List MV → Prop} : WP 16 26 [q0, q1] [(0, s0)] ds m Q = (((s0 = 0 ∨ s0 = 1) ∧ Q ds m [(0, s0)])) := P_rb k16_26 rk16
set_option maxRecDepth 20000 in
theorem k17_0 : mjCode 17 0 = some (.aload_n 0, 1, 0, 0) := by decide +kernel
theorem p17_0 {l0 : Int} {q1 q2 : MV} {ds : Ds} {m : Mm} {Q : Ds → Mm → List MV → Prop} : WP 17 0 [(2, l0), q1, q2] [] ds m Q = (WP 17 1 [(2, l0), q1, q2] [(2, l0)] ds m Q) := P_nx k17_0 rfl
set_option maxRecDepth 20000 in
theorem k17_1 : mjCode 17 1 = some (.iload_n 1, 1, 0, 0) := by decide +kernel
theorem p17_1 {l1 s0 : Int} {q0 q2 : MV} {ds : Ds} {m : Mm} {Q : Ds → Mm → List MV → Prop} : WP 17 1 [q0, (0, l1), q2] [(2, s0)] ds m Q = (WP 17 2 [q0, (0, l1), q2] [(0, l1), (2, s0)] ds m Q) := P_nx k17_1 rfl
set_option maxRecDepth 20000 in
theorem k17_2 : mjCode 17 2 = some (.invokevirtual 28, 3, 17, 2) := by decide +kernel
theorem p17_2 {s0 s1 : Int} {q0 q1 q2 : MV} {ds : Ds} {m : Mm} {Q : Ds → Mm → List MV → Prop} : WP 17 2 [q0, q1, q2] [(0, s0), (2, s1)] ds m Q = ((dk ds s1 = 2 ∧ WP 16 0 [(2, s1), (0, s0)] [] ds m (fun d2 m2 r2 => WP 17 5 [q0, q1, q2] (r2 ++ []) d2 m2 Q))) := P_cv k17_2 mx16 mo16 rfl rfl rfl rfl rfl rfl rfl rfl
set_option maxRecDepth 20000 in
theorem k17_5 : mjCode 17 5 = some (.ifCond .eq 18, 3, 23, 0) := by decide +kernel
theorem p17_5 {s0 : Int} {q0 q1 q2 : MV} {ds : Ds} {m : Mm} {Q : Ds → Mm → List MV → Prop} : WP 17 5 [q0, q1, q2] [(0, s0)] ds m Q = (if s0 = 0 then WP 17 23 [q0, q1, q2] [] ds m Q else WP 17 8 [q0, q1, q2] [] ds m Q) := P_if k17_5 rfl
set_option maxRecDepth 20000 in
theorem k17_8 : mjCode 17 8 = some (.aload_n 0, 1, 0, 0) := by decide +kernel
theorem p17_8 {l0 : Int} {q1 q2 : MV} {ds : Ds} {m : Mm} {Q : Ds → Mm → List MV → Prop} : WP 17 8 [(2, l0), q1, q2] [] ds m Q = (WP 17 9 [(2, l0), q1, q2] [(2, l0)] ds m Q) := P_nx k17_8 rfl
set_option maxRecDepth 20000 in
theorem k17_9 : mjCode 17 9 = some (.getfield 21, 3, 2, 3) := by decide +kernel
theorem p17_9 {s0 : Int} {q0 q1 q2 : MV} {ds : Ds} {m : Mm} {Q : Ds → Mm → List MV → Prop} : WP 17 9 [q0, q1, q2] [(2, s0)] ds m Q = ((dk ds s0 = 2 ∧ WP 17 12 [q0, q1, q2] [(2, m s0 3)] ds m Q)) := P_gd k17_9 rfl
set_option maxRecDepth 20000 in
theorem k17_12 : mjCode 17 12 = some (.iload_n 1, 1, 0, 0) := by decide +kernel
theorem p17_12 {l1 s0 : Int} {q0 q2 : MV} {ds : Ds} {m : Mm} {Q : Ds → Mm → List MV → Prop} : WP 17 12 [q0, (0, l1), q2] [(2, s0)] ds m Q = (WP 17 13 [q0, (0, l1), q2] [(0, l1), (2, s0)] ds m Q) := P_nx k17_12 rfl
set_option maxRecDepth 20000 in
theorem k17_13 : mjCode 17 13 = some (.iaload, 1, 0, 0) := by decide +kernel
theorem p17_13 {s0 s1 : Int} {q0 q1 q2 : MV} {ds : Ds} {m : Mm} {Q : Ds → Mm → List MV → Prop} : WP 17 13 [q0, q1, q2] [(0, s0), (2, s1)] ds m Q = ((dk ds s1 = 10 ∧ 0 ≤ s0 ∧ s0 < dl ds s1 ∧ WP 17 14 [q0, q1, q2] [(0, m s1 s0)] ds m Q)) := P_g3 k17_13 rfl
set_option maxRecDepth 20000 in
theorem k17_14 : mjCode 17 14 = some (.iload_n 2, 1, 0, 0) := by decide +kernel
theorem p17_14 {l2 s0 : Int} {q0 q1 : MV} {ds : Ds} {m : Mm} {Q : Ds → Mm → List MV → Prop} : WP 17 14 [q0, q1, (0, l2)] [(0, s0)] ds m Q = (WP 17 15 [q0, q1, (0, l2)] [(0, l2), (0, s0)] ds m Q) := P_nx k17_14 rfl
set_option maxRecDepth 20000 in
theorem k17_15 : mjCode 17 15 = some (.iand, 1, 0, 0) := by decide +kernel
theorem p17_15 {s0 s1 : Int} {q0 q1 q2 : MV} {ds : Ds} {m : Mm} {Q : Ds → Mm → List MV → Prop} : WP 17 15 [q0, q1, q2] [(0, s0), (0, s1)] ds m Q = (WP 17 16 [q0, q1, q2] [(0, jand s1 s0)] ds m Q) := P_nx k17_15 rfl
set_option maxRecDepth 20000 in
theorem k17_16 : mjCode 17 16 = some (.ifCond .eq 7, 3, 23, 0) := by decide +kernel
theorem p17_16 {s0 : Int} {q0 q1 q2 : MV} {ds : Ds} {m : Mm} {Q : Ds → Mm → List MV → Prop} : WP 17 16 [q0, q1, q2] [(0, s0)] ds m Q = (if s0 = 0 then WP 17 23 [q0, q1, q2] [] ds m Q else WP 17 19 [q0, q1, q2] [] ds m Q) := P_if k17_16 rfl
set_option maxRecDepth 20000 in
theorem k17_19 : mjCode 17 19 = some (.iconst 1, 1, 0, 0) := by decide +kernel
theorem p17_19 {q0 q1 q2 : MV} {ds : Ds} {m : Mm} {Q : Ds → Mm → List MV → Prop} : WP 17 19 [q0, q1, q2] [] ds m Q = (WP 17 20 [q0, q1, q2] [(0, 1)] ds m Q) := P_nx k17_19 rfl
set_option maxRecDepth 20000 in
theorem k17_20 : mjCode 17 20 = some (.goto 4, 3, 24, 0) := by decide +kernel
theorem p17_20 {s0 : Int} {q0 q1 q2 : MV} {ds : Ds} {m : Mm} {Q : Ds → Mm → List MV → Prop} : WP 17 20 [q0, q1, q2] [(0, s0)] ds m Q = (WP 17 24 [q0, q1, q2] [(0, s0)] ds m Q) := P_nx k17_20 rfl
set_option maxRecDepth 20000 in
theorem k17_23 : mjCode 17 23 = some (.iconst 0, 1, 0, 0) := by decide +kernel
theorem p17_23 {q0 q1 q2 : MV} {ds : Ds} {m : Mm} {Q : Ds → Mm → List MV → Prop} : WP 17 23 [q0, q1, q2] [] ds m Q = (WP 17 24 [q0, q1, q2] [(0, 0)] ds m Q) := P_nx k17_23 rfl
set_option maxRecDepth 20000 in
theorem k17_24 : mjCode 17 24 = some (.ireturn, 1, 0, 0) := by decide +kernel
theorem p17_24 {s0 : Int} {q0 q1 q2 : MV} {ds : Ds} {m : Mm} {Q : Ds → Mm → List MV → Prop} : WP 17 24 [q0, q1, q2] [(0, s0)] ds m Q = (((s0 = 0 ∨ s0 = 1) ∧ Q ds m [(0, s0)])) := P_rb k17_24 rk17
set_option maxRecDepth 20000 in
theorem k18_0 : mjCode 18 0 = some (.aload_n 0, 1, 0, 0) := by decide +kernel
theorem p18_0 {l0 : Int} {q1 q2 q3 q4 q5 : MV} {ds : Ds} {m : Mm} {Q : Ds → Mm → List MV → Prop} : WP 18 0 [(2, l0), q1, q2, q3, q4, q5] [] ds m Q = (WP 18 1 [(2, l0), q1, q2, q3, q4, q5] [(2, l0)] ds m Q) := P_nx k18_0 rfl
set_option maxRecDepth 20000 in
theorem k18_1 : mjCode 18 1 = some (.getfield 24, 3, 2, 4) := by decide +kernel
theorem p18_1 {s0 : Int} {q0 q1 q2 q3 q4 q5 : MV} {ds : Ds} {m : Mm} {Q : Ds → Mm → List MV → Prop} : WP 18 1 [q0, q1, q2, q3, q4, q5] [(2, s0)] ds m Q = ((dk ds s0 = 2 ∧ WP 18 4 [q0, q1, q2, q3, q4, q5] [(0, m s0 4)] ds m Q)) := P_gd k18_1 rfl
set_option maxRecDepth 20000 in
theorem k18_4 : mjCode 18 4 = some (.istore 5, 2, 0, 0) := by decide +kernel
theorem p18_4 {l4 s0 : Int} {q0 q1 q2 q3 q5 : MV} {ds : Ds} {m : Mm} {Q : Ds → Mm → List MV → Prop} : WP 18 4 [q0, q1, q2, q3, (0, l4), q5] [(0, s0)] ds m Q = (WP 18 6 [q0, q1, q2, q3, (0, l4), (0, s0)] [] ds m Q) := P_nx k18_4 rfl
set_option maxRecDepth 20000 in
theorem k18_6 : mjCode 18 6 = some (.aload_n 0, 1, 0, 0) := by decide +kernel
theorem p18_6 {l0 : Int} {q1 q2 q3 q4 q5 : MV} {ds : Ds} {m : Mm} {Q : Ds → Mm → List MV → Prop} : WP 18 6 [(2, l0), q1, q2, q3, q4, q5] [] ds m Q = (WP 18 7 [(2, l0), q1, q2, q3, q4, q5] [(2, l0)] ds m Q) := P_nx k18_6 rfl
set_option maxRecDepth 20000 in
theorem k18_7 : mjCode 18 7 = some (.dup, 1, 0, 0) := by decide +kernel
theorem p18_7 {s0 : Int} {q0 q1 q2 q3 q4 q5 : MV} {ds : Ds} {m : Mm} {Q : Ds → Mm → List MV → Prop} : WP 18 7 [q0, q1, q2, q3, q4, q5] [(2, s0)] ds m Q = (WP 18 8 [q0, q1, q2, q3, q4, q5] [(2, s0), (2, s0)] ds m Q) := P_nx k18_7 rfl
set_option maxRecDepth 20000 in
theorem k18_8 : mjCode 18 8 = some (.getfield 24, 3, 2, 4) := by decide +kernel
theorem p18_8 {s0 s1 : Int} {q0 q1 q2 q3 q4 q5 : MV} {ds : Ds} {m : Mm} {Q : Ds → Mm → List MV → Prop} : WP 18 8 [q0, q1, q2, q3, q4, q5] [(2, s0), (2, s1)] ds m Q = ((dk ds s0 = 2 ∧ WP 18 11 [q0, q1, q2, q3, q4, q5] [(0, m s0 4), (2, s1)] ds m Q)) := P_gd k18_8 rfl
set_option maxRecDepth 20000 in
theorem k18_11 : mjCode 18 11 = some (.iconst 1, 1, 0, 0) := by decide +kernel
theorem p18_11 {s0 s1 : Int} {q0 q1 q2 q3 q4 q5 : MV} {ds : Ds} {m : Mm} {Q : Ds → Mm → List MV → Prop} : WP 18 11 [q0, q1, q2, q3, q4, q5] [(0, s0), (2, s1)] ds m Q = (WP 18 12 [q0, q1, q2, q3, q4, q5] [(0, 1), (0, s0), (2, s1)] ds m Q) := P_nx k18_11 rfl
set_option maxRecDepth 20000 in
theorem k18_12 : mjCode 18 12 = some (.iadd, 1, 0, 0) := by decide +kernel
theorem p18_12 {s0 s1 s2 : Int} {q0 q1 q2 q3 q4 q5 : MV} {ds : Ds} {m : Mm} {Q : Ds → Mm → List MV → Prop} : WP 18 12 [q0, q1, q2, q3, q4, q5] [(0, s0), (0, s1), (2, s2)] ds m Q = (WP 18 13 [q0, q1, q2, q3, q4, q5] [(0, w32 (s1 + s0)), (2, s2)] ds m Q) := P_nx k18_12 rfl
set_option maxRecDepth 20000 in
theorem k18_13 : mjCode 18 13 = some (.putfield 24, 3, 2, 4) := by decide +kernel
theorem p18_13 {s0 s1 : Int} {q0 q1 q2 q3 q4 q5 : MV} {ds : Ds} {m : Mm} {Q : Ds → Mm → List MV → Prop} : WP 18 13 [q0, q1, q2, q3, q4, q5] [(0, s0), (2, s1)] ds m Q = ((dk ds s1 = 2 ∧ WP 18 16 [q0, q1, q2, q3, q4, q5] [] ds (up m s1 4 s0) Q)) := P_pf k18_13 rfl
set_option maxRecDepth 20000 in
theorem k18_16 : mjCode 18 16 = some (.aload_n 0, 1, 0, 0) := by decide +kernel
theorem p18_16 {l0 : Int} {q1 q2 q3 q4 q5 : MV} {ds : Ds} {m : Mm} {Q : Ds → Mm → List MV → Prop} : WP 18 16 [(2, l0), q1, q2, q3, q4, q5] [] ds m Q = (WP 18 17 [(2, l0), q1, q2, q3, q4, q5] [(2, l0)] ds m Q) := P_nx k18_16 rfl
set_option maxRecDepth 20000 in
theorem k18_17 : mjCode 18 17 = some (.iload 5, 2, 0, 0) := by decide +kernel
theorem p18_17 {l5 s0 : Int} {q0 q1 q2 q3 q4 : MV} {ds : Ds} {m : Mm} {Q : Ds → Mm → List MV → Prop} : WP 18 17 [q0, q1, q2, q3, q4, (0, l5)] [(2, s0)] ds m Q = (WP 18 19 [q0, q1, q2, q3, q4, (0, l5)] [(0, l5), (2, s0)] ds m Q) := P_nx k18_17 rfl
set_option maxRecDepth 20000 in
theorem k18_19 : mjCode 18 19 = some (.invokevirtual 28, 3, 17, 2) := by decide +kernel
theorem p18_19 {s0 s1 : Int} {q0 q1 q2 q3 q4 q5 : MV} {ds : Ds} {m : Mm} {Q : Ds → Mm → List MV → Prop} : WP 18 19 [q0, q1, q2, q3, q4, q5] [(0, s0), (2, s1)] ds m Q = ((dk ds s1 = 2 ∧ WP 16 0 [(2, s1), (0, s0)] [] ds m (fun d2 m2 r2 => WP 18 22 [q0, q1, q2, q3, q4, q5] (r2 ++ []) d2 m2 Q))) := P_cv k18_19 mx16 mo16 rfl rfl rfl rfl rfl rfl rfl rfl
set_option maxRecDepth 20000 in
theorem k18_22 : mjCode 18 22 = some (.ifCond .eq 36, 3, 58, 0) := by decide +kernel
theorem p18_22 {s0 : Int} {q0 q1 q2 q3 q4 q5 : MV} {ds : Ds} {m : Mm} {Q : Ds → Mm → List MV → Prop} : WP 18 22 [q0, q1, q2, q3, q4, q5] [(0, s0)] ds m Q = (if s0 = 0 then WP 18 58 [q0, q1, q2, q3, q4, q5] [] ds m Q else WP 18 25 [q0, q1, q2, q3, q4, q5] [] ds m Q) := P_if k18_22 rfl
set_option maxRecDepth 20000 in
theorem k18_25 : mjCode 18 25 = some (.aload_n 0, 1, 0, 0) := by decide +kernel
theorem p18_25 {l0 : Int} {q1 q2 q3 q4 q5 : MV} {ds : Ds} {m : Mm} {Q : Ds → Mm → List MV → Prop} : WP 18 25 [(2, l0), q1, q2, q3, q4, q5] [] ds m Q = (WP 18 26 [(2, l0), q1, q2, q3, q4, q5] [(2, l0)] ds m Q) := P_nx k18_25 rfl
set_option maxRecDepth 20000 in
theorem k18_26 : mjCode 18 26 = some (.getfield 9, 3, 2, 0) := by decide +kernel
theorem p18_26 {s0 : Int} {q0 q1 q2 q3 q4 q5 : MV} {ds : Ds} {m : Mm} {Q : Ds → Mm → List MV → Prop} : WP 18 26 [q0, q1, q2, q3, q4, q5] [(2, s0)] ds m Q = ((dk ds s0 = 2 ∧ WP 18 29 [q0, q1, q2, q3, q4, q5] [(2, m s0 0)] ds m Q)) := P_gd k18_26 rfl
set_option maxRecDepth 20000 in
theorem k18_29 : mjCode 18 29 = some (.iload 5, 2, 0, 0) := by decide +kernel
theorem p18_29 {l5 s0 : Int} {q0 q1 q2 q3 q4 : MV} {ds : Ds} {m : Mm} {Q : Ds → Mm → List MV → Prop} : WP 18 29 [q0, q1, q2, q3, q4, (0, l5)] [(2, s0)] ds m Q = (WP 18 31 [q0, q1, q2, q3, q4, (0, l5)] [(0, l5), (2, s0)] ds m Q) := P_nx k18_29 rfl
set_option maxRecDepth 20000 in
theorem k18_31 : mjCode 18 31 = some (.iload_n 1, 1, 0, 0) := by decide +kernel
theorem p18_31 {l1 s0 s1 : Int} {q0 q2 q3 q4 q5 : MV} {ds : Ds} {m : Mm} {Q : Ds → Mm → List MV → Prop} : WP 18 31 [q0, (0, l1), q2, q3, q4, q5] [(0, s0), (2, s1)] ds m Q = (WP 18 32 [q0, (0, l1), q2, q3, q4, q5] [(0, l1), (0, s0), (2, s1)] ds m Q) := P_nx k18_31 rfl
set_option maxRecDepth 20000 in
theorem k18_32 : mjCode 18 32 = some (.iastore, 1, 0, 0) := by decide +kernel
theorem p18_32 {s0 s1 s2 : Int} {q0 q1 q2 q3 q4 q5 : MV} {ds : Ds} {m : Mm} {Q : Ds → Mm → List MV → Prop} : WP 18 32 [q0, q1, q2, q3, q4, q5] [(0, s0), (0, s1), (2, s2)] ds m Q = ((dk ds s2 = 10 ∧ 0 ≤ s1 ∧ s1 < dl ds s2 ∧ WP 18 33 [q0, q1, q2, q3, q4, q5] [] ds (up m s2 s1 s0) Q)) := P_s3 k18_32 rfl
set_option maxRecDepth 20000 in
theorem k18_33 : mjCode 18 33 = some (.aload_n 0, 1, 0, 0) := by decide +kernel
theorem p18_33 {l0 : Int} {q1 q2 q3 q4 q5 : MV} {ds : Ds} {m : Mm} {Q : Ds → Mm → List MV → Prop} : WP 18 33 [(2, l0), q1, q2, q3, q4, q5] [] ds m Q = (WP 18 34 [(2, l0), q1, q2, q3, q4, q5] [(2, l0)] ds m Q) := P_nx k18_33 rfl
set_option maxRecDepth 20000 in
theorem k18_34 : mjCode 18 34 = some (.getfield 15, 3, 2, 1) := by decide +kernel
theorem p18_34 {s0 : Int} {q0 q1 q2 q3 q4 q5 : MV} {ds : Ds} {m : Mm} {Q : Ds → Mm → List MV → Prop} : WP 18 34 [q0, q1, q2, q3, q4, q5] [(2, s0)] ds m Q = ((dk ds s0 = 2 ∧ WP 18 37 [q0, q1, q2, q3, q4, q5] [(2, m s0 1)] ds m Q)) := P_gd k18_34 rfl
set_option maxRecDepth 20000 in
theorem k18_37 : mjCode 18 37 = some (.iload 5, 2, 0, 0) := by decide +kernel
theorem p18_37 {l5 s0 : Int} {q0 q1 q2 q3 q4 : MV} {ds : Ds} {m : Mm} {Q : Ds → Mm → List MV → Prop} : WP 18 37 [q0, q1, q2, q3, q4, (0, l5)] [(2, s0)] ds m Q = (WP 18 39 [q0, q1, q2, q3, q4, (0, l5)] [(0, l5), (2, s0)] ds m Q) := P_nx k18_37 rfl
set_option maxRecDepth 20000 in
theorem k18_39 : mjCode 18 39 = some (.iload_n 2, 1, 0, 0) := by decide +kernel
theorem p18_39 {l2 s0 s1 : Int} {q0 q1 q3 q4 q5 : MV} {ds : Ds} {m : Mm} {Q : Ds → Mm → List MV → Prop} : WP 18 39 [q0, q1, (0, l2), q3, q4, q5] [(0, s0), (2, s1)] ds m Q = (WP 18 40 [q0, q1, (0, l2), q3, q4, q5] [(0, l2), (0, s0), (2, s1)] ds m Q) := P_nx k18_39 rfl
set_option maxRecDepth 20000 in
theorem k18_40 : mjCode 18 40 = some (.iastore, 1, 0, 0) := by decide +kernel
theorem p18_40 {s0 s1 s2 : Int} {q0 q1 q2 q3 q4 q5 : MV} {ds : Ds} {m : Mm} {Q : Ds → Mm → List MV → Prop} : WP 18 40 [q0, q1, q2, q3, q4, q5] [(0, s0), (0, s1), (2, s2)] ds m Q = ((dk ds s2 = 10 ∧ 0 ≤ s1 ∧ s1 < dl ds s2 ∧ WP 18 41 [q0, q1, q2, q3, q4, q5] [] ds (up m s2 s1 s0) Q)) := P_s3 k18_40 rfl
set_option maxRecDepth 20000 in
theorem k18_41 : mjCode 18 41 = some (.aload_n 0, 1, 0, 0) := by decide +kernel
theorem p18_41 {l0 : Int} {q1 q2 q3 q4 q5 : MV} {ds : Ds} {m : Mm} {Q : Ds → Mm → List MV → Prop} : WP 18 41 [(2, l0), q1, q2, q3, q4, q5] [] ds m Q = (WP 18 42 [(2, l0), q1, q2, q3, q4, q5] [(2, l0)] ds m Q) := P_nx k18_41 rfl
set_option maxRecDepth 20000 in
theorem k18_42 : mjCode 18 42 = some (.getfield 18, 3, 2, 2) := by decide +kernel
theorem p18_42 {s0 : Int} {q0 q1 q2 q3 q4 q5 : MV} {ds : Ds} {m : Mm} {Q : Ds → Mm → List MV → Prop} : WP 18 42 [q0, q1, q2, q3, q4, q5] [(2, s0)] ds m Q = ((dk ds s0 = 2 ∧ WP 18 45 [q0, q1, q2, q3, q4, q5] [(2, m s0 2)] ds m Q)) := P_gd k18_42 rfl
set_option maxRecDepth 20000 in
theorem k18_45 : mjCode 18 45 = some (.iload 5, 2, 0, 0) := by decide +kernel
theorem p18_45 {l5 s0 : Int} {q0 q1 q2 q3 q4 : MV} {ds : Ds} {m : Mm} {Q : Ds → Mm → List MV → Prop} : WP 18 45 [q0, q1, q2, q3, q4, (0, l5)] [(2, s0)] ds m Q = (WP 18 47 [q0, q1, q2, q3, q4, (0, l5)] [(0, l5), (2, s0)] ds m Q) := P_nx k18_45 rfl
set_option maxRecDepth 20000 in
theorem k18_47 : mjCode 18 47 = some (.iload_n 3, 1, 0, 0) := by decide +kernel
theorem p18_47 {l3 s0 s1 : Int} {q0 q1 q2 q4 q5 : MV} {ds : Ds} {m : Mm} {Q : Ds → Mm → List MV → Prop} : WP 18 47 [q0, q1, q2, (0, l3), q4, q5] [(0, s0), (2, s1)] ds m Q = (WP 18 48 [q0, q1, q2, (0, l3), q4, q5] [(0, l3), (0, s0), (2, s1)] ds m Q) := P_nx k18_47 rfl
set_option maxRecDepth 20000 in
theorem k18_48 : mjCode 18 48 = some (.iastore, 1, 0, 0) := by decide +kernel
theorem p18_48 {s0 s1 s2 : Int} {q0 q1 q2 q3 q4 q5 : MV} {ds : Ds} {m : Mm} {Q : Ds → Mm → List MV → Prop} : WP 18 48 [q0, q1, q2, q3, q4, q5] [(0, s0), (0, s1), (2, s2)] ds m Q = ((dk ds s2 = 10 ∧ 0 ≤ s1 ∧ s1 < dl ds s2 ∧ WP 18 49 [q0, q1, q2, q3, q4, q5] [] ds (up m s2 s1 s0) Q)) := P_s3 k18_48 rfl
set_option maxRecDepth 20000 in
theorem k18_49 : mjCode 18 49 = some (.aload_n 0, 1, 0, 0) := by decide +kernel
theorem p18_49 {l0 : Int} {q1 q2 q3 q4 q5 : MV} {ds : Ds} {m : Mm} {Q : Ds → Mm → List MV → Prop} : WP 18 49 [(2, l0), q1, q2, q3, q4, q5] [] ds m Q = (WP 18 50 [(2, l0), q1, q2, q3, q4, q5] [(2, l0)] ds m Q) := P_nx k18_49 rfl
set_option maxRecDepth 20000 in
theorem k18_50 : mjCode 18 50 = some (.getfield 21, 3, 2, 3) := by decide +kernel
theorem p18_50 {s0 : Int} {q0 q1 q2 q3 q4 q5 : MV} {ds : Ds} {m : Mm} {Q : Ds → Mm → List MV → Prop} : WP 18 50 [q0, q1, q2, q3, q4, q5] [(2, s0)] ds m Q = ((dk ds s0 = 2 ∧ WP 18 53 [q0, q1, q2, q3, q4, q5] [(2, m s0 3)] ds m Q)) := P_gd k18_50 rfl
set_option maxRecDepth 20000 in
theorem k18_53 : mjCode 18 53 = some (.iload 5, 2, 0, 0) := by decide +kernel
theorem p18_53 {l5 s0 : Int} {q0 q1 q2 q3 q4 : MV} {ds : Ds} {m : Mm} {Q : Ds → Mm → List MV → Prop} : WP 18 53 [q0, q1, q2, q3, q4, (0, l5)] [(2, s0)] ds m Q = (WP 18 55 [q0, q1, q2, q3, q4, (0, l5)] [(0, l5), (2, s0)] ds m Q) := P_nx k18_53 rfl
set_option maxRecDepth 20000 in
theorem k18_55 : mjCode 18 55 = some (.iload 4, 2, 0, 0) := by decide +kernel
theorem p18_55 {l4 s0 s1 : Int} {q0 q1 q2 q3 q5 : MV} {ds : Ds} {m : Mm} {Q : Ds → Mm → List MV → Prop} : WP 18 55 [q0, q1, q2, q3, (0, l4), q5] [(0, s0), (2, s1)] ds m Q = (WP 18 57 [q0, q1, q2, q3, (0, l4), q5] [(0, l4), (0, s0), (2, s1)] ds m Q) := P_nx k18_55 rfl
set_option maxRecDepth 20000 in
theorem k18_57 : mjCode 18 57 = some (.iastore, 1, 0, 0) := by decide +kernel
theorem p18_57 {s0 s1 s2 : Int} {q0 q1 q2 q3 q4 q5 : MV} {ds : Ds} {m : Mm} {Q : Ds → Mm → List MV → Prop} : WP 18 57 [q0, q1, q2, q3, q4, q5] [(0, s0), (0, s1), (2, s2)] ds m Q = ((dk ds s2 = 10 ∧ 0 ≤ s1 ∧ s1 < dl ds s2 ∧ WP 18 58 [q0, q1, q2, q3, q4, q5] [] ds (up m s2 s1 s0) Q)) := P_s3 k18_57 rfl
set_option maxRecDepth 20000 in
theorem k18_58 : mjCode 18 58 = some (.return_, 1, 0, 0) := by decide +kernel
theorem p18_58 {q0 q1 q2 q3 q4 q5 : MV} {ds : Ds} {m : Mm} {Q : Ds → Mm → List MV → Prop} : WP 18 58 [q0, q1, q2, q3, q4, q5] [] ds m Q = (Q ds m []) := P_rv k18_58 rk18
set_option maxRecDepth 20000 in
theorem k19_0 : mjCode 19 0 = some (.iconst 0, 1, 0, 0) := by decide +kernel
theorem p19_0 {q0 q1 q2 : MV} {ds : Ds} {m : Mm} {Q : Ds → Mm → List MV → Prop} : WP 19 0 [q0, q1, q2] [] ds m Q = (WP 19 1 [q0, q1, q2] [(0, 0)] ds m Q) := P_nx k19_0 rfl
set_option maxRecDepth 20000 in
theorem k19_1 : mjCode 19 1 = some (.istore_n 2, 1, 0, 0) := by decide +kernel
theorem p19_1 {l1 s0 : Int} {q0 q2 : MV} {ds : Ds} {m : Mm} {Q : Ds → Mm → List MV → Prop} : WP 19 1 [q0, (0, l1), q2] [(0, s0)] ds m Q = (WP 19 2 [q0, (0, l1), (0, s0)] [] ds m Q) := P_nx k19_1 rfl
set_option maxRecDepth 20000 in
theorem k19_2 : mjCode 19 2 = some (.iload_n 2, 1, 0, 0) := by decide +kernel
theorem p19_2 {l2 : Int} {q0 q1 : MV} {ds : Ds} {m : Mm} {Q : Ds → Mm → List MV → Prop} : WP 19 2 [q0, q1, (0, l2)] [] ds m Q = (WP 19 3 [q0, q1, (0, l2)] [(0, l2)] ds m Q) := P_nx k19_2 rfl
set_option maxRecDepth 20000 in
theorem k19_3 : mjCode 19 3 = some (.aload_n 0, 1, 0, 0) := by decide +kernel
theorem p19_3 {l0 s0 : Int} {q1 q2 : MV} {ds : Ds} {m : Mm} {Q : Ds → Mm → List MV → Prop} : WP 19 3 [(2, l0), q1, q2] [(0, s0)] ds m Q = (WP 19 4 [(2, l0), q1, q2] [(2, l0), (0, s0)] ds m Q) := P_nx k19_3 rfl
set_option maxRecDepth 20000 in
theorem k19_4 : mjCode 19 4 = some (.getfield 24, 3, 2, 4) := by decide +kernel
theorem p19_4 {s0 s1 : Int} {q0 q1 q2 : MV} {ds : Ds} {m : Mm} {Q : Ds → Mm → List MV → Prop} : WP 19 4 [q0, q1, q2] [(2, s0), (0, s1)] ds m Q = ((dk ds s0 = 2 ∧ WP 19 7 [q0, q1, q2] [(0, m s0 4), (0, s1)] ds m Q)) := P_gd k19_4 rfl
set_option maxRecDepth 20000 in
theorem k19_7 : mjCode 19 7 = some (.if_icmp .ge 32, 3, 39, 0) := by decide +kernel
theorem p19_7 {s0 s1 : Int} {q0 q1 q2 : MV} {ds : Ds} {m : Mm} {Q : Ds → Mm → List MV → Prop} : WP 19 7 [q0, q1, q2] [(0, s0), (0, s1)] ds m Q = (if s1 < s0 then WP 19 10 [q0, q1, q2] [] ds m Q else WP 19 39 [q0, q1, q2] [] ds m Q) := P_if k19_7 rfl
set_option maxRecDepth 20000 in
theorem k19_10 : mjCode 19 10 = some (.aload_n 0, 1, 0, 0) := by decide +kernel
theorem p19_10 {l0 : Int} {q1 q2 : MV} {ds : Ds} {m : Mm} {Q : Ds → Mm → List MV → Prop} : WP 19 10 [(2, l0), q1, q2] [] ds m Q = (WP 19 11 [(2, l0), q1, q2] [(2, l0)] ds m Q) := P_nx k19_10 rfl
set_option maxRecDepth 20000 in
theorem k19_11 : mjCode 19 11 = some (.iload_n 2, 1, 0, 0) := by decide +kernel
theorem p19_11 {l2 s0 : Int} {q0 q1 : MV} {ds : Ds} {m : Mm} {Q : Ds → Mm → List MV → Prop} : WP 19 11 [q0, q1, (0, l2)] [(2, s0)] ds m Q = (WP 19 12 [q0, q1, (0, l2)] [(0, l2), (2, s0)] ds m Q) := P_nx k19_11 rfl
set_option maxRecDepth 20000 in
theorem k19_12 : mjCode 19 12 = some (.iconst 4, 1, 0, 0) := by decide +kernel
theorem p19_12 {s0 s1 : Int} {q0 q1 q2 : MV} {ds : Ds} {m : Mm} {Q : Ds → Mm → List MV → Prop} : WP 19 12 [q0, q1, q2] [(0, s0), (2, s1)] ds m Q = (WP 19 13 [q0, q1, q2] [(0, 4), (0, s0), (2, s1)] ds m Q) := P_nx k19_12 rfl
set_option maxRecDepth 20000 in
theorem k19_13 : mjCode 19 13 = some (.invokevirtual 32, 3, 18, 3) := by decide +kernel
theorem p19_13 {s0 s1 s2 : Int} {q0 q1 q2 : MV} {ds : Ds} {m : Mm} {Q : Ds → Mm → List MV → Prop} : WP 19 13 [q0, q1, q2] [(0, s0), (0, s1), (2, s2)] ds m Q = ((dk ds s2 = 2 ∧ WP 17 0 [(2, s2), (0, s1), (0, s0)] [] ds m (fun d2 m2 r2 => WP 19 16 [q0, q1, q2] (r2 ++ []) d2 m2 Q))) := P_cv k19_13 mx17 mo17 rfl rfl rfl rfl rfl rfl rfl rfl
set_option maxRecDepth 20000 in
theorem k19_16 : mjCode 19 16 = some (.ifCond .eq 17, 3, 33, 0) := by decide +kernel
theorem p19_16 {s0 : Int} {q0 q1 q2 : MV} {ds : Ds} {m : Mm} {Q : Ds → Mm → List MV → Prop} : WP 19 16 [q0, q1, q2] [(0, s0)] ds m Q = (if s0 = 0 then WP 19 33 [q0, q1, q2] [] ds m Q else WP 19 19 [q0, q1, q2] [] ds m Q) := P_if k19_16 rfl
set_option maxRecDepth 20000 in
theorem k19_19 : mjCode 19 19 = some (.aload_n 0, 1, 0, 0) := by decide +kernel
theorem p19_19 {l0 : Int} {q1 q2 : MV} {ds : Ds} {m : Mm} {Q : Ds → Mm → List MV → Prop} : WP 19 19 [(2, l0), q1, q2] [] ds m Q = (WP 19 20 [(2, l0), q1, q2] [(2, l0)] ds m Q) := P_nx k19_19 rfl
set_option maxRecDepth 20000 in
theorem k19_20 : mjCode 19 20 = some (.getfield 15, 3, 2, 1) := by decide +kernel
theorem p19_20 {s0 : Int} {q0 q1 q2 : MV} {ds : Ds} {m : Mm} {Q : Ds → Mm → List MV → Prop} : WP 19 20 [q0, q1, q2] [(2, s0)] ds m Q = ((dk ds s0 = 2 ∧ WP 19 23 [q0, q1, q2] [(2, m s0 1)] ds m Q)) := P_gd k19_20 rfl
set_option maxRecDepth 20000 in
theorem k19_23 : mjCode 19 23 = some (.iload_n 2, 1, 0, 0) := by decide +kernel
theorem p19_23 {l2 s0 : Int} {q0 q1 : MV} {ds : Ds} {m : Mm} {Q : Ds → Mm → List MV → Prop} : WP 19 23 [q0, q1, (0, l2)] [(2, s0)] ds m Q = (WP 19 24 [q0, q1, (0, l2)] [(0, l2), (2, s0)] ds m Q) := P_nx k19_23 rfl
set_option maxRecDepth 20000 in
theorem k19_24 : mjCode 19 24 = some (.iaload, 1, 0, 0) := by decide +kernel
theorem p19_24 {s0 s1 : Int} {q0 q1 q2 : MV} {ds : Ds} {m : Mm} {Q : Ds → Mm → List MV → Prop} : WP 19 24 [q0, q1, q2] [(0, s0), (2, s1)] ds m Q = ((dk ds s1 = 10 ∧ 0 ≤ s0 ∧ s0 < dl ds s1 ∧ WP 19 25 [q0, q1, q2] [(0, m s1 s0)] ds m Q)) := P_g3 k19_24 rfl
set_option maxRecDepth 20000 in
theorem k19_25 : mjCode 19 25 = some (.iconst 4, 1, 0, 0) := by decide +kernel
theorem p19_25 {s0 : Int} {q0 q1 q2 : MV} {ds : Ds} {m : Mm} {Q : Ds → Mm → List MV → Prop} : WP 19 25 [q0, q1, q2] [(0, s0)] ds m Q = (WP 19 26 [q0, q1, q2] [(0, 4), (0, s0)] ds m Q) := P_nx k19_25 rfl
set_option maxRecDepth 20000 in
theorem k19_26 : mjCode 19 26 = some (.idiv, 1, 0, 0) := by decide +kernel
theorem p19_26 {s0 s1 : Int} {q0 q1 q2 : MV} {ds : Ds} {m : Mm} {Q : Ds → Mm → List MV → Prop} : WP 19 26 [q0, q1, q2] [(0, s0), (0, s1)] ds m Q = ((¬ s0 = 0 ∧ WP 19 27 [q0, q1, q2] [(0, jdiv s1 s0)] ds m Q)) := P_dv k19_26 rfl
set_option maxRecDepth 20000 in
theorem k19_27 : mjCode 19 27 = some (.iload_n 1, 1, 0, 0) := by decide +kernel
theorem p19_27 {l1 s0 : Int} {q0 q2 : MV} {ds : Ds} {m : Mm} {Q : Ds → Mm → List MV → Prop} : WP 19 27 [q0, (0, l1), q2] [(0, s0)] ds m Q = (WP 19 28 [q0, (0, l1), q2] [(0, l1), (0, s0)] ds m Q) := P_nx k19_27 rfl
set_option maxRecDepth 20000 in
theorem k19_28 : mjCode 19 28 = some (.if_icmp .ne 5, 3, 33, 0) := by decide +kernel
theorem p19_28 {s0 s1 : Int} {q0 q1 q2 : MV} {ds : Ds} {m : Mm} {Q : Ds → Mm → List MV → Prop} : WP 19 28 [q0, q1, q2] [(0, s0), (0, s1)] ds m Q = (if s1 = s0 then WP 19 31 [q0, q1, q2] [] ds m Q else WP 19 33 [q0, q1, q2] [] ds m Q) := P_if k19_28 rfl
set_option maxRecDepth 20000 in
theorem k19_31 : mjCode 19 31 = some (.iload_n 2, 1, 0, 0) := by decide +kernel
theorem p19_31 {l2 : Int} {q0 q1 : MV} {ds : Ds} {m : Mm} {Q : Ds → Mm → List MV → Prop} : WP 19 31 [q0, q1, (0, l2)] [] ds m Q = (WP 19 32 [q0, q1, (0, l2)] [(0, l2)] ds m Q) := P_nx k19_31 rfl
set_option maxRecDepth 20000 in
theorem k19_32 : mjCode 19 32 = some (.ireturn, 1, 0, 0) := by decide +kernel
theorem p19_32 {s0 : Int} {q0 q1 q2 : MV} {ds : Ds} {m : Mm} {Q : Ds → Mm → List MV → Prop} : WP 19 32 [q0, q1, q2] [(0, s0)] ds m Q = (Q ds m [(0, s0)]) := P_ri k19_32 rk19
set_option maxRecDepth 20000 in
theorem k19_33 : mjCode 19 33 = some (.iinc 2 1, 3, 0, 0) := by decide +kernel
theorem p19_33 {l2 : Int} {q0 q1 : MV} {ds : Ds} {m : Mm} {Q : Ds → Mm → List MV → Prop} : WP 19 33 [q0, q1, (0, l2)] [] ds m Q = (WP 19 36 [q0, q1, (0, w32 (l2 + 1))] [] ds m Q) := P_nx k19_33 rfl
set_option maxRecDepth 20000 in
theorem k19_36 : mjCode 19 36 = some (.goto (-34), 3, 2, 0) := by decide +kernel
theorem p19_36 {q0 q1 q2 : MV} {ds : Ds} {m : Mm} {Q : Ds → Mm → List MV → Prop} : WP 19 36 [q0, q1, q2] [] ds m Q = (WP 19 2 [q0, q1, q2] [] ds m Q) := P_nx k19_36 rfl
set_option maxRecDepth 20000 in
theorem k19_39 : mjCode 19 39 = some (.iconst (-1), 1, 0, 0) := by decide +kernel
theorem p19_39 {q0 q1 q2 : MV} {ds : Ds} {m : Mm} {Q : Ds → Mm → List MV → Prop} : WP 19 39 [q0, q1, q2] [] ds m Q = (WP 19 40 [q0, q1, q2] [(0, (-1))] ds m Q) := P_nx k19_39 rfl
set_option maxRecDepth 20000 in
theorem k19_40 : mjCode 19 40 = some (.ireturn, 1, 0, 0) := by decide +kernel
theorem p19_40 {s0 : Int} {q0 q1 q2 : MV} {ds : Ds} {m : Mm} {Q : Ds → Mm → List MV → Prop} : WP 19 40 [q0, q1, q2] [(0, s0)] ds m Q = (Q ds m [(0, s0)]) := P_ri k19_40 rk19
set_option maxRecDepth 20000 in
theorem k20_0 : mjCode 20 0 = some (.iconst (-1), 1, 0, 0) := by decide +kernel
theorem p20_0 {q0 q1 q2 q3 q4 : MV} {ds : Ds} {m : Mm} {Q : Ds → Mm → List MV → Prop} : WP 20 0 [q0, q1, q2, q3, q4] [] ds m Q = (WP 20 1 [q0, q1, q2, q3, q4] [(0, (-1))] ds m Q) := P_nx k20_0 rfl
set_option maxRecDepth 20000 in
theorem k20_1 : mjCode 20 1 = some (.istore_n 2, 1, 0, 0) := by decide +kernel
theorem p20_1 {l1 s0 : Int} {q0 q2 q3 q4 : MV} {ds : Ds} {m : Mm} {Q : Ds → Mm → List MV → Prop} : WP 20 1 [q0, (0, l1), q2, q3, q4] [(0, s0)] ds m Q = (WP 20 2 [q0, (0, l1), (0, s0), q3, q4] [] ds m Q) := P_nx k20_1 rfl
set_option maxRecDepth 20000 in
theorem k20_2 : mjCode 20 2 = some (.iload_n 1, 1, 0, 0) := by decide +kernel
theorem p20_2 {l1 : Int} {q0 q2 q3 q4 : MV} {ds : Ds} {m : Mm} {Q : Ds → Mm → List MV → Prop} : WP 20 2 [q0, (0, l1), q2, q3, q4] [] ds m Q = (WP 20 3 [q0, (0, l1), q2, q3, q4] [(0, l1)] ds m Q) := P_nx k20_2 rfl
set_option maxRecDepth 20000 in
theorem k20_3 : mjCode 20 3 = some (.istore_n 3, 1, 0, 0) := by decide +kernel
theorem p20_3 {l2 s0 : Int} {q0 q1 q3 q4 : MV} {ds : Ds} {m : Mm} {Q : Ds → Mm → List MV → Prop} : WP 20 3 [q0, q1, (0, l2), q3, q4] [(0, s0)] ds m Q = (WP 20 4 [q0, q1, (0, l2), (0, s0), q4] [] ds m Q) := P_nx k20_3 rfl
set_option maxRecDepth 20000 in
theorem k20_4 : mjCode 20 4 = some (.iconst 0, 1, 0, 0) := by decide +kernel
theorem p20_4 {q0 q1 q2 q3 q4 : MV} {ds : Ds} {m : Mm} {Q : Ds → Mm → List MV → Prop} : WP 20 4 [q0, q1, q2, q3, q4] [] ds m Q = (WP 20 5 [q0, q1, q2, q3, q4] [(0, 0)] ds m Q) := P_nx k20_4 rfl
set_option maxRecDepth 20000 in
theorem k20_5 : mjCode 20 5 = some (.istore 4, 2, 0, 0) := by decide +kernel
theorem p20_5 {l3 s0 : Int} {q0 q1 q2 q4 : MV} {ds : Ds} {m : Mm} {Q : Ds → Mm → List MV → Prop} : WP 20 5 [q0, q1, q2, (0, l3), q4] [(0, s0)] ds m Q = (WP 20 7 [q0, q1, q2, (0, l3), (0, s0)] [] ds m Q) := P_nx k20_5 rfl
set_option maxRecDepth 20000 in
theorem k20_7 : mjCode 20 7 = some (.iload 4, 2, 0, 0) := by decide +kernel
theorem p20_7 {l4 : Int} {q0 q1 q2 q3 : MV} {ds : Ds} {m : Mm} {Q : Ds → Mm → List MV → Prop} : WP 20 7 [q0, q1, q2, q3, (0, l4)] [] ds m Q = (WP 20 9 [q0, q1, q2, q3, (0, l4)] [(0, l4)] ds m Q) := P_nx k20_7 rfl
set_option maxRecDepth 20000 in
theorem k20_9 : mjCode 20 9 = some (.sipush 1000, 3, 0, 0) := by decide +kernel
theorem p20_9 {s0 : Int} {q0 q1 q2 q3 q4 : MV} {ds : Ds} {m : Mm} {Q : Ds → Mm → List MV → Prop} : WP 20 9 [q0, q1, q2, q3, q4] [(0, s0)] ds m Q = (WP 20 12 [q0, q1, q2, q3, q4] [(0, 1000), (0, s0)] ds m Q) := P_nx k20_9 rfl
set_option maxRecDepth 20000 in
theorem k20_12 : mjCode 20 12 = some (.if_icmp .ge 27, 3, 39, 0) := by decide +kernel
theorem p20_12 {s0 s1 : Int} {q0 q1 q2 q3 q4 : MV} {ds : Ds} {m : Mm} {Q : Ds → Mm → List MV → Prop} : WP 20 12 [q0, q1, q2, q3, q4] [(0, s0), (0, s1)] ds m Q = (if s1 < s0 then WP 20 15 [q0, q1, q2, q3, q4] [] ds m Q else WP 20 39 [q0, q1, q2, q3, q4] [] ds m Q) := P_if k20_12 rfl
set_option maxRecDepth 20000 in
theorem k20_15 : mjCode 20 15 = some (.aload_n 0, 1, 0, 0) := by decide +kernel
theorem p20_15 {l0 : Int} {q1 q2 q3 q4 : MV} {ds : Ds} {m : Mm} {Q : Ds → Mm → List MV → Prop} : WP 20 15 [(2, l0), q1, q2, q3, q4] [] ds m Q = (WP 20 16 [(2, l0), q1, q2, q3, q4] [(2, l0)] ds m Q) := P_nx k20_15 rfl
set_option maxRecDepth 20000 in
theorem k20_16 : mjCode 20 16 = some (.iload_n 3, 1, 0, 0) := by decide +kernel
theorem p20_16 {l3 s0 : Int} {q0 q1 q2 q4 : MV} {ds : Ds} {m : Mm} {Q : Ds → Mm → List MV → Prop} : WP 20 16 [q0, q1, q2, (0, l3), q4] [(2, s0)] ds m Q = (WP 20 17 [q0, q1, q2, (0, l3), q4] [(0, l3), (2, s0)] ds m Q) := P_nx k20_16 rfl
set_option maxRecDepth 20000 in
theorem k20_17 : mjCode 20 17 = some (.invokevirtual 28, 3, 17, 2) := by decide +kernel
theorem p20_17 {s0 s1 : Int} {q0 q1 q2 q3 q4 : MV} {ds : Ds} {m : Mm} {Q : Ds → Mm → List MV → Prop} : WP 20 17 [q0, q1, q2, q3, q4] [(0, s0), (2, s1)] ds m Q = ((dk ds s1 = 2 ∧ WP 16 0 [(2, s1), (0, s0)] [] ds m (fun d2 m2 r2 => WP 20 20 [q0, q1, q2, q3, q4] (r2 ++ []) d2 m2 Q))) := P_cv k20_17 mx16 mo16 rfl rfl rfl rfl rfl rfl rfl rfl
set_option maxRecDepth 20000 in
theorem k20_20 : mjCode 20 20 = some (.ifCond .eq 19, 3, 39, 0) := by decide +kernel
theorem p20_20 {s0 : Int} {q0 q1 q2 q3 q4 : MV} {ds : Ds} {m : Mm} {Q : Ds → Mm → List MV → Prop} : WP 20 20 [q0, q1, q2, q3, q4] [(0, s0)] ds m Q = (if s0 = 0 then WP 20 39 [q0, q1, q2, q3, q4] [] ds m Q else WP 20 23 [q0, q1, q2, q3, q4] [] ds m Q) := P_if k20_20 rfl
set_option maxRecDepth 20000 in
theorem k20_23 : mjCode 20 23 = some (.iinc 2 1, 3, 0, 0) := by decide +kernel
theorem p20_23 {l2 : Int} {q0 q1 q3 q4 : MV} {ds : Ds} {m : Mm} {Q : Ds → Mm → List MV → Prop} : WP 20 23 [q0, q1, (0, l2), q3, q4] [] ds m Q = (WP 20 26 [q0, q1, (0, w32 (l2 + 1)), q3, q4] [] ds m Q) := P_nx k20_23 rfl
set_option maxRecDepth 20000 in
theorem k20_26 : mjCode 20 26 = some (.aload_n 0, 1, 0, 0) := by decide +kernel
theorem p20_26 {l0 : Int} {q1 q2 q3 q4 : MV} {ds : Ds} {m : Mm} {Q : Ds → Mm → List MV → Prop} : WP 20 26 [(2, l0), q1, q2, q3, q4] [] ds m Q = (WP 20 27 [(2, l0), q1, q2, q3, q4] [(2, l0)] ds m Q) := P_nx k20_26 rfl
set_option maxRecDepth 20000 in
theorem k20_27 : mjCode 20 27 = some (.getfield 18, 3, 2, 2) := by decide +kernel
theorem p20_27 {s0 : Int} {q0 q1 q2 q3 q4 : MV} {ds : Ds} {m : Mm} {Q : Ds → Mm → List MV → Prop} : WP 20 27 [q0, q1, q2, q3, q4] [(2, s0)] ds m Q = ((dk ds s0 = 2 ∧ WP 20 30 [q0, q1, q2, q3, q4] [(2, m s0 2)] ds m Q)) := P_gd k20_27 rfl
set_option maxRecDepth 20000 in
theorem k20_30 : mjCode 20 30 = some (.iload_n 3, 1, 0, 0) := by decide +kernel
theorem p20_30 {l3 s0 : Int} {q0 q1 q2 q4 : MV} {ds : Ds} {m : Mm} {Q : Ds → Mm → List MV → Prop} : WP 20 30 [q0, q1, q2, (0, l3), q4] [(2, s0)] ds m Q = (WP 20 31 [q0, q1, q2, (0, l3), q4] [(0, l3), (2, s0)] ds m Q) := P_nx k20_30 rfl
set_option maxRecDepth 20000 in
theorem k20_31 : mjCode 20 31 = some (.iaload, 1, 0, 0) := by decide +kernel
theorem p20_31 {s0 s1 : Int} {q0 q1 q2 q3 q4 : MV} {ds : Ds} {m : Mm} {Q : Ds → Mm → List MV → Prop} : WP 20 31 [q0, q1, q2, q3, q4] [(0, s0), (2, s1)] ds m Q = ((dk ds s1 = 10 ∧ 0 ≤ s0 ∧ s0 < dl ds s1 ∧ WP 20 32 [q0, q1, q2, q3, q4] [(0, m s1 s0)] ds m Q)) := P_g3 k20_31 rfl
set_option maxRecDepth 20000 in
theorem k20_32 : mjCode 20 32 = some (.istore_n 3, 1, 0, 0) := by decide +kernel
theorem p20_32 {l2 s0 : Int} {q0 q1 q3 q4 : MV} {ds : Ds} {m : Mm} {Q : Ds → Mm → List MV → Prop} : WP 20 32 [q0, q1, (0, l2), q3, q4] [(0, s0)] ds m Q = (WP 20 33 [q0, q1, (0, l2), (0, s0), q4] [] ds m Q) := P_nx k20_32 rfl
set_option maxRecDepth 20000 in
theorem k20_33 : mjCode 20 33 = some (.iinc 4 1, 3, 0, 0) := by decide +kernel
theorem p20_33 {l4 : Int} {q0 q1 q2 q3 : MV} {ds : Ds} {m : Mm} {Q : Ds → Mm → List MV → Prop} : WP 20 33 [q0, q1, q2, q3, (0, l4)] [] ds m Q = (WP 20 36 [q0, q1, q2, q3, (0, w32 (l4 + 1))] [] ds m Q) := P_nx k20_33 rfl
set_option maxRecDepth 20000 in
theorem k20_36 : mjCode 20 36 = some (.goto (-29), 3, 7, 0) := by decide +kernel
theorem p20_36 {q0 q1 q2 q3 q4 : MV} {ds : Ds} {m : Mm} {Q : Ds → Mm → List MV → Prop} : WP 20 36 [q0, q1, q2, q3, q4] [] ds m Q = (WP 20 7 [q0, q1, q2, q3, q4] [] ds m Q) := P_nx k20_36 rfl
set_option maxRecDepth 20000 in
theorem k20_39 : mjCode 20 39 = some (.iload_n 2, 1, 0, 0) := by decide +kernel
theorem p20_39 {l2 : Int} {q0 q1 q3 q4 : MV} {ds : Ds} {m : Mm} {Q : Ds → Mm → List MV → Prop} : WP 20 39 [q0, q1, (0, l2), q3, q4] [] ds m Q = (WP 20 40 [q0, q1, (0, l2), q3, q4] [(0, l2)] ds m Q) := P_nx k20_39 rfl
set_option maxRecDepth 20000 in
theorem k20_40 : mjCode 20 40 = some (.ireturn, 1, 0, 0) := by decide +kernel
theorem p20_40 {s0 : Int} {q0 q1 q2 q3 q4 : MV} {ds : Ds} {m : Mm} {Q : Ds → Mm → List MV → Prop} : WP 20 40 [q0, q1, q2, q3, q4] [(0, s0)] ds m Q = (Q ds m [(0, s0)]) := P_ri k20_40 rk20
set_option maxRecDepth 20000 in
theorem k21_0 : mjCode 21 0 = some (.iload_n 2, 1, 0, 0) := by decide +kernel
theorem p21_0 {l2 : Int} {q0 q1 q3 q4 : MV} {ds : Ds} {m : Mm} {Q : Ds → Mm → List MV → Prop} : WP 21 0 [q0, q1, (0, l2), q3, q4] [] ds m Q = (WP 21 1 [q0, q1, (0, l2), q3, q4] [(0, l2)] ds m Q) := P_nx k21_0 rfl
set_option maxRecDepth 20000 in
theorem k21_1 : mjCode 21 1 = some (.ifCond .ge 5, 3, 6, 0) := by decide +kernel
theorem p21_1 {s0 : Int} {q0 q1 q2 q3 q4 : MV} {ds : Ds} {m : Mm} {Q : Ds → Mm → List MV → Prop} : WP 21 1 [q0, q1, q2, q3, q4] [(0, s0)] ds m Q = (if s0 < 0 then WP 21 4 [q0, q1, q2, q3, q4] [] ds m Q else WP 21 6 [q0, q1, q2, q3, q4] [] ds m Q) := P_if k21_1 rfl
set_option maxRecDepth 20000 in
theorem k21_4 : mjCode 21 4 = some (.iconst (-1), 1, 0, 0) := by decide +kernel
theorem p21_4 {q0 q1 q2 q3 q4 : MV} {ds : Ds} {m : Mm} {Q : Ds → Mm → List MV → Prop} : WP 21 4 [q0, q1, q2, q3, q4] [] ds m Q = (WP 21 5 [q0, q1, q2, q3, q4] [(0, (-1))] ds m Q) := P_nx k21_4 rfl
set_option maxRecDepth 20000 in
theorem k21_5 : mjCode 21 5 = some (.ireturn, 1, 0, 0) := by decide +kernel
theorem p21_5 {s0 : Int} {q0 q1 q2 q3 q4 : MV} {ds : Ds} {m : Mm} {Q : Ds → Mm → List MV → Prop} : WP 21 5 [q0, q1, q2, q3, q4] [(0, s0)] ds m Q = (Q ds m [(0, s0)]) := P_ri k21_5 rk21
set_option maxRecDepth 20000 in
theorem k21_6 : mjCode 21 6 = some (.iload_n 1, 1, 0, 0) := by decide +kernel
theorem p21_6 {l1 : Int} {q0 q2 q3 q4 : MV} {ds : Ds} {m : Mm} {Q : Ds → Mm → List MV → Prop} : WP 21 6 [q0, (0, l1), q2, q3, q4] [] ds m Q = (WP 21 7 [q0, (0, l1), q2, q3, q4] [(0, l1)] ds m Q) := P_nx k21_6 rfl
set_option maxRecDepth 20000 in
theorem k21_7 : mjCode 21 7 = some (.istore_n 3, 1, 0, 0) := by decide +kernel
theorem p21_7 {l2 s0 : Int} {q0 q1 q3 q4 : MV} {ds : Ds} {m : Mm} {Q : Ds → Mm → List MV → Prop} : WP 21 7 [q0, q1, (0, l2), q3, q4] [(0, s0)] ds m Q = (WP 21 8 [q0, q1, (0, l2), (0, s0), q4] [] ds m Q) := P_nx k21_7 rfl
set_option maxRecDepth 20000 in
theorem k21_8 : mjCode 21 8 = some (.iconst 0, 1, 0, 0) := by decide +kernel
theorem p21_8 {q0 q1 q2 q3 q4 : MV} {ds : Ds} {m : Mm} {Q : Ds → Mm → List MV → Prop} : WP 21 8 [q0, q1, q2, q3, q4] [] ds m Q = (WP 21 9 [q0, q1, q2, q3, q4] [(0, 0)] ds m Q) := P_nx k21_8 rfl
set_option maxRecDepth 20000 in
theorem k21_9 : mjCode 21 9 = some (.istore 4, 2, 0, 0) := by decide +kernel
theorem p21_9 {l3 s0 : Int} {q0 q1 q2 q4 : MV} {ds : Ds} {m : Mm} {Q : Ds → Mm → List MV → Prop} : WP 21 9 [q0, q1, q2, (0, l3), q4] [(0, s0)] ds m Q = (WP 21 11 [q0, q1, q2, (0, l3), (0, s0)] [] ds m Q) := P_nx k21_9 rfl
set_option maxRecDepth 20000 in
theorem k21_11 : mjCode 21 11 = some (.iload 4, 2, 0, 0) := by decide +kernel
theorem p21_11 {l4 : Int} {q0 q1 q2 q3 : MV} {ds : Ds} {m : Mm} {Q : Ds → Mm → List MV → Prop} : WP 21 11 [q0, q1, q2, q3, (0, l4)] [] ds m Q = (WP 21 13 [q0, q1, q2, q3, (0, l4)] [(0, l4)] ds m Q) := P_nx k21_11 rfl
set_option maxRecDepth 20000 in
theorem k21_13 : mjCode 21 13 = some (.iload_n 2, 1, 0, 0) := by decide +kernel
theorem p21_13 {l2 s0 : Int} {q0 q1 q3 q4 : MV} {ds : Ds} {m : Mm} {Q : Ds → Mm → List MV → Prop} : WP 21 13 [q0, q1, (0, l2), q3, q4] [(0, s0)] ds m Q = (WP 21 14 [q0, q1, (0, l2), q3, q4] [(0, l2), (0, s0)] ds m Q) := P_nx k21_13 rfl
set_option maxRecDepth 20000 in
theorem k21_14 : mjCode 21 14 = some (.if_icmp .ge 24, 3, 38, 0) := by decide +kernel
theorem p21_14 {s0 s1 : Int} {q0 q1 q2 q3 q4 : MV} {ds : Ds} {m : Mm} {Q : Ds → Mm → List MV → Prop} : WP 21 14 [q0, q1, q2, q3, q4] [(0, s0), (0, s1)] ds m Q = (if s1 < s0 then WP 21 17 [q0, q1, q2, q3, q4] [] ds m Q else WP 21 38 [q0, q1, q2, q3, q4] [] ds m Q) := P_if k21_14 rfl
set_option maxRecDepth 20000 in
theorem k21_17 : mjCode 21 17 = some (.aload_n 0, 1, 0, 0) := by decide +kernel
theorem p21_17 {l0 : Int} {q1 q2 q3 q4 : MV} {ds : Ds} {m : Mm} {Q : Ds → Mm → List MV → Prop} : WP 21 17 [(2, l0), q1, q2, q3, q4] [] ds m Q = (WP 21 18 [(2, l0), q1, q2, q3, q4] [(2, l0)] ds m Q) := P_nx k21_17 rfl
set_option maxRecDepth 20000 in
theorem k21_18 : mjCode 21 18 = some (.iload_n 3, 1, 0, 0) := by decide +kernel
theorem p21_18 {l3 s0 : Int} {q0 q1 q2 q4 : MV} {ds : Ds} {m : Mm} {Q : Ds → Mm → List MV → Prop} : WP 21 18 [q0, q1, q2, (0, l3), q4] [(2, s0)] ds m Q = (WP 21 19 [q0, q1, q2, (0, l3), q4] [(0, l3), (2, s0)] ds m Q) := P_nx k21_18 rfl
set_option maxRecDepth 20000 in
theorem k21_19 : mjCode 21 19 = some (.invokevirtual 28, 3, 17, 2) := by decide +kernel
theorem p21_19 {s0 s1 : Int} {q0 q1 q2 q3 q4 : MV} {ds : Ds} {m : Mm} {Q : Ds → Mm → List MV → Prop} : WP 21 19 [q0, q1, q2, q3, q4] [(0, s0), (2, s1)] ds m Q = ((dk ds s1 = 2 ∧ WP 16 0 [(2, s1), (0, s0)] [] ds m (fun d2 m2 r2 => WP 21 22 [q0, q1, q2, q3, q4] (r2 ++ []) d2 m2 Q))) := P_cv k21_19 mx16 mo16 rfl rfl rfl rfl rfl rfl rfl rfl
set_option maxRecDepth 20000 in
theorem k21_22 : mjCode 21 22 = some (.ifCond .eq 16, 3, 38, 0) := by decide +kernel
theorem p21_22 {s0 : Int} {q0 q1 q2 q3 q4 : MV} {ds : Ds} {m : Mm} {Q : Ds → Mm → List MV → Prop} : WP 21 22 [q0, q1, q2, q3, q4] [(0, s0)] ds m Q = (if s0 = 0 then WP 21 38 [q0, q1, q2, q3, q4] [] ds m Q else WP 21 25 [q0, q1, q2, q3, q4] [] ds m Q) := P_if k21_22 rfl
set_option maxRecDepth 20000 in
theorem k21_25 : mjCode 21 25 = some (.aload_n 0, 1, 0, 0) := by decide +kernel
theorem p21_25 {l0 : Int} {q1 q2 q3 q4 : MV} {ds : Ds} {m : Mm} {Q : Ds → Mm → List MV → Prop} : WP 21 25 [(2, l0), q1, q2, q3, q4] [] ds m Q = (WP 21 26 [(2, l0), q1, q2, q3, q4] [(2, l0)] ds m Q) := P_nx k21_25 rfl
set_option maxRecDepth 20000 in
theorem k21_26 : mjCode 21 26 = some (.getfield 18, 3, 2, 2) := by decide +kernel
theorem p21_26 {s0 : Int} {q0 q1 q2 q3 q4 : MV} {ds : Ds} {m : Mm} {Q : Ds → Mm → List MV → Prop} : WP 21 26 [q0, q1, q2, q3, q4] [(2, s0)] ds m Q = ((dk ds s0 = 2 ∧ WP 21 29 [q0, q1, q2, q3, q4] [(2, m s0 2)] ds m Q)) := P_gd k21_26 rfl
set_option maxRecDepth 20000 in
theorem k21_29 : mjCode 21 29 = some (.iload_n 3, 1, 0, 0) := by decide +kernel
theorem p21_29 {l3 s0 : Int} {q0 q1 q2 q4 : MV} {ds : Ds} {m : Mm} {Q : Ds → Mm → List MV → Prop} : WP 21 29 [q0, q1, q2, (0, l3), q4] [(2, s0)] ds m Q = (WP 21 30 [q0, q1, q2, (0, l3), q4] [(0, l3), (2, s0)] ds m Q) := P_nx k21_29 rfl
set_option maxRecDepth 20000 in
theorem k21_30 : mjCode 21 30 = some (.iaload, 1, 0, 0) := by decide +kernel
theorem p21_30 {s0 s1 : Int} {q0 q1 q2 q3 q4 : MV} {ds : Ds} {m : Mm} {Q : Ds → Mm → List MV → Prop} : WP 21 30 [q0, q1, q2, q3, q4] [(0, s0), (2, s1)] ds m Q = ((dk ds s1 = 10 ∧ 0 ≤ s0 ∧ s0 < dl ds s1 ∧ WP 21 31 [q0, q1, q2, q3, q4] [(0, m s1 s0)] ds m Q)) := P_g3 k21_30 rfl
set_option maxRecDepth 20000 in
theorem k21_31 : mjCode 21 31 = some (.istore_n 3, 1, 0, 0) := by decide +kernel
theorem p21_31 {l2 s0 : Int} {q0 q1 q3 q4 : MV} {ds : Ds} {m : Mm} {Q : Ds → Mm → List MV → Prop} : WP 21 31 [q0, q1, (0, l2), q3, q4] [(0, s0)] ds m Q = (WP 21 32 [q0, q1, (0, l2), (0, s0), q4] [] ds m Q) := P_nx k21_31 rfl
set_option maxRecDepth 20000 in
theorem k21_32 : mjCode 21 32 = some (.iinc 4 1, 3, 0, 0) := by decide +kernel
theorem p21_32 {l4 : Int} {q0 q1 q2 q3 : MV} {ds : Ds} {m : Mm} {Q : Ds → Mm → List MV → Prop} : WP 21 32 [q0, q1, q2, q3, (0, l4)] [] ds m Q = (WP 21 35 [q0, q1, q2, q3, (0, w32 (l4 + 1))] [] ds m Q) := P_nx k21_32 rfl
set_option maxRecDepth 20000 in
theorem k21_35 : mjCode 21 35 = some (.goto (-24), 3, 11, 0) := by decide +kernel
theorem p21_35 {q0 q1 q2 q3 q4 : MV} {ds : Ds} {m : Mm} {Q : Ds → Mm → List MV → Prop} : WP 21 35 [q0, q1, q2, q3, q4] [] ds m Q = (WP 21 11 [q0, q1, q2, q3, q4] [] ds m Q) := P_nx k21_35 rfl
set_option maxRecDepth 20000 in
theorem k21_38 : mjCode 21 38 = some (.aload_n 0, 1, 0, 0) := by decide +kernel
theorem p21_38 {l0 : Int} {q1 q2 q3 q4 : MV} {ds : Ds} {m : Mm} {Q : Ds → Mm → List MV → Prop} : WP 21 38 [(2, l0), q1, q2, q3, q4] [] ds m Q = (WP 21 39 [(2, l0), q1, q2, q3, q4] [(2, l0)] ds m Q) := P_nx k21_38 rfl
set_option maxRecDepth 20000 in
theorem k21_39 : mjCode 21 39 = some (.iload_n 3, 1, 0, 0) := by decide +kernel
theorem p21_39 {l3 s0 : Int} {q0 q1 q2 q4 : MV} {ds : Ds} {m : Mm} {Q : Ds → Mm → List MV → Prop} : WP 21 39 [q0, q1, q2, (0, l3), q4] [(2, s0)] ds m Q = (WP 21 40 [q0, q1, q2, (0, l3), q4] [(0, l3), (2, s0)] ds m Q) := P_nx k21_39 rfl
set_option maxRecDepth 20000 in
theorem k21_40 : mjCode 21 40 = some (.invokevirtual 28, 3, 17, 2) := by decide +kernel
theorem p21_40 {s0 s1 : Int} {q0 q1 q2 q3 q4 : MV} {ds : Ds} {m : Mm} {Q : Ds → Mm → List MV → Prop} : WP 21 40 [q0, q1, q2, q3, q4] [(0, s0), (2, s1)] ds m Q = ((dk ds s1 = 2 ∧ WP 16 0 [(2, s1), (0, s0)] [] ds m (fun d2 m2 r2 => WP 21 43 [q0, q1, q2, q3, q4] (r2 ++ []) d2 m2 Q))) := P_cv k21_40 mx16 mo16 rfl rfl rfl rfl rfl rfl rfl rfl
set_option maxRecDepth 20000 in
theorem k21_43 : mjCode 21 43 = some (.ifCond .eq 7, 3, 50, 0) := by decide +kernel
theorem p21_43 {s0 : Int} {q0 q1 q2 q3 q4 : MV} {ds : Ds} {m : Mm} {Q : Ds → Mm → List MV → Prop} : WP 21 43 [q0, q1, q2, q3, q4] [(0, s0)] ds m Q = (if s0 = 0 then WP 21 50 [q0, q1, q2, q3, q4] [] ds m Q else WP 21 46 [q0, q1, q2, q3, q4] [] ds m Q) := P_if k21_43 rfl
set_option maxRecDepth 20000 in
theorem k21_46 : mjCode 21 46 = some (.iload_n 3, 1, 0, 0) := by decide +kernel
theorem p21_46 {l3 : Int} {q0 q1 q2 q4 : MV} {ds : Ds} {m : Mm} {Q : Ds → Mm → List MV → Prop} : WP 21 46 [q0, q1, q2, (0, l3), q4] [] ds m Q = (WP 21 47 [q0, q1, q2, (0, l3), q4] [(0, l3)] ds m Q) := P_nx k21_46 rfl
set_option maxRecDepth 20000 in
theorem k21_47 : mjCode 21 47 = some (.goto 4, 3, 51, 0) := by decide +kernel
theorem p21_47 {s0 : Int} {q0 q1 q2 q3 q4 : MV} {ds : Ds} {m : Mm} {Q : Ds → Mm → List MV → Prop} : WP 21 47 [q0, q1, q2, q3, q4] [(0, s0)] ds m Q = (WP 21 51 [q0, q1, q2, q3, q4] [(0, s0)] ds m Q) := P_nx k21_47 rfl
set_option maxRecDepth 20000 in
theorem k21_50 : mjCode 21 50 = some (.iconst (-1), 1, 0, 0) := by decide +kernel
theorem p21_50 {q0 q1 q2 q3 q4 : MV} {ds : Ds} {m : Mm} {Q : Ds → Mm → List MV → Prop} : WP 21 50 [q0, q1, q2, q3, q4] [] ds m Q = (WP 21 51 [q0, q1, q2, q3, q4] [(0, (-1))] ds m Q) := P_nx k21_50 rfl
set_option maxRecDepth 20000 in
theorem k21_51 : mjCode 21 51 = some (.ireturn, 1, 0, 0) := by decide +kernel
theorem p21_51 {s0 : Int} {q0 q1 q2 q3 q4 : MV} {ds : Ds} {m : Mm} {Q : Ds → Mm → List MV → Prop} : WP 21 51 [q0, q1, q2, q3, q4] [(0, s0)] ds m Q = (Q ds m [(0, s0)]) := P_ri k21_51 rk21
set_option maxRecDepth 20000 in
theorem k22_0 : mjCode 22 0 = some (.aload_n 0, 1, 0, 0) := by decide +kernel
theorem p22_0 {l0 : Int} {ds : Ds} {m : Mm} {Q : Ds → Mm → List MV → Prop} : WP 22 0 [(2, l0)] [] ds m Q = (WP 22 1 [(2, l0)] [(2, l0)] ds m Q) := P_nx k22_0 rfl
set_option maxRecDepth 20000 in
theorem k22_1 : mjCode 22 1 = some (.invokespecial 3, 3, 0, 1) := by decide +kernel
theorem p22_1 {s0 : Int} {q0 : MV} {ds : Ds} {m : Mm} {Q : Ds → Mm → List MV → Prop} : WP 22 1 [q0] [(2, s0)] ds m Q = (((0 ≤ s0 ∧ ([].map cat).sum ≤ 8) ∧ WP 22 4 [q0] [] ds m Q)) := P_gd k22_1 rfl
set_option maxRecDepth 20000 in
theorem k22_4 : mjCode 22 4 = some (.aload_n 0, 1, 0, 0) := by decide +kernel
theorem p22_4 {l0 : Int} {ds : Ds} {m : Mm} {Q : Ds → Mm → List MV → Prop} : WP 22 4 [(2, l0)] [] ds m Q = (WP 22 5 [(2, l0)] [(2, l0)] ds m Q) := P_nx k22_4 rfl
set_option maxRecDepth 20000 in
theorem k22_5 : mjCode 22 5 = some (.bipush 96, 2, 0, 0) := by decide +kernel
theorem p22_5 {s0 : Int} {q0 : MV} {ds : Ds} {m : Mm} {Q : Ds → Mm → List MV → Prop} : WP 22 5 [q0] [(2, s0)] ds m Q = (WP 22 7 [q0] [(0, 96), (2, s0)] ds m Q) := P_nx k22_5 rfl
set_option maxRecDepth 20000 in
theorem k22_7 : mjCode 22 7 = some (.newarray .int, 2, 10, 0) := by decide +kernel
theorem p22_7 {s0 s1 : Int} {q0 : MV} {ds : Ds} {m : Mm} {Q : Ds → Mm → List MV → Prop} : WP 22 7 [q0] [(0, s0), (2, s1)] ds m Q = (((0 ≤ s0 ∧ s0 ≤ 30000) ∧ WP 22 9 [q0] [(2, (ds.length : Int)), (2, s1)] (ds ++ [(10, s0.toNat)]) (al m (ds.length : Int) (dfl 10)) Q)) := P_gd k22_7 rfl
set_option maxRecDepth 20000 in
theorem k22_9 : mjCode 22 9 = some (.putfield 9, 3, 3, 0) := by decide +kernel
theorem p22_9 {s0 s1 : Int} {q0 : MV} {ds : Ds} {m : Mm} {Q : Ds → Mm → List MV → Prop} : WP 22 9 [q0] [(2, s0), (2, s1)] ds m Q = ((dk ds s1 = 3 ∧ WP 22 12 [q0] [] ds (up m s1 0 s0) Q)) := P_pf k22_9 rfl
set_option maxRecDepth 20000 in
theorem k22_12 : mjCode 22 12 = some (.aload_n 0, 1, 0, 0) := by decide +kernel
theorem p22_12 {l0 : Int} {ds : Ds} {m : Mm} {Q : Ds → Mm → List MV → Prop} : WP 22 12 [(2, l0)] [] ds m Q = (WP 22 13 [(2, l0)] [(2, l0)] ds m Q) := P_nx k22_12 rfl
set_option maxRecDepth 20000 in
theorem k22_13 : mjCode 22 13 = some (.bipush 96, 2, 0, 0) := by decide +kernel
theorem p22_13 {s0 : Int} {q0 : MV} {ds : Ds} {m : Mm} {Q : Ds → Mm → List MV → Prop} : WP 22 13 [q0] [(2, s0)] ds m Q = (WP 22 15 [q0] [(0, 96), (2, s0)] ds m Q) := P_nx k22_13 rfl
set_option maxRecDepth 20000 in
theorem k22_15 : mjCode 22 15 = some (.newarray .int, 2, 10, 0) := by decide +kernel
theorem p22_15 {s0 s1 : Int} {q0 : MV} {ds : Ds} {m : Mm} {Q : Ds → Mm → List MV → Prop} : WP 22 15 [q0] [(0, s0), (2, s1)] ds m Q = (((0 ≤ s0 ∧ s0 ≤ 30000) ∧ WP 22 17 [q0] [(2, (ds.length : Int)), (2, s1)] (ds ++ [(10, s0.toNat)]) (al m (ds.length : Int) (dfl 10)) Q)) := P_gd k22_15 rfl
set_option maxRecDepth 20000 in
theorem k22_17 : mjCode 22 17 = some (.putfield 15, 3, 3, 1) := by decide +kernel
theorem p22_17 {s0 s1 : Int} {q0 : MV} {ds : Ds} {m : Mm} {Q : Ds → Mm → List MV → Prop} : WP 22 17 [q0] [(2, s0), (2, s1)] ds m Q = ((dk ds s1 = 3 ∧ WP 22 20 [q0] [] ds (up m s1 1 s0) Q)) := P_pf k22_17 rfl
set_option maxRecDepth 20000 in
theorem k22_20 : mjCode 22 20 = some (.aload_n 0, 1, 0, 0) := by decide +kernel
theorem p22_20 {l0 : Int} {ds : Ds} {m : Mm} {Q : Ds → Mm → List MV → Prop} : WP 22 20 [(2, l0)] [] ds m Q = (WP 22 21 [(2, l0)] [(2, l0)] ds m Q) := P_nx k22_20 rfl
set_option maxRecDepth 20000 in
theorem k22_21 : mjCode 22 21 = some (.bipush 96, 2, 0, 0) := by decide +kernel
theorem p22_21 {s0 : Int} {q0 : MV} {ds : Ds} {m : Mm} {Q : Ds → Mm → List MV → Prop} : WP 22 21 [q0] [(2, s0)] ds m Q = (WP 22 23 [q0] [(0, 96), (2, s0)] ds m Q) := P_nx k22_21 rfl
set_option maxRecDepth 20000 in
theorem k22_23 : mjCode 22 23 = some (.newarray .int, 2, 10, 0) := by decide +kernel
theorem p22_23 {s0 s1 : Int} {q0 : MV} {ds : Ds} {m : Mm} {Q : Ds → Mm → List MV → Prop} : WP 22 23 [q0] [(0, s0), (2, s1)] ds m Q = (((0 ≤ s0 ∧ s0 ≤ 30000) ∧ WP 22 25 [q0] [(2, (ds.length : Int)), (2, s1)] (ds ++ [(10, s0.toNat)]) (al m (ds.length : Int) (dfl 10)) Q)) := P_gd k22_23 rfl
set_option maxRecDepth 20000 in
theorem k22_25 : mjCode 22 25 = some (.putfield 18, 3, 3, 2) := by decide +kernel
theorem p22_25 {s0 s1 : Int} {q0 : MV} {ds : Ds} {m : Mm} {Q : Ds → Mm → List MV → Prop} : WP 22 25 [q0] [(2, s0), (2, s1)] ds m Q = ((dk ds s1 = 3 ∧ WP 22 28 [q0] [] ds (up m s1 2 s0) Q)) := P_pf k22_25 rfl
set_option maxRecDepth 20000 in
theorem k22_28 : mjCode 22 28 = some (.aload_n 0, 1, 0, 0) := by decide +kernel
theorem p22_28 {l0 : Int} {ds : Ds} {m : Mm} {Q : Ds → Mm → List MV → Prop} : WP 22 28 [(2, l0)] [] ds m Q = (WP 22 29 [(2, l0)] [(2, l0)] ds m Q) := P_nx k22_28 rfl
set_option maxRecDepth 20000 in
theorem k22_29 : mjCode 22 29 = some (.bipush 96, 2, 0, 0) := by decide +kernel
theorem p22_29 {s0 : Int} {q0 : MV} {ds : Ds} {m : Mm} {Q : Ds → Mm → List MV → Prop} : WP 22 29 [q0] [(2, s0)] ds m Q = (WP 22 31 [q0] [(0, 96), (2, s0)] ds m Q) := P_nx k22_29 rfl
set_option maxRecDepth 20000 in
theorem k22_31 : mjCode 22 31 = some (.newarray .int, 2, 10, 0) := by decide +kernel
theorem p22_31 {s0 s1 : Int} {q0 : MV} {ds : Ds} {m : Mm} {Q : Ds → Mm → List MV → Prop} : WP 22 31 [q0] [(0, s0), (2, s1)] ds m Q = (((0 ≤ s0 ∧ s0 ≤ 30000) ∧ WP 22 33 [q0] [(2, (ds.length : Int)), (2, s1)] (ds ++ [(10, s0.toNat)]) (al m (ds.length : Int) (dfl 10)) Q)) := P_gd k22_31 rfl
set_option maxRecDepth 20000 in
theorem k22_33 : mjCode 22 33 = some (.putfield 21, 3, 3, 3) := by decide +kernel
theorem p22_33 {s0 s1 : Int} {q0 : MV} {ds : Ds} {m : Mm} {Q : Ds → Mm → List MV → Prop} : WP 22 33 [q0] [(2, s0), (2, s1)] ds m Q = ((dk ds s1 = 3 ∧ WP 22 36 [q0] [] ds (up m s1 3 s0) Q)) := P_pf k22_33 rfl
set_option maxRecDepth 20000 in
theorem k22_36 : mjCode 22 36 = some (.aload_n 0, 1, 0, 0) := by decide +kernel
theorem p22_36 {l0 : Int} {ds : Ds} {m : Mm} {Q : Ds → Mm → List MV → Prop} : WP 22 36 [(2, l0)] [] ds m Q = (WP 22 37 [(2, l0)] [(2, l0)] ds m Q) := P_nx k22_36 rfl
set_option maxRecDepth 20000 in
theorem k22_37 : mjCode 22 37 = some (.bipush 96, 2, 0, 0) := by decide +kernel
theorem p22_37 {s0 : Int} {q0 : MV} {ds : Ds} {m : Mm} {Q : Ds → Mm → List MV → Prop} : WP 22 37 [q0] [(2, s0)] ds m Q = (WP 22 39 [q0] [(0, 96), (2, s0)] ds m Q) := P_nx k22_37 rfl
set_option maxRecDepth 20000 in
theorem k22_39 : mjCode 22 39 = some (.newarray .boolean, 2, 11, 0) := by decide +kernel
theorem p22_39 {s0 s1 : Int} {q0 : MV} {ds : Ds} {m : Mm} {Q : Ds → Mm → List MV → Prop} : WP 22 39 [q0] [(0, s0), (2, s1)] ds m Q = (((0 ≤ s0 ∧ s0 ≤ 30000) ∧ WP 22 41 [q0] [(2, (ds.length : Int)), (2, s1)] (ds ++ [(11, s0.toNat)]) (al m (ds.length : Int) (dfl 11)) Q)) := P_gd k22_39 rfl
set_option maxRecDepth 20000 in
theorem k22_41 : mjCode 22 41 = some (.putfield 24, 3, 3, 4) := by decide +kernel
theorem p22_41 {s0 s1 : Int} {q0 : MV} {ds : Ds} {m : Mm} {Q : Ds → Mm → List MV → Prop} : WP 22 41 [q0] [(2, s0), (2, s1)] ds m Q = ((dk ds s1 = 3 ∧ WP 22 44 [q0] [] ds (up m s1 4 s0) Q)) := P_pf k22_41 rfl
set_option maxRecDepth 20000 in
theorem k22_44 : mjCode 22 44 = some (.aload_n 0, 1, 0, 0) := by decide +kernel
theorem p22_44 {l0 : Int} {ds : Ds} {m : Mm} {Q : Ds → Mm → List MV → Prop} : WP 22 44 [(2, l0)] [] ds m Q = (WP 22 45 [(2, l0)] [(2, l0)] ds m Q) := P_nx k22_44 rfl
set_option maxRecDepth 20000 in
theorem k22_45 : mjCode 22 45 = some (.iconst 4, 1, 0, 0) := by decide +kernel
theorem p22_45 {s0 : Int} {q0 : MV} {ds : Ds} {m : Mm} {Q : Ds → Mm → List MV → Prop} : WP 22 45 [q0] [(2, s0)] ds m Q = (WP 22 46 [q0] [(0, 4), (2, s0)] ds m Q) := P_nx k22_45 rfl
set_option maxRecDepth 20000 in
theorem k22_46 : mjCode 22 46 = some (.newarray .int, 2, 10, 0) := by decide +kernel
theorem p22_46 {s0 s1 : Int} {q0 : MV} {ds : Ds} {m : Mm} {Q : Ds → Mm → List MV → Prop} : WP 22 46 [q0] [(0, s0), (2, s1)] ds m Q = (((0 ≤ s0 ∧ s0 ≤ 30000) ∧ WP 22 48 [q0] [(2, (ds.length : Int)), (2, s1)] (ds ++ [(10, s0.toNat)]) (al m (ds.length : Int) (dfl 10)) Q)) := P_gd k22_46 rfl
set_option maxRecDepth 20000 in
theorem k22_48 : mjCode 22 48 = some (.putfield 28, 3, 3, 5) := by decide +kernel
theorem p22_48 {s0 s1 : Int} {q0 : MV} {ds : Ds} {m : Mm} {Q : Ds → Mm → List MV → Prop} : WP 22 48 [q0] [(2, s0), (2, s1)] ds m Q = ((dk ds s1 = 3 ∧ WP 22 51 [q0] [] ds (up m s1 5 s0) Q)) := P_pf k22_48 rfl
set_option maxRecDepth 20000 in
theorem k22_51 : mjCode 22 51 = some (.aload_n 0, 1, 0, 0) := by decide +kernel
theorem p22_51 {l0 : Int} {ds : Ds} {m : Mm} {Q : Ds → Mm → List MV → Prop} : WP 22 51 [(2, l0)] [] ds m Q = (WP 22 52 [(2, l0)] [(2, l0)] ds m Q) := P_nx k22_51 rfl
set_option maxRecDepth 20000 in
theorem k22_52 : mjCode 22 52 = some (.iconst 4, 1, 0, 0) := by decide +kernel
theorem p22_52 {s0 : Int} {q0 : MV} {ds : Ds} {m : Mm} {Q : Ds → Mm → List MV → Prop} : WP 22 52 [q0] [(2, s0)] ds m Q = (WP 22 53 [q0] [(0, 4), (2, s0)] ds m Q) := P_nx k22_52 rfl
set_option maxRecDepth 20000 in
theorem k22_53 : mjCode 22 53 = some (.newarray .int, 2, 10, 0) := by decide +kernel
theorem p22_53 {s0 s1 : Int} {q0 : MV} {ds : Ds} {m : Mm} {Q : Ds → Mm → List MV → Prop} : WP 22 53 [q0] [(0, s0), (2, s1)] ds m Q = (((0 ≤ s0 ∧ s0 ≤ 30000) ∧ WP 22 55 [q0] [(2, (ds.length : Int)), (2, s1)] (ds ++ [(10, s0.toNat)]) (al m (ds.length : Int) (dfl 10)) Q)) := P_gd k22_53 rfl
set_option maxRecDepth 20000 in
theorem k22_55 : mjCode 22 55 = some (.putfield 31, 3, 3, 6) := by decide +kernel
theorem p22_55 {s0 s1 : Int} {q0 : MV} {ds : Ds} {m : Mm} {Q : Ds → Mm → List MV → Prop} : WP 22 55 [q0] [(2, s0), (2, s1)] ds m Q = ((dk ds s1 = 3 ∧ WP 22 58 [q0] [] ds (up m s1 6 s0) Q)) := P_pf k22_55 rfl
set_option maxRecDepth 20000 in
theorem k22_58 : mjCode 22 58 = some (.aload_n 0, 1, 0, 0) := by decide +kernel
theorem p22_58 {l0 : Int} {ds : Ds} {m : Mm} {Q : Ds → Mm → List MV → Prop} : WP 22 58 [(2, l0)] [] ds m Q = (WP 22 59 [(2, l0)] [(2, l0)] ds m Q) := P_nx k22_58 rfl
set_option maxRecDepth 20000 in
theorem k22_59 : mjCode 22 59 = some (.iconst 4, 1, 0, 0) := by decide +kernel
theorem p22_59 {s0 : Int} {q0 : MV} {ds : Ds} {m : Mm} {Q : Ds → Mm → List MV → Prop} : WP 22 59 [q0] [(2, s0)] ds m Q = (WP 22 60 [q0] [(0, 4), (2, s0)] ds m Q) := P_nx k22_59 rfl
set_option maxRecDepth 20000 in
theorem k22_60 : mjCode 22 60 = some (.newarray .int, 2, 10, 0) := by decide +kernel
theorem p22_60 {s0 s1 : Int} {q0 : MV} {ds : Ds} {m : Mm} {Q : Ds → Mm → List MV → Prop} : WP 22 60 [q0] [(0, s0), (2, s1)] ds m Q = (((0 ≤ s0 ∧ s0 ≤ 30000) ∧ WP 22 62 [q0] [(2, (ds.length : Int)), (2, s1)] (ds ++ [(10, s0.toNat)]) (al m (ds.length : Int) (dfl 10)) Q)) := P_gd k22_60 rfl
set_option maxRecDepth 20000 in
theorem k22_62 : mjCode 22 62 = some (.putfield 34, 3, 3, 7) := by decide +kernel
theorem p22_62 {s0 s1 : Int} {q0 : MV} {ds : Ds} {m : Mm} {Q : Ds → Mm → List MV → Prop} : WP 22 62 [q0] [(2, s0), (2, s1)] ds m Q = ((dk ds s1 = 3 ∧ WP 22 65 [q0] [] ds (up m s1 7 s0) Q)) := P_pf k22_62 rfl
set_option maxRecDepth 20000 in
theorem k22_65 : mjCode 22 65 = some (.return_, 1, 0, 0) := by decide +kernel
theorem p22_65 {q0 : MV} {ds : Ds} {m : Mm} {Q : Ds → Mm → List MV → Prop} : WP 22 65 [q0] [] ds m Q = (Q ds m []) := P_rv k22_65 rk22
set_option maxRecDepth 20000 in
theorem k23_0 : mjCode 23 0 = some (.iconst 0, 1, 0, 0) := by decide +kernel
theorem p23_0 {q0 q1 q2 : MV} {ds : Ds} {m : Mm} {Q : Ds → Mm → List MV → Prop} : WP 23 0 [q0, q1, q2] [] ds m Q = (WP 23 1 [q0, q1, q2] [(0, 0)] ds m Q) := P_nx k23_0 rfl
set_option maxRecDepth 20000 in
theorem k23_1 : mjCode 23 1 = some (.istore_n 2, 1, 0, 0) := by decide +kernel
theorem p23_1 {l1 s0 : Int} {q0 q2 : MV} {ds : Ds} {m : Mm} {Q : Ds → Mm → List MV → Prop} : WP 23 1 [q0, (2, l1), q2] [(0, s0)] ds m Q = (WP 23 2 [q0, (2, l1), (0, s0)] [] ds m Q) := P_nx k23_1 rfl
set_option maxRecDepth 20000 in
theorem k23_2 : mjCode 23 2 = some (.iload_n 2, 1, 0, 0) := by decide +kernel
theorem p23_2 {l2 : Int} {q0 q1 : MV} {ds : Ds} {m : Mm} {Q : Ds → Mm → List MV → Prop} : WP 23 2 [q0, q1, (0, l2)] [] ds m Q = (WP 23 3 [q0, q1, (0, l2)] [(0, l2)] ds m Q) := P_nx k23_2 rfl
set_option maxRecDepth 20000 in
theorem k23_3 : mjCode 23 3 = some (.bipush 96, 2, 0, 0) := by decide +kernel
theorem p23_3 {s0 : Int} {q0 q1 q2 : MV} {ds : Ds} {m : Mm} {Q : Ds → Mm → List MV → Prop} : WP 23 3 [q0, q1, q2] [(0, s0)] ds m Q = (WP 23 5 [q0, q1, q2] [(0, 96), (0, s0)] ds m Q) := P_nx k23_3 rfl
set_option maxRecDepth 20000 in
theorem k23_5 : mjCode 23 5 = some (.if_icmp .ge 69, 3, 74, 0) := by decide +kernel
theorem p23_5 {s0 s1 : Int} {q0 q1 q2 : MV} {ds : Ds} {m : Mm} {Q : Ds → Mm → List MV → Prop} : WP 23 5 [q0, q1, q2] [(0, s0), (0, s1)] ds m Q = (if s1 < s0 then WP 23 8 [q0, q1, q2] [] ds m Q else WP 23 74 [q0, q1, q2] [] ds m Q) := P_if k23_5 rfl
set_option maxRecDepth 20000 in
theorem k23_8 : mjCode 23 8 = some (.aload_n 0, 1, 0, 0) := by decide +kernel
theorem p23_8 {l0 : Int} {q1 q2 : MV} {ds : Ds} {m : Mm} {Q : Ds → Mm → List MV → Prop} : WP 23 8 [(2, l0), q1, q2] [] ds m Q = (WP 23 9 [(2, l0), q1, q2] [(2, l0)] ds m Q) := P_nx k23_8 rfl
set_option maxRecDepth 20000 in
theorem k23_9 : mjCode 23 9 = some (.getfield 9, 3, 3, 0) := by decide +kernel
theorem p23_9 {s0 : Int} {q0 q1 q2 : MV} {ds : Ds} {m : Mm} {Q : Ds → Mm → List MV → Prop} : WP 23 9 [q0, q1, q2] [(2, s0)] ds m Q = ((dk ds s0 = 3 ∧ WP 23 12 [q0, q1, q2] [(2, m s0 0)] ds m Q)) := P_gd k23_9 rfl
set_option maxRecDepth 20000 in
theorem k23_12 : mjCode 23 12 = some (.iload_n 2, 1, 0, 0) := by decide +kernel
theorem p23_12 {l2 s0 : Int} {q0 q1 : MV} {ds : Ds} {m : Mm} {Q : Ds → Mm → List MV → Prop} : WP 23 12 [q0, q1, (0, l2)] [(2, s0)] ds m Q = (WP 23 13 [q0, q1, (0, l2)] [(0, l2), (2, s0)] ds m Q) := P_nx k23_12 rfl
set_option maxRecDepth 20000 in
theorem k23_13 : mjCode 23 13 = some (.aload_n 1, 1, 0, 0) := by decide +kernel
theorem p23_13 {l1 s0 s1 : Int} {q0 q2 : MV} {ds : Ds} {m : Mm} {Q : Ds → Mm → List MV → Prop} : WP 23 13 [q0, (2, l1), q2] [(0, s0), (2, s1)] ds m Q = (WP 23 14 [q0, (2, l1), q2] [(2, l1), (0, s0), (2, s1)] ds m Q) := P_nx k23_13 rfl
set_option maxRecDepth 20000 in
theorem k23_14 : mjCode 23 14 = some (.getfield 9, 3, 3, 0) := by decide +kernel
theorem p23_14 {s0 s1 s2 : Int} {q0 q1 q2 : MV} {ds : Ds} {m : Mm} {Q : Ds → Mm → List MV → Prop} : WP 23 14 [q0, q1, q2] [(2, s0), (0, s1), (2, s2)] ds m Q = ((dk ds s0 = 3 ∧ WP 23 17 [q0, q1, q2] [(2, m s0 0), (0, s1), (2, s2)] ds m Q)) := P_gd k23_14 rfl
set_option maxRecDepth 20000 in
theorem k23_17 : mjCode 23 17 = some (.iload_n 2, 1, 0, 0) := by decide +kernel
theorem p23_17 {l2 s0 s1 s2 : Int} {q0 q1 : MV} {ds : Ds} {m : Mm} {Q : Ds → Mm → List MV → Prop} : WP 23 17 [q0, q1, (0, l2)] [(2, s0), (0, s1), (2, s2)] ds m Q = (WP 23 18 [q0, q1, (0, l2)] [(0, l2), (2, s0), (0, s1), (2, s2)] ds m Q) := P_nx k23_17 rfl
set_option maxRecDepth 20000 in
theorem k23_18 : mjCode 23 18 = some (.iaload, 1, 0, 0) := by decide +kernel
theorem p23_18 {s0 s1 s2 s3 : Int} {q0 q1 q2 : MV} {ds : Ds} {m : Mm} {Q : Ds → Mm → List MV → Prop} : WP 23 18 [q0, q1, q2] [(0, s0), (2, s1), (0, s2), (2, s3)] ds m Q = ((dk ds s1 = 10 ∧ 0 ≤ s0 ∧ s0 < dl ds s1 ∧ WP 23 19 [q0, q1, q2] [(0, m s1 s0), (0, s2), (2, s3)] ds m Q)) := P_g3 k23_18 rfl
set_option maxRecDepth 20000 in
theorem k23_19 : mjCode 23 19 = some (.iastore, 1, 0, 0) := by decide +kernel
theorem p23_19 {s0 s1 s2 : Int} {q0 q1 q2 : MV} {ds : Ds} {m : Mm} {Q : Ds → Mm → List MV → Prop} : WP 23 19 [q0, q1, q2] [(0, s0), (0, s1), (2, s2)] ds m Q = ((dk ds s2 = 10 ∧ 0 ≤ s1 ∧ s1 < dl ds s2 ∧ WP 23 20 [q0, q1, q2] [] ds (up m s2 s1 s0) Q)) := P_s3 k23_19 rfl
set_option maxRecDepth 20000 in
theorem k23_20 : mjCode 23 20 = some (.aload_n 0, 1, 0, 0) := by decide +kernel
theorem p23_20 {l0 : Int} {q1 q2 : MV} {ds : Ds} {m : Mm} {Q : Ds → Mm → List MV → Prop} : WP 23 20 [(2, l0), q1, q2] [] ds m Q = (WP 23 21 [(2, l0), q1, q2] [(2, l0)] ds m Q) := P_nx k23_20 rfl
set_option maxRecDepth 20000 in
theorem k23_21 : mjCode 23 21 = some (.getfield 15, 3, 3, 1) := by decide +kernel
theorem p23_21 {s0 : Int} {q0 q1 q2 : MV} {ds : Ds} {m : Mm} {Q : Ds → Mm → List MV → Prop} : WP 23 21 [q0, q1, q2] [(2, s0)] ds m Q = ((dk ds s0 = 3 ∧ WP 23 24 [q0, q1, q2] [(2, m s0 1)] ds m Q)) := P_gd k23_21 rfl
set_option maxRecDepth 20000 in
theorem k23_24 : mjCode 23 24 = some (.iload_n 2, 1, 0, 0) := by decide +kernel
theorem p23_24 {l2 s0 : Int} {q0 q1 : MV} {ds : Ds} {m : Mm} {Q : Ds → Mm → List MV → Prop} : WP 23 24 [q0, q1, (0, l2)] [(2, s0)] ds m Q = (WP 23 25 [q0, q1, (0, l2)] [(0, l2), (2, s0)] ds m Q) := P_nx k23_24 rfl
set_option maxRecDepth 20000 in
theorem k23_25 : mjCode 23 25 = some (.aload_n 1, 1, 0, 0) := by decide +kernel
theorem p23_25 {l1 s0 s1 : Int} {q0 q2 : MV} {ds : Ds} {m : Mm} {Q : Ds → Mm → List MV → Prop} : WP 23 25 [q0, (2, l1), q2] [(0, s0), (2, s1)] ds m Q = (WP 23 26 [q0, (2, l1), q2] [(2, l1), (0, s0), (2, s1)] ds m Q) := P_nx k23_25 rfl
set_option maxRecDepth 20000 in
theorem k23_26 : mjCode 23 26 = some (.getfield 15, 3, 3, 1) := by decide +kernel
theorem p23_26 {s0 s1 s2 : Int} {q0 q1 q2 : MV} {ds : Ds} {m : Mm} {Q : Ds → Mm → List MV → Prop} : WP 23 26 [q0, q1, q2] [(2, s0), (0, s1), (2, s2)] ds m Q = ((dk ds s0 = 3 ∧ WP 23 29 [q0, q1, q2] [(2, m s0 1), (0, s1), (2, s2)] ds m Q)) := P_gd k23_26 rfl
set_option maxRecDepth 20000 in
theorem k23_29 : mjCode 23 29 = some (.iload_n 2, 1, 0, 0) := by decide +kernel
theorem p23_29 {l2 s0 s1 s2 : Int} {q0 q1 : MV} {ds : Ds} {m : Mm} {Q : Ds → Mm → List MV → Prop} : WP 23 29 [q0, q1, (0, l2)] [(2, s0), (0, s1), (2, s2)] ds m Q = (WP 23 30 [q0, q1, (0, l2)] [(0, l2), (2, s0), (0, s1), (2, s2)] ds m Q) := P_nx k23_29 rfl
set_option maxRecDepth 20000 in
theorem k23_30 : mjCode 23 30 = some (.iaload, 1, 0, 0) := by decide +kernel
theorem p23_30 {s0 s1 s2 s3 : Int} {q0 q1 q2 : MV} {ds : Ds} {m : Mm} {Q : Ds → Mm → List MV → Prop} : WP 23 30 [q0, q1, q2] [(0, s0), (2, s1), (0, s2), (2, s3)] ds m Q = ((dk ds s1 = 10 ∧ 0 ≤ s0 ∧ s0 < dl ds s1 ∧ WP 23 31 [q0, q1, q2] [(0, m s1 s0), (0, s2), (2, s3)] ds m Q)) := P_g3 k23_30 rfl
set_option maxRecDepth 20000 in
theorem k23_31 : mjCode 23 31 = some (.iastore, 1, 0, 0) := by decide +kernel
theorem p23_31 {s0 s1 s2 : Int} {q0 q1 q2 : MV} {ds : Ds} {m : Mm} {Q : Ds → Mm → List MV → Prop} : WP 23 31 [q0, q1, q2] [(0, s0), (0, s1), (2, s2)] ds m Q = ((dk ds s2 = 10 ∧ 0 ≤ s1 ∧ s1 < dl ds s2 ∧ WP 23 32 [q0, q1, q2] [] ds (up m s2 s1 s0) Q)) := P_s3 k23_31 rfl
set_option maxRecDepth 20000 in
theorem k23_32 : mjCode 23 32 = some (.aload_n 0, 1, 0, 0) := by decide +kernel
theorem p23_32 {l0 : Int} {q1 q2 : MV} {ds : Ds} {m : Mm} {Q : Ds → Mm → List MV → Prop} : WP 23 32 [(2, l0), q1, q2] [] ds m Q = (WP 23 33 [(2, l0), q1, q2] [(2, l0)] ds m Q) := P_nx k23_32 rfl
set_option maxRecDepth 20000 in
theorem k23_33 : mjCode 23 33 = some (.getfield 18, 3, 3, 2) := by decide +kernel
theorem p23_33 {s0 : Int} {q0 q1 q2 : MV} {ds : Ds} {m : Mm} {Q : Ds → Mm → List MV → Prop} : WP 23 33 [q0, q1, q2] [(2, s0)] ds m Q = ((dk ds s0 = 3 ∧ WP 23 36 [q0, q1, q2] [(2, m s0 2)] ds m Q)) := P_gd k23_33 rfl
set_option maxRecDepth 20000 in
theorem k23_36 : mjCode 23 36 = some (.iload_n 2, 1, 0, 0) := by decide +kernel
theorem p23_36 {l2 s0 : Int} {q0 q1 : MV} {ds : Ds} {m : Mm} {Q : Ds → Mm → List MV → Prop} : WP 23 36 [q0, q1, (0, l2)] [(2, s0)] ds m Q = (WP 23 37 [q0, q1, (0, l2)] [(0, l2), (2, s0)] ds m Q) := P_nx k23_36 rfl
set_option maxRecDepth 20000 in
theorem k23_37 : mjCode 23 37 = some (.aload_n 1, 1, 0, 0) := by decide +kernel
theorem p23_37 {l1 s0 s1 : Int} {q0 q2 : MV} {ds : Ds} {m : Mm} {Q : Ds → Mm → List MV → Prop} : WP 23 37 [q0, (2, l1), q2] [(0, s0), (2, s1)] ds m Q = (WP 23 38 [q0, (2, l1), q2] [(2, l1), (0, s0), (2, s1)] ds m Q) := P_nx k23_37 rfl
set_option maxRecDepth 20000 in
theorem k23_38 : mjCode 23 38 = some (.getfield 18, 3, 3, 2) := by decide +kernel
theorem p23_38 {s0 s1 s2 : Int} {q0 q1 q2 : MV} {ds : Ds} {m : Mm} {Q : Ds → Mm → List MV → Prop} : WP 23 38 [q0, q1, q2] [(2, s0), (0, s1), (2, s2)] ds m Q = ((dk ds s0 = 3 ∧ WP 23 41 [q0, q1, q2] [(2, m s0 2), (0, s1), (2, s2)] ds m Q)) := P_gd k23_38 rfl
set_option maxRecDepth 20000 in
theorem k23_41 : mjCode 23 41 = some (.iload_n 2, 1, 0, 0) := by decide +kernel
theorem p23_41 {l2 s0 s1 s2 : Int} {q0 q1 : MV} {ds : Ds} {m : Mm} {Q : Ds → Mm → List MV → Prop} : WP 23 41 [q0, q1, (0, l2)] [(2, s0), (0, s1), (2, s2)] ds m Q = (WP 23 42 [q0, q1, (0, l2)] [(0, l2), (2, s0), (0, s1), (2, s2)] ds m Q) := P_nx k23_41 rfl
set_option maxRecDepth 20000 in
theorem k23_42 : mjCode 23 42 = some (.iaload, 1, 0, 0) := by decide +kernel
theorem p23_42 {s0 s1 s2 s3 : Int} {q0 q1 q2 : MV} {ds : Ds} {m : Mm} {Q : Ds → Mm → List MV → Prop} : WP 23 42 [q0, q1, q2] [(0, s0), (2, s1), (0, s2), (2, s3)] ds m Q = ((dk ds s1 = 10 ∧ 0 ≤ s0 ∧ s0 < dl ds s1 ∧ WP 23 43 [q0, q1, q2] [(0, m s1 s0), (0, s2), (2, s3)] ds m Q)) := P_g3 k23_42 rfl
set_option maxRecDepth 20000 in
theorem k23_43 : mjCode 23 43 = some (.iastore, 1, 0, 0) := by decide +kernel
theorem p23_43 {s0 s1 s2 : Int} {q0 q1 q2 : MV} {ds : Ds} {m : Mm} {Q : Ds → Mm → List MV → Prop} : WP 23 43 [q0, q1, q2] [(0, s0), (0, s1), (2, s2)] ds m Q = ((dk ds s2 = 10 ∧ 0 ≤ s1 ∧ s1 < dl ds s2 ∧ WP 23 44 [q0, q1, q2] [] ds (up m s2 s1 s0) Q)) := P_s3 k23_43 rfl
set_option maxRecDepth 20000 in
theorem k23_44 : mjCode 23 44 = some (.aload_n 0, 1, 0, 0) := by decide +kernel
theorem p23_44 {l0 : Int} {q1 q2 : MV} {ds : Ds} {m : Mm} {Q : Ds → Mm → List MV → Prop} : WP 23 44 [(2, l0), q1, q2] [] ds m Q = (WP 23 45 [(2, l0), q1, q2] [(2, l0)] ds m Q) := P_nx k23_44 rfl
set_option maxRecDepth 20000 in
theorem k23_45 : mjCode 23 45 = some (.getfield 21, 3, 3, 3) := by decide +kernel
theorem p23_45 {s0 : Int} {q0 q1 q2 : MV} {ds : Ds} {m : Mm} {Q : Ds → Mm → List MV → Prop} : WP 23 45 [q0, q1, q2] [(2, s0)] ds m Q = ((dk ds s0 = 3 ∧ WP 23 48 [q0, q1, q2] [(2, m s0 3)] ds m Q)) := P_gd k23_45 rfl
set_option maxRecDepth 20000 in
theorem k23_48 : mjCode 23 48 = some (.iload_n 2, 1, 0, 0) := by decide +kernel
theorem p23_48 {l2 s0 : Int} {q0 q1 : MV} {ds : Ds} {m : Mm} {Q : Ds → Mm → List MV → Prop} : WP 23 48 [q0, q1, (0, l2)] [(2, s0)] ds m Q = (WP 23 49 [q0, q1, (0, l2)] [(0, l2), (2, s0)] ds m Q) := P_nx k23_48 rfl
set_option maxRecDepth 20000 in
theorem k23_49 : mjCode 23 49 = some (.aload_n 1, 1, 0, 0) := by decide +kernel
theorem p23_49 {l1 s0 s1 : Int} {q0 q2 : MV} {ds : Ds} {m : Mm} {Q : Ds → Mm → List MV → Prop} : WP 23 49 [q0, (2, l1), q2] [(0, s0), (2, s1)] ds m Q = (WP 23 50 [q0, (2, l1), q2] [(2, l1), (0, s0), (2, s1)] ds m Q) := P_nx k23_49 rfl
set_option maxRecDepth 20000 in
theorem k23_50 : mjCode 23 50 = some (.getfield 21, 3, 3, 3) := by decide +kernel
theorem p23_50 {s0 s1 s2 : Int} {q0 q1 q2 : MV} {ds : Ds} {m : Mm} {Q : Ds → Mm → List MV → Prop} : WP 23 50 [q0, q1, q2] [(2, s0), (0, s1), (2, s2)] ds m Q = ((dk ds s0 = 3 ∧ WP 23 53 [q0, q1, q2] [(2, m s0 3), (0, s1), (2, s2)] ds m Q)) := P_gd k23_50 rfl
set_option maxRecDepth 20000 in
theorem k23_53 : mjCode 23 53 = some (.iload_n 2, 1, 0, 0) := by decide +kernel
theorem p23_53 {l2 s0 s1 s2 : Int} {q0 q1 : MV} {ds : Ds} {m : Mm} {Q : Ds → Mm → List MV → Prop} : WP 23 53 [q0, q1, (0, l2)] [(2, s0), (0, s1), (2, s2)] ds m Q = (WP 23 54 [q0, q1, (0, l2)] [(0, l2), (2, s0), (0, s1), (2, s2)] ds m Q) := P_nx k23_53 rfl
set_option maxRecDepth 20000 in
theorem k23_54 : mjCode 23 54 = some (.iaload, 1, 0, 0) := by decide +kernel
theorem p23_54 {s0 s1 s2 s3 : Int} {q0 q1 q2 : MV} {ds : Ds} {m : Mm} {Q : Ds → Mm → List MV → Prop} : WP 23 54 [q0, q1, q2] [(0, s0), (2, s1), (0, s2), (2, s3)] ds m Q = ((dk ds s1 = 10 ∧ 0 ≤ s0 ∧ s0 < dl ds s1 ∧ WP 23 55 [q0, q1, q2] [(0, m s1 s0), (0, s2), (2, s3)] ds m Q)) := P_g3 k23_54 rfl
set_option maxRecDepth 20000 in
theorem k23_55 : mjCode 23 55 = some (.iastore, 1, 0, 0) := by decide +kernel
theorem p23_55 {s0 s1 s2 : Int} {q0 q1 q2 : MV} {ds : Ds} {m : Mm} {Q : Ds → Mm → List MV → Prop} : WP 23 55 [q0, q1, q2] [(0, s0), (0, s1), (2, s2)] ds m Q = ((dk ds s2 = 10 ∧ 0 ≤ s1 ∧ s1 < dl ds s2 ∧ WP 23 56 [q0, q1, q2] [] ds (up m s2 s1 s0) Q)) := P_s3 k23_55 rfl
set_option maxRecDepth 20000 in
theorem k23_56 : mjCode 23 56 = some (.aload_n 0, 1, 0, 0) := by decide +kernel
theorem p23_56 {l0 : Int} {q1 q2 : MV} {ds : Ds} {m : Mm} {Q : Ds → Mm → List MV → Prop} : WP 23 56 [(2, l0), q1, q2] [] ds m Q = (WP 23 57 [(2, l0), q1, q2] [(2, l0)] ds m Q) := P_nx k23_56 rfl
set_option maxRecDepth 20000 in
theorem k23_57 : mjCode 23 57 = some (.getfield 24, 3, 3, 4) := by decide +kernel
theorem p23_57 {s0 : Int} {q0 q1 q2 : MV} {ds : Ds} {m : Mm} {Q : Ds → Mm → List MV → Prop} : WP 23 57 [q0, q1, q2] [(2, s0)] ds m Q = ((dk ds s0 = 3 ∧ WP 23 60 [q0, q1, q2] [(2, m s0 4)] ds m Q)) := P_gd k23_57 rfl
set_option maxRecDepth 20000 in
theorem k23_60 : mjCode 23 60 = some (.iload_n 2, 1, 0, 0) := by decide +kernel
theorem p23_60 {l2 s0 : Int} {q0 q1 : MV} {ds : Ds} {m : Mm} {Q : Ds → Mm → List MV → Prop} : WP 23 60 [q0, q1, (0, l2)] [(2, s0)] ds m Q = (WP 23 61 [q0, q1, (0, l2)] [(0, l2), (2, s0)] ds m Q) := P_nx k23_60 rfl
set_option maxRecDepth 20000 in
theorem k23_61 : mjCode 23 61 = some (.aload_n 1, 1, 0, 0) := by decide +kernel
theorem p23_61 {l1 s0 s1 : Int} {q0 q2 : MV} {ds : Ds} {m : Mm} {Q : Ds → Mm → List MV → Prop} : WP 23 61 [q0, (2, l1), q2] [(0, s0), (2, s1)] ds m Q = (WP 23 62 [q0, (2, l1), q2] [(2, l1), (0, s0), (2, s1)] ds m Q) := P_nx k23_61 rfl
set_option maxRecDepth 20000 in
theorem k23_62 : mjCode 23 62 = some (.getfield 24, 3, 3, 4) := by decide +kernel
theorem p23_62 {s0 s1 s2 : Int} {q0 q1 q2 : MV} {ds : Ds} {m : Mm} {Q : Ds → Mm → List MV → Prop} : WP 23 62 [q0, q1, q2] [(2, s0), (0, s1), (2, s2)] ds m Q = ((dk ds s0 = 3 ∧ WP 23 65 [q0, q1, q2] [(2, m s0 4), (0, s1), (2, s2)] ds m Q)) := P_gd k23_62 rfl
set_option maxRecDepth 20000 in
theorem k23_65 : mjCode 23 65 = some (.iload_n 2, 1, 0, 0) := by decide +kernel
theorem p23_65 {l2 s0 s1 s2 : Int} {q0 q1 : MV} {ds : Ds} {m : Mm} {Q : Ds → Mm → List MV → Prop} : WP 23 65 [q0, q1, (0, l2)] [(2, s0), (0, s1), (2, s2)] ds m Q = (WP 23 66 [q0, q1, (0, l2)] [(0, l2), (2, s0), (0, s1), (2, s2)] ds m Q) := P_nx k23_65 rfl
set_option maxRecDepth 20000 in
theorem k23_66 : mjCode 23 66 = some (.baload, 1, 0, 0) := by decide +kernel
theorem p23_66 {s0 s1 s2 s3 : Int} {q0 q1 q2 : MV} {ds : Ds} {m : Mm} {Q : Ds → Mm → List MV → Prop} : WP 23 66 [q0, q1, q2] [(0, s0), (2, s1), (0, s2), (2, s3)] ds m Q = ((dk ds s1 = 11 ∧ 0 ≤ s0 ∧ s0 < dl ds s1 ∧ WP 23 67 [q0, q1, q2] [(0, m s1 s0), (0, s2), (2, s3)] ds m Q)) := P_g3 k23_66 rfl
set_option maxRecDepth 20000 in
theorem k23_67 : mjCode 23 67 = some (.bastore, 1, 0, 0) := by decide +kernel
theorem p23_67 {s0 s1 s2 : Int} {q0 q1 q2 : MV} {ds : Ds} {m : Mm} {Q : Ds → Mm → List MV → Prop} : WP 23 67 [q0, q1, q2] [(0, s0), (0, s1), (2, s2)] ds m Q = (((s0 = 0 ∨ s0 = 1) ∧ dk ds s2 = 11 ∧ 0 ≤ s1 ∧ s1 < dl ds s2 ∧ WP 23 68 [q0, q1, q2] [] ds (up m s2 s1 s0) Q)) := P_s4 k23_67 rfl
set_option maxRecDepth 20000 in
theorem k23_68 : mjCode 23 68 = some (.iinc 2 1, 3, 0, 0) := by decide +kernel
theorem p23_68 {l2 : Int} {q0 q1 : MV} {ds : Ds} {m : Mm} {Q : Ds → Mm → List MV → Prop} : WP 23 68 [q0, q1, (0, l2)] [] ds m Q = (WP 23 71 [q0, q1, (0, w32 (l2 + 1))] [] ds m Q) := P_nx k23_68 rfl
set_option maxRecDepth 20000 in
theorem k23_71 : mjCode 23 71 = some (.goto (-69), 3, 2, 0) := by decide +kernel
theorem p23_71 {q0 q1 q2 : MV} {ds : Ds} {m : Mm} {Q : Ds → Mm → List MV → Prop} : WP 23 71 [q0, q1, q2] [] ds m Q = (WP 23 2 [q0, q1, q2] [] ds m Q) := P_nx k23_71 rfl
set_option maxRecDepth 20000 in
theorem k23_74 : mjCode 23 74 = some (.iconst 0, 1, 0, 0) := by decide +kernel
theorem p23_74 {q0 q1 q2 : MV} {ds : Ds} {m : Mm} {Q : Ds → Mm → List MV → Prop} : WP 23 74 [q0, q1, q2] [] ds m Q = (WP 23 75 [q0, q1, q2] [(0, 0)] ds m Q) := P_nx k23_74 rfl
set_option maxRecDepth 20000 in
theorem k23_75 : mjCode 23 75 = some (.istore_n 2, 1, 0, 0) := by decide +kernel
theorem p23_75 {l1 s0 : Int} {q0 q2 : MV} {ds : Ds} {m : Mm} {Q : Ds → Mm → List MV → Prop} : WP 23 75 [q0, (2, l1), q2] [(0, s0)] ds m Q = (WP 23 76 [q0, (2, l1), (0, s0)] [] ds m Q) := P_nx k23_75 rfl
set_option maxRecDepth 20000 in
theorem k23_76 : mjCode 23 76 = some (.iload_n 2, 1, 0, 0) := by decide +kernel
theorem p23_76 {l2 : Int} {q0 q1 : MV} {ds : Ds} {m : Mm} {Q : Ds → Mm → List MV → Prop} : WP 23 76 [q0, q1, (0, l2)] [] ds m Q = (WP 23 77 [q0, q1, (0, l2)] [(0, l2)] ds m Q) := P_nx k23_76 rfl
set_option maxRecDepth 20000 in
theorem k23_77 : mjCode 23 77 = some (.iconst 4, 1, 0, 0) := by decide +kernel
theorem p23_77 {s0 : Int} {q0 q1 q2 : MV} {ds : Ds} {m : Mm} {Q : Ds → Mm → List MV → Prop} : WP 23 77 [q0, q1, q2] [(0, s0)] ds m Q = (WP 23 78 [q0, q1, q2] [(0, 4), (0, s0)] ds m Q) := P_nx k23_77 rfl
set_option maxRecDepth 20000 in
theorem k23_78 : mjCode 23 78 = some (.if_icmp .ge 45, 3, 123, 0) := by decide +kernel
theorem p23_78 {s0 s1 : Int} {q0 q1 q2 : MV} {ds : Ds} {m : Mm} {Q : Ds → Mm → List MV → Prop} : WP 23 78 [q0, q1, q2] [(0, s0), (0, s1)] ds m Q = (if s1 < s0 then WP 23 81 [q0, q1, q2] [] ds m Q else WP 23 123 [q0, q1, q2] [] ds m Q) := P_if k23_78 rfl
set_option maxRecDepth 20000 in
theorem k23_81 : mjCode 23 81 = some (.aload_n 0, 1, 0, 0) := by decide +kernel
theorem p23_81 {l0 : Int} {q1 q2 : MV} {ds : Ds} {m : Mm} {Q : Ds → Mm → List MV → Prop} : WP 23 81 [(2, l0), q1, q2] [] ds m Q = (WP 23 82 [(2, l0), q1, q2] [(2, l0)] ds m Q) := P_nx k23_81 rfl
set_option maxRecDepth 20000 in
theorem k23_82 : mjCode 23 82 = some (.getfield 28, 3, 3, 5) := by decide +kernel
theorem p23_82 {s0 : Int} {q0 q1 q2 : MV} {ds : Ds} {m : Mm} {Q : Ds → Mm → List MV → Prop} : WP 23 82 [q0, q1, q2] [(2, s0)] ds m Q = ((dk ds s0 = 3 ∧ WP 23 85 [q0, q1, q2] [(2, m s0 5)] ds m Q)) := P_gd k23_82 rfl
set_option maxRecDepth 20000 in
theorem k23_85 : mjCode 23 85 = some (.iload_n 2, 1, 0, 0) := by decide +kernel
theorem p23_85 {l2 s0 : Int} {q0 q1 : MV} {ds : Ds} {m : Mm} {Q : Ds → Mm → List MV → Prop} : WP 23 85 [q0, q1, (0, l2)] [(2, s0)] ds m Q = (WP 23 86 [q0, q1, (0, l2)] [(0, l2), (2, s0)] ds m Q) := P_nx k23_85 rfl
set_option maxRecDepth 20000 in
theorem k23_86 : mjCode 23 86 = some (.aload_n 1, 1, 0, 0) := by decide +kernel
theorem p23_86 {l1 s0 s1 : Int} {q0 q2 : MV} {ds : Ds} {m : Mm} {Q : Ds → Mm → List MV → Prop} : WP 23 86 [q0, (2, l1), q2] [(0, s0), (2, s1)] ds m Q = (WP 23 87 [q0, (2, l1), q2] [(2, l1), (0, s0), (2, s1)] ds m Q) := P_nx k23_86 rfl
set_option maxRecDepth 20000 in
theorem k23_87 : mjCode 23 87 = some (.getfield 28, 3, 3, 5) := by decide +kernel
theorem p23_87 {s0 s1 s2 : Int} {q0 q1 q2 : MV} {ds : Ds} {m : Mm} {Q : Ds → Mm → List MV → Prop} : WP 23 87 [q0, q1, q2] [(2, s0), (0, s1), (2, s2)] ds m Q = ((dk ds s0 = 3 ∧ WP 23 90 [q0, q1, q2] [(2, m s0 5), (0, s1), (2, s2)] ds m Q)) := P_gd k23_87 rfl
set_option maxRecDepth 20000 in
theorem k23_90 : mjCode 23 90 = some (.iload_n 2, 1, 0, 0) := by decide +kernel
theorem p23_90 {l2 s0 s1 s2 : Int} {q0 q1 : MV} {ds : Ds} {m : Mm} {Q : Ds → Mm → List MV → Prop} : WP 23 90 [q0, q1, (0, l2)] [(2, s0), (0, s1), (2, s2)] ds m Q = (WP 23 91 [q0, q1, (0, l2)] [(0, l2), (2, s0), (0, s1), (2, s2)] ds m Q) := P_nx k23_90 rfl
set_option maxRecDepth 20000 in
theorem k23_91 : mjCode 23 91 = some (.iaload, 1, 0, 0) := by decide +kernel
theorem p23_91 {s0 s1 s2 s3 : Int} {q0 q1 q2 : MV} {ds : Ds} {m : Mm} {Q : Ds → Mm → List MV → Prop} : WP 23 91 [q0, q1, q2] [(0, s0), (2, s1), (0, s2), (2, s3)] ds m Q = ((dk ds s1 = 10 ∧ 0 ≤ s0 ∧ s0 < dl ds s1 ∧ WP 23 92 [q0, q1, q2] [(0, m s1 s0), (0, s2), (2, s3)] ds m Q)) := P_g3 k23_91 rfl
set_option maxRecDepth 20000 in
theorem k23_92 : mjCode 23 92 = some (.iastore, 1, 0, 0) := by decide +kernel
theorem p23_92 {s0 s1 s2 : Int} {q0 q1 q2 : MV} {ds : Ds} {m : Mm} {Q : Ds → Mm → List MV → Prop} : WP 23 92 [q0, q1, q2] [(0, s0), (0, s1), (2, s2)] ds m Q = ((dk ds s2 = 10 ∧ 0 ≤ s1 ∧ s1 < dl ds s2 ∧ WP 23 93 [q0, q1, q2] [] ds (up m s2 s1 s0) Q)) := P_s3 k23_92 rfl
set_option maxRecDepth 20000 in
theorem k23_93 : mjCode 23 93 = some (.aload_n 0, 1, 0, 0) := by decide +kernel
theorem p23_93 {l0 : Int} {q1 q2 : MV} {ds : Ds} {m : Mm} {Q : Ds → Mm → List MV → Prop} : WP 23 93 [(2, l0), q1, q2] [] ds m Q = (WP 23 94 [(2, l0), q1, q2] [(2, l0)] ds m Q) := P_nx k23_93 rfl
set_option maxRecDepth 20000 in
theorem k23_94 : mjCode 23 94 = some (.getfield 31, 3, 3, 6) := by decide +kernel
theorem p23_94 {s0 : Int} {q0 q1 q2 : MV} {ds : Ds} {m : Mm} {Q : Ds → Mm → List MV → Prop} : WP 23 94 [q0, q1, q2] [(2, s0)] ds m Q = ((dk ds s0 = 3 ∧ WP 23 97 [q0, q1, q2] [(2, m s0 6)] ds m Q)) := P_gd k23_94 rfl
set_option maxRecDepth 20000 in
theorem k23_97 : mjCode 23 97 = some (.iload_n 2, 1, 0, 0) := by decide +kernel
theorem p23_97 {l2 s0 : Int} {q0 q1 : MV} {ds : Ds} {m : Mm} {Q : Ds → Mm → List MV → Prop} : WP 23 97 [q0, q1, (0, l2)] [(2, s0)] ds m Q = (WP 23 98 [q0, q1, (0, l2)] [(0, l2), (2, s0)] ds m Q) := P_nx k23_97 rfl
set_option maxRecDepth 20000 in
theorem k23_98 : mjCode 23 98 = some (.aload_n 1, 1, 0, 0) := by decide +kernel
theorem p23_98 {l1 s0 s1 : Int} {q0 q2 : MV} {ds : Ds} {m : Mm} {Q : Ds → Mm → List MV → Prop} : WP 23 98 [q0, (2, l1), q2] [(0, s0), (2, s1)] ds m Q = (WP 23 99 [q0, (2, l1), q2] [(2, l1), (0, s0), (2, s1)] ds m Q) := P_nx k23_98 rfl
set_option maxRecDepth 20000 in
theorem k23_99 : mjCode 23 99 = some (.getfield 31, 3, 3, 6) := by decide +kernel
theorem p23_99 {s0 s1 s2 : Int} {q0 q1 q2 : MV} {ds : Ds} {m : Mm} {Q : Ds → Mm → List MV → Prop} : WP 23 99 [q0, q1, q2] [(2, s0), (0, s1), (2, s2)] ds m Q = ((dk ds s0 = 3 ∧ WP 23 102 [q0, q1, q2] [(2, m s0 6), (0, s1), (2, s2)] ds m Q)) := P_gd k23_99 rfl
set_option maxRecDepth 20000 in
theorem k23_102 : mjCode 23 102 = some (.iload_n 2, 1, 0, 0) := by decide +kernel
theorem p23_102 {l2 s0 s1 s2 : Int} {q0 q1 : MV} {ds : Ds} {m : Mm} {Q : Ds → Mm → List MV → Prop} : WP 23 102 [q0, q1, (0, l2)] [(2, s0), (0, s1), (2, s2)] ds m Q = (WP 23 103 [q0, q1, (0, l2)] [(0, l2), (2, s0), (0, s1), (2, s2)] ds m Q) := P_nx k23_102 rfl
set_option maxRecDepth 20000 in
theorem k23_103 : mjCode 23 103 = some (.iaload, 1, 0, 0) := by decide +kernel
theorem p23_103 {s0 s1 s2 s3 : Int} {q0 q1 q2 : MV} {ds : Ds} {m : Mm} {Q : Ds → Mm → List MV → Prop} : WP 23 103 [q0, q1, q2] [(0, s0), (2, s1), (0, s2), (2, s3)] ds m Q = ((dk ds s1 = 10 ∧ 0 ≤ s0 ∧ s0 < dl ds s1 ∧ WP 23 104 [q0, q1, q2] [(0, m s1 s0), (0, s2), (2, s3)] ds m Q)) := P_g3 k23_103 rfl
set_option maxRecDepth 20000 in
theorem k23_104 : mjCode 23 104 = some (.iastore, 1, 0, 0) := by decide +kernel
theorem p23_104 {s0 s1 s2 : Int} {q0 q1 q2 : MV} {ds : Ds} {m : Mm} {Q : Ds → Mm → List MV → Prop} : WP 23 104 [q0, q1, q2] [(0, s0), (0, s1), (2, s2)] ds m Q = ((dk ds s2 = 10 ∧ 0 ≤ s1 ∧ s1 < dl ds s2 ∧ WP 23 105 [q0, q1, q2] [] ds (up m s2 s1 s0) Q)) := P_s3 k23_104 rfl
set_option maxRecDepth 20000 in
theorem k23_105 : mjCode 23 105 = some (.aload_n 0, 1, 0, 0) := by decide +kernel
theorem p23_105 {l0 : Int} {q1 q2 : MV} {ds : Ds} {m : Mm} {Q : Ds → Mm → List MV → Prop} : WP 23 105 [(2, l0), q1, q2] [] ds m Q = (WP 23 106 [(2, l0), q1, q2] [(2, l0)] ds m Q) := P_nx k23_105 rfl
set_option maxRecDepth 20000 in
theorem k23_106 : mjCode 23 106 = some (.getfield 34, 3, 3, 7) := by decide +kernel
theorem p23_106 {s0 : Int} {q0 q1 q2 : MV} {ds : Ds} {m : Mm} {Q : Ds → Mm → List MV → Prop} : WP 23 106 [q0, q1, q2] [(2, s0)] ds m Q = ((dk ds s0 = 3 ∧ WP 23 109 [q0, q1, q2] [(2, m s0 7)] ds m Q)) := P_gd k23_106 rfl
set_option maxRecDepth 20000 in
theorem k23_109 : mjCode 23 109 = some (.iload_n 2, 1, 0, 0) := by decide +kernel
theorem p23_109 {l2 s0 : Int} {q0 q1 : MV} {ds : Ds} {m : Mm} {Q : Ds → Mm → List MV → Prop} : WP 23 109 [q0, q1, (0, l2)] [(2, s0)] ds m Q = (WP 23 110 [q0, q1, (0, l2)] [(0, l2), (2, s0)] ds m Q) := P_nx k23_109 rfl
set_option maxRecDepth 20000 in
theorem k23_110 : mjCode 23 110 = some (.aload_n 1, 1, 0, 0) := by decide +kernel
theorem p23_110 {l1 s0 s1 : Int} {q0 q2 : MV} {ds : Ds} {m : Mm} {Q : Ds → Mm → List MV → Prop} : WP 23 110 [q0, (2, l1), q2] [(0, s0), (2, s1)] ds m Q = (WP 23 111 [q0, (2, l1), q2] [(2, l1), (0, s0), (2, s1)] ds m Q) := P_nx k23_110 rfl
set_option maxRecDepth 20000 in
theorem k23_111 : mjCode 23 111 = some (.getfield 34, 3, 3, 7) := by decide +kernel
theorem p23_111 {s0 s1 s2 : Int} {q0 q1 q2 : MV} {ds : Ds} {m : Mm} {Q : Ds → Mm → List MV → Prop} : WP 23 111 [q0, q1, q2] [(2, s0), (0, s1), (2, s2)] ds m Q = ((dk ds s0 = 3 ∧ WP 23 114 [q0, q1, q2] [(2, m s0 7), (0, s1), (2, s2)] ds m Q)) := P_gd k23_111 rfl
set_option maxRecDepth 20000 in
theorem k23_114 : mjCode 23 114 = some (.iload_n 2, 1, 0, 0) := by decide +kernel
theorem p23_114 {l2 s0 s1 s2 : Int} {q0 q1 : MV} {ds : Ds} {m : Mm} {Q : Ds → Mm → List MV → Prop} : WP 23 114 [q0, q1, (0, l2)] [(2, s0), (0, s1), (2, s2)] ds m Q = (WP 23 115 [q0, q1, (0, l2)] [(0, l2), (2, s0), (0, s1), (2, s2)] ds m Q) := P_nx k23_114 rfl
set_option maxRecDepth 20000 in
theorem k23_115 : mjCode 23 115 = some (.iaload, 1, 0, 0) := by decide +kernel
theorem p23_115 {s0 s1 s2 s3 : Int} {q0 q1 q2 : MV} {ds : Ds} {m : Mm} {Q : Ds → Mm → List MV → Prop} : WP 23 115 [q0, q1, q2] [(0, s0), (2, s1), (0, s2), (2, s3)] ds m Q = ((dk ds s1 = 10 ∧ 0 ≤ s0 ∧ s0 < dl ds s1 ∧ WP 23 116 [q0, q1, q2] [(0, m s1 s0), (0, s2), (2, s3)] ds m Q)) := P_g3 k23_115 rfl
set_option maxRecDepth 20000 in
theorem k23_116 : mjCode 23 116 = some (.iastore, 1, 0, 0) := by decide +kernel
theorem p23_116 {s0 s1 s2 : Int} {q0 q1 q2 : MV} {ds : Ds} {m : Mm} {Q : Ds → Mm → List MV → Prop} : WP 23 116 [q0, q1, q2] [(0, s0), (0, s1), (2, s2)] ds m Q = ((dk ds s2 = 10 ∧ 0 ≤ s1 ∧ s1 < dl ds s2 ∧ WP 23 117 [q0, q1, q2] [] ds (up m s2 s1 s0) Q)) := P_s3 k23_116 rfl
set_option maxRecDepth 20000 in
theorem k23_117 : mjCode 23 117 = some (.iinc 2 1, 3, 0, 0) := by decide +kernel
theorem p23_117 {l2 : Int} {q0 q1 : MV} {ds : Ds} {m : Mm} {Q : Ds → Mm → List MV → Prop} : WP 23 117 [q0, q1, (0, l2)] [] ds m Q = (WP 23 120 [q0, q1, (0, w32 (l2 + 1))] [] ds m Q) := P_nx k23_117 rfl
set_option maxRecDepth 20000 in
theorem k23_120 : mjCode 23 120 = some (.goto (-44), 3, 76, 0) := by decide +kernel
theorem p23_120 {q0 q1 q2 : MV} {ds : Ds} {m : Mm} {Q : Ds → Mm → List MV → Prop} : WP 23 120 [q0, q1, q2] [] ds m Q = (WP 23 76 [q0, q1, q2] [] ds m Q) := P_nx k23_120 rfl
set_option maxRecDepth 20000 in
theorem k23_123 : mjCode 23 123 = some (.aload_n 0, 1, 0, 0) := by decide +kernel
theorem p23_123 {l0 : Int} {q1 q2 : MV} {ds : Ds} {m : Mm} {Q : Ds → Mm → List MV → Prop} : WP 23 123 [(2, l0), q1, q2] [] ds m Q = (WP 23 124 [(2, l0), q1, q2] [(2, l0)] ds m Q) := P_nx k23_123 rfl
set_option maxRecDepth 20000 in
theorem k23_124 : mjCode 23 124 = some (.aload_n 1, 1, 0, 0) := by decide +kernel
theorem p23_124 {l1 s0 : Int} {q0 q2 : MV} {ds : Ds} {m : Mm} {Q : Ds → Mm → List MV → Prop} : WP 23 124 [q0, (2, l1), q2] [(2, s0)] ds m Q = (WP 23 125 [q0, (2, l1), q2] [(2, l1), (2, s0)] ds m Q) := P_nx k23_124 rfl
set_option maxRecDepth 20000 in
theorem k23_125 : mjCode 23 125 = some (.getfield 37, 3, 3, 8) := by decide +kernel
theorem p23_125 {s0 s1 : Int} {q0 q1 q2 : MV} {ds : Ds} {m : Mm} {Q : Ds → Mm → List MV → Prop} : WP 23 125 [q0, q1, q2] [(2, s0), (2, s1)] ds m Q = ((dk ds s0 = 3 ∧ WP 23 128 [q0, q1, q2] [(0, m s0 8), (2, s1)] ds m Q)) := P_gd k23_125 rfl
set_option maxRecDepth 20000 in
theorem k23_128 : mjCode 23 128 = some (.putfield 37, 3, 3, 8) := by decide +kernel
theorem p23_128 {s0 s1 : Int} {q0 q1 q2 : MV} {ds : Ds} {m : Mm} {Q : Ds → Mm → List MV → Prop} : WP 23 128 [q0, q1, q2] [(0, s0), (2, s1)] ds m Q = ((dk ds s1 = 3 ∧ WP 23 131 [q0, q1, q2] [] ds (up m s1 8 s0) Q)) := P_pf k23_128 rfl
set_option maxRecDepth 20000 in
theorem k23_131 : mjCode 23 131 = some (.return_, 1, 0, 0) := by decide +kernel
theorem p23_131 {q0 q1 q2 : MV} {ds : Ds} {m : Mm} {Q : Ds → Mm → List MV → Prop} : WP 23 131 [q0, q1, q2] [] ds m Q = (Q ds m []) := P_rv k23_131 rk23
set_option maxRecDepth 20000 in
theorem k24_0 : mjCode 24 0 = some (.iload_n 1, 1, 0, 0) := by decide +kernel
theorem p24_0 {l1 : Int} {q0 : MV} {ds : Ds} {m : Mm} {Q : Ds → Mm → List MV → Prop} : WP 24 0 [q0, (0, l1)] [] ds m Q = (WP 24 1 [q0, (0, l1)] [(0, l1)] ds m Q) := P_nx k24_0 rfl
set_option maxRecDepth 20000 in
theorem k24_1 : mjCode 24 1 = some (.invokestatic 41, 3, 108, 1) := by decide +kernel
theorem p24_1 {s0 : Int} {q0 q1 : MV} {ds : Ds} {m : Mm} {Q : Ds → Mm → List MV → Prop} : WP 24 1 [q0, q1] [(0, s0)] ds m Q = (WP 107 0 [(0, s0)] [] ds m (fun d2 m2 r2 => WP 24 4 [q0, q1] (r2 ++ []) d2 m2 Q)) := P_cs k24_1 mx107 rfl rfl rfl rfl rfl rfl rfl
set_option maxRecDepth 20000 in
theorem k24_4 : mjCode 24 4 = some (.ifCond .eq 12, 3, 16, 0) := by decide +kernel
theorem p24_4 {s0 : Int} {q0 q1 : MV} {ds : Ds} {m : Mm} {Q : Ds → Mm → List MV → Prop} : WP 24 4 [q0, q1] [(0, s0)] ds m Q = (if s0 = 0 then WP 24 16 [q0, q1] [] ds m Q else WP 24 7 [q0, q1] [] ds m Q) := P_if k24_4 rfl
set_option maxRecDepth 20000 in
theorem k24_7 : mjCode 24 7 = some (.aload_n 0, 1, 0, 0) := by decide +kernel
theorem p24_7 {l0 : Int} {q1 : MV} {ds : Ds} {m : Mm} {Q : Ds → Mm → List MV → Prop} : WP 24 7 [(2, l0), q1] [] ds m Q = (WP 24 8 [(2, l0), q1] [(2, l0)] ds m Q) := P_nx k24_7 rfl
set_option maxRecDepth 20000 in
theorem k24_8 : mjCode 24 8 = some (.getfield 9, 3, 3, 0) := by decide +kernel
theorem p24_8 {s0 : Int} {q0 q1 : MV} {ds : Ds} {m : Mm} {Q : Ds → Mm → List MV → Prop} : WP 24 8 [q0, q1] [(2, s0)] ds m Q = ((dk ds s0 = 3 ∧ WP 24 11 [q0, q1] [(2, m s0 0)] ds m Q)) := P_gd k24_8 rfl
set_option maxRecDepth 20000 in
theorem k24_11 : mjCode 24 11 = some (.iload_n 1, 1, 0, 0) := by decide +kernel
theorem p24_11 {l1 s0 : Int} {q0 : MV} {ds : Ds} {m : Mm} {Q : Ds → Mm → List MV → Prop} : WP 24 11 [q0, (0, l1)] [(2, s0)] ds m Q = (WP 24 12 [q0, (0, l1)] [(0, l1), (2, s0)] ds m Q) := P_nx k24_11 rfl
set_option maxRecDepth 20000 in
theorem k24_12 : mjCode 24 12 = some (.iaload, 1, 0, 0) := by decide +kernel
theorem p24_12 {s0 s1 : Int} {q0 q1 : MV} {ds : Ds} {m : Mm} {Q : Ds → Mm → List MV → Prop} : WP 24 12 [q0, q1] [(0, s0), (2, s1)] ds m Q = ((dk ds s1 = 10 ∧ 0 ≤ s0 ∧ s0 < dl ds s1 ∧ WP 24 13 [q0, q1] [(0, m s1 s0)] ds m Q)) := P_g3 k24_12 rfl
set_option maxRecDepth 20000 in
theorem k24_13 : mjCode 24 13 = some (.goto 4, 3, 17, 0) := by decide +kernel
theorem p24_13 {s0 : Int} {q0 q1 : MV} {ds : Ds} {m : Mm} {Q : Ds → Mm → List MV → Prop} : WP 24 13 [q0, q1] [(0, s0)] ds m Q = (WP 24 17 [q0, q1] [(0, s0)] ds m Q) := P_nx k24_13 rfl
set_option maxRecDepth 20000 in
theorem k24_16 : mjCode 24 16 = some (.iconst 0, 1, 0, 0) := by decide +kernel
theorem p24_16 {q0 q1 : MV} {ds : Ds} {m : Mm} {Q : Ds → Mm → List MV → Prop} : WP 24 16 [q0, q1] [] ds m Q = (WP 24 17 [q0, q1] [(0, 0)] ds m Q) := P_nx k24_16 rfl
set_option maxRecDepth 20000 in
theorem k24_17 : mjCode 24 17 = some (.ireturn, 1, 0, 0) := by decide +kernel
theorem p24_17 {s0 : Int} {q0 q1 : MV} {ds : Ds} {m : Mm} {Q : Ds → Mm → List MV → Prop} : WP 24 17 [q0, q1] [(0, s0)] ds m Q = (Q ds m [(0, s0)]) := P_ri k24_17 rk24
set_option maxRecDepth 20000 in
theorem k25_0 : mjCode 25 0 = some (.iload_n 1, 1, 0, 0) := by decide +kernel
theorem p25_0 {l1 : Int} {q0 : MV} {ds : Ds} {m : Mm} {Q : Ds → Mm → List MV → Prop} : WP 25 0 [q0, (0, l1)] [] ds m Q = (WP 25 1 [q0, (0, l1)] [(0, l1)] ds m Q) := P_nx k25_0 rfl
set_option maxRecDepth 20000 in
theorem k25_1 : mjCode 25 1 = some (.invokestatic 41, 3, 108, 1) := by decide +kernel
theorem p25_1 {s0 : Int} {q0 q1 : MV} {ds : Ds} {m : Mm} {Q : Ds → Mm → List MV → Prop} : WP 25 1 [q0, q1] [(0, s0)] ds m Q = (WP 107 0 [(0, s0)] [] ds m (fun d2 m2 r2 => WP 25 4 [q0, q1] (r2 ++ []) d2 m2 Q)) := P_cs k25_1 mx107 rfl rfl rfl rfl rfl rfl rfl
set_option maxRecDepth 20000 in
theorem k25_4 : mjCode 25 4 = some (.ifCond .eq 12, 3, 16, 0) := by decide +kernel
theorem p25_4 {s0 : Int} {q0 q1 : MV} {ds : Ds} {m : Mm} {Q : Ds → Mm → List MV → Prop} : WP 25 4 [q0, q1] [(0, s0)] ds m Q = (if s0 = 0 then WP 25 16 [q0, q1] [] ds m Q else WP 25 7 [q0, q1] [] ds m Q) := P_if k25_4 rfl
set_option maxRecDepth 20000 in
theorem k25_7 : mjCode 25 7 = some (.aload_n 0, 1, 0, 0) := by decide +kernel
theorem p25_7 {l0 : Int} {q1 : MV} {ds : Ds} {m : Mm} {Q : Ds → Mm → List MV → Prop} : WP 25 7 [(2, l0), q1] [] ds m Q = (WP 25 8 [(2, l0), q1] [(2, l0)] ds m Q) := P_nx k25_7 rfl
set_option maxRecDepth 20000 in
theorem k25_8 : mjCode 25 8 = some (.getfield 15, 3, 3, 1) := by decide +kernel
theorem p25_8 {s0 : Int} {q0 q1 : MV} {ds : Ds} {m : Mm} {Q : Ds → Mm → List MV → Prop} : WP 25 8 [q0, q1] [(2, s0)] ds m Q = ((dk ds s0 = 3 ∧ WP 25 11 [q0, q1] [(2, m s0 1)] ds m Q)) := P_gd k25_8 rfl
set_option maxRecDepth 20000 in
theorem k25_11 : mjCode 25 11 = some (.iload_n 1, 1, 0, 0) := by decide +kernel
theorem p25_11 {l1 s0 : Int} {q0 : MV} {ds : Ds} {m : Mm} {Q : Ds → Mm → List MV → Prop} : WP 25 11 [q0, (0, l1)] [(2, s0)] ds m Q = (WP 25 12 [q0, (0, l1)] [(0, l1), (2, s0)] ds m Q) := P_nx k25_11 rfl
set_option maxRecDepth 20000 in
theorem k25_12 : mjCode 25 12 = some (.iaload, 1, 0, 0) := by decide +kernel
theorem p25_12 {s0 s1 : Int} {q0 q1 : MV} {ds : Ds} {m : Mm} {Q : Ds → Mm → List MV → Prop} : WP 25 12 [q0, q1] [(0, s0), (2, s1)] ds m Q = ((dk ds s1 = 10 ∧ 0 ≤ s0 ∧ s0 < dl ds s1 ∧ WP 25 13 [q0, q1] [(0, m s1 s0)] ds m Q)) := P_g3 k25_12 rfl
set_option maxRecDepth 20000 in
theorem k25_13 : mjCode 25 13 = some (.goto 4, 3, 17, 0) := by decide +kernel
theorem p25_13 {s0 : Int} {q0 q1 : MV} {ds : Ds} {m : Mm} {Q : Ds → Mm → List MV → Prop} : WP 25 13 [q0, q1] [(0, s0)] ds m Q = (WP 25 17 [q0, q1] [(0, s0)] ds m Q) := P_nx k25_13 rfl
set_option maxRecDepth 20000 in
theorem k25_16 : mjCode 25 16 = some (.iconst 0, 1, 0, 0) := by decide +kernel
theorem p25_16 {q0 q1 : MV} {ds : Ds} {m : Mm} {Q : Ds → Mm → List MV → Prop} : WP 25 16 [q0, q1] [] ds m Q = (WP 25 17 [q0, q1] [(0, 0)] ds m Q) := P_nx k25_16 rfl
set_option maxRecDepth 20000 in
theorem k25_17 : mjCode 25 17 = some (.ireturn, 1, 0, 0) := by decide +kernel
theorem p25_17 {s0 : Int} {q0 q1 : MV} {ds : Ds} {m : Mm} {Q : Ds → Mm → List MV → Prop} : WP 25 17 [q0, q1] [(0, s0)] ds m Q = (Q ds m [(0, s0)]) := P_ri k25_17 rk25
set_option maxRecDepth 20000 in
theorem k26_0 : mjCode 26 0 = some (.iload_n 1, 1, 0, 0) := by decide +kernel
theorem p26_0 {l1 : Int} {q0 : MV} {ds : Ds} {m : Mm} {Q : Ds → Mm → List MV → Prop} : WP 26 0 [q0, (0, l1)] [] ds m Q = (WP 26 1 [q0, (0, l1)] [(0, l1)] ds m Q) := P_nx k26_0 rfl
set_option maxRecDepth 20000 in
theorem k26_1 : mjCode 26 1 = some (.invokestatic 41, 3, 108, 1) := by decide +kernel
theorem p26_1 {s0 : Int} {q0 q1 : MV} {ds : Ds} {m : Mm} {Q : Ds → Mm → List MV → Prop} : WP 26 1 [q0, q1] [(0, s0)] ds m Q = (WP 107 0 [(0, s0)] [] ds m (fun d2 m2 r2 => WP 26 4 [q0, q1] (r2 ++ []) d2 m2 Q)) := P_cs k26_1 mx107 rfl rfl rfl rfl rfl rfl rfl
set_option maxRecDepth 20000 in
theorem k26_4 : mjCode 26 4 = some (.ifCond .eq 12, 3, 16, 0) := by decide +kernel
theorem p26_4 {s0 : Int} {q0 q1 : MV} {ds : Ds} {m : Mm} {Q : Ds → Mm → List MV → Prop} : WP 26 4 [q0, q1] [(0, s0)] ds m Q = (if s0 = 0 then WP 26 16 [q0, q1] [] ds m Q else WP 26 7 [q0, q1] [] ds m Q) := P_if k26_4 rfl
set_option maxRecDepth 20000 in
theorem k26_7 : mjCode 26 7 = some (.aload_n 0, 1, 0, 0) := by decide +kernel
theorem p26_7 {l0 : Int} {q1 : MV} {ds : Ds} {m : Mm} {Q : Ds → Mm → List MV → Prop} : WP 26 7 [(2, l0), q1] [] ds m Q = (WP 26 8 [(2, l0), q1] [(2, l0)] ds m Q) := P_nx k26_7 rfl
set_option maxRecDepth 20000 in
theorem k26_8 : mjCode 26 8 = some (.getfield 18, 3, 3, 2) := by decide +kernel
theorem p26_8 {s0 : Int} {q0 q1 : MV} {ds : Ds} {m : Mm} {Q : Ds → Mm → List MV → Prop} : WP 26 8 [q0, q1] [(2, s0)] ds m Q = ((dk ds s0 = 3 ∧ WP 26 11 [q0, q1] [(2, m s0 2)] ds m Q)) := P_gd k26_8 rfl
set_option maxRecDepth 20000 in
theorem k26_11 : mjCode 26 11 = some (.iload_n 1, 1, 0, 0) := by decide +kernel
theorem p26_11 {l1 s0 : Int} {q0 : MV} {ds : Ds} {m : Mm} {Q : Ds → Mm → List MV → Prop} : WP 26 11 [q0, (0, l1)] [(2, s0)] ds m Q = (WP 26 12 [q0, (0, l1)] [(0, l1), (2, s0)] ds m Q) := P_nx k26_11 rfl
set_option maxRecDepth 20000 in
theorem k26_12 : mjCode 26 12 = some (.iaload, 1, 0, 0) := by decide +kernel
theorem p26_12 {s0 s1 : Int} {q0 q1 : MV} {ds : Ds} {m : Mm} {Q : Ds → Mm → List MV → Prop} : WP 26 12 [q0, q1] [(0, s0), (2, s1)] ds m Q = ((dk ds s1 = 10 ∧ 0 ≤ s0 ∧ s0 < dl ds s1 ∧ WP 26 13 [q0, q1] [(0, m s1 s0)] ds m Q)) := P_g3 k26_12 rfl
set_option maxRecDepth 20000 in
theorem k26_13 : mjCode 26 13 = some (.goto 4, 3, 17, 0) := by decide +kernel
theorem p26_13 {s0 : Int} {q0 q1 : MV} {ds : Ds} {m : Mm} {Q : Ds → Mm → List MV → Prop} : WP 26 13 [q0, q1] [(0, s0)] ds m Q = (WP 26 17 [q0, q1] [(0, s0)] ds m Q) := P_nx k26_13 rfl
set_option maxRecDepth 20000 in
theorem k26_16 : mjCode 26 16 = some (.iconst 0, 1, 0, 0) := by decide +kernel
theorem p26_16 {q0 q1 : MV} {ds : Ds} {m : Mm} {Q : Ds → Mm → List MV → Prop} : WP 26 16 [q0, q1] [] ds m Q = (WP 26 17 [q0, q1] [(0, 0)] ds m Q) := P_nx k26_16 rfl
set_option maxRecDepth 20000 in
theorem k26_17 : mjCode 26 17 = some (.ireturn, 1, 0, 0) := by decide +kernel
theorem p26_17 {s0 : Int} {q0 q1 : MV} {ds : Ds} {m : Mm} {Q : Ds → Mm → List MV → Prop} : WP 26 17 [q0, q1] [(0, s0)] ds m Q = (Q ds m [(0, s0)]) := P_ri k26_17 rk26
set_option maxRecDepth 20000 in
theorem k27_0 : mjCode 27 0 = some (.iload_n 1, 1, 0, 0) := by decide +kernel
theorem p27_0 {l1 : Int} {q0 : MV} {ds : Ds} {m : Mm} {Q : Ds → Mm → List MV → Prop} : WP 27 0 [q0, (0, l1)] [] ds m Q = (WP 27 1 [q0, (0, l1)] [(0, l1)] ds m Q) := P_nx k27_0 rfl
set_option maxRecDepth 20000 in
theorem k27_1 : mjCode 27 1 = some (.invokestatic 41, 3, 108, 1) := by decide +kernel
theorem p27_1 {s0 : Int} {q0 q1 : MV} {ds : Ds} {m : Mm} {Q : Ds → Mm → List MV → Prop} : WP 27 1 [q0, q1] [(0, s0)] ds m Q = (WP 107 0 [(0, s0)] [] ds m (fun d2 m2 r2 => WP 27 4 [q0, q1] (r2 ++ []) d2 m2 Q)) := P_cs k27_1 mx107 rfl rfl rfl rfl rfl rfl rfl
set_option maxRecDepth 20000 in
theorem k27_4 : mjCode 27 4 = some (.ifCond .eq 22, 3, 26, 0) := by decide +kernel
theorem p27_4 {s0 : Int} {q0 q1 : MV} {ds : Ds} {m : Mm} {Q : Ds → Mm → List MV → Prop} : WP 27 4 [q0, q1] [(0, s0)] ds m Q = (if s0 = 0 then WP 27 26 [q0, q1] [] ds m Q else WP 27 7 [q0, q1] [] ds m Q) := P_if k27_4 rfl
set_option maxRecDepth 20000 in
theorem k27_7 : mjCode 27 7 = some (.aload_n 0, 1, 0, 0) := by decide +kernel
theorem p27_7 {l0 : Int} {q1 : MV} {ds : Ds} {m : Mm} {Q : Ds → Mm → List MV → Prop} : WP 27 7 [(2, l0), q1] [] ds m Q = (WP 27 8 [(2, l0), q1] [(2, l0)] ds m Q) := P_nx k27_7 rfl
set_option maxRecDepth 20000 in
theorem k27_8 : mjCode 27 8 = some (.getfield 9, 3, 3, 0) := by decide +kernel
theorem p27_8 {s0 : Int} {q0 q1 : MV} {ds : Ds} {m : Mm} {Q : Ds → Mm → List MV → Prop} : WP 27 8 [q0, q1] [(2, s0)] ds m Q = ((dk ds s0 = 3 ∧ WP 27 11 [q0, q1] [(2, m s0 0)] ds m Q)) := P_gd k27_8 rfl
set_option maxRecDepth 20000 in
theorem k27_11 : mjCode 27 11 = some (.iload_n 1, 1, 0, 0) := by decide +kernel
theorem p27_11 {l1 s0 : Int} {q0 : MV} {ds : Ds} {m : Mm} {Q : Ds → Mm → List MV → Prop} : WP 27 11 [q0, (0, l1)] [(2, s0)] ds m Q = (WP 27 12 [q0, (0, l1)] [(0, l1), (2, s0)] ds m Q) := P_nx k27_11 rfl
set_option maxRecDepth 20000 in
theorem k27_12 : mjCode 27 12 = some (.iaload, 1, 0, 0) := by decide +kernel
theorem p27_12 {s0 s1 : Int} {q0 q1 : MV} {ds : Ds} {m : Mm} {Q : Ds → Mm → List MV → Prop} : WP 27 12 [q0, q1] [(0, s0), (2, s1)] ds m Q = ((dk ds s1 = 10 ∧ 0 ≤ s0 ∧ s0 < dl ds s1 ∧ WP 27 13 [q0, q1] [(0, m s1 s0)] ds m Q)) := P_g3 k27_12 rfl
set_option maxRecDepth 20000 in
theorem k27_13 : mjCode 27 13 = some (.iconst 3, 1, 0, 0) := by decide +kernel
theorem p27_13 {s0 : Int} {q0 q1 : MV} {ds : Ds} {m : Mm} {Q : Ds → Mm → List MV → Prop} : WP 27 13 [q0, q1] [(0, s0)] ds m Q = (WP 27 14 [q0, q1] [(0, 3), (0, s0)] ds m Q) := P_nx k27_13 rfl
set_option maxRecDepth 20000 in
theorem k27_14 : mjCode 27 14 = some (.if_icmp .ne 12, 3, 26, 0) := by decide +kernel
theorem p27_14 {s0 s1 : Int} {q0 q1 : MV} {ds : Ds} {m : Mm} {Q : Ds → Mm → List MV → Prop} : WP 27 14 [q0, q1] [(0, s0), (0, s1)] ds m Q = (if s1 = s0 then WP 27 17 [q0, q1] [] ds m Q else WP 27 26 [q0, q1] [] ds m Q) := P_if k27_14 rfl
set_option maxRecDepth 20000 in
theorem k27_17 : mjCode 27 17 = some (.aload_n 0, 1, 0, 0) := by decide +kernel
theorem p27_17 {l0 : Int} {q1 : MV} {ds : Ds} {m : Mm} {Q : Ds → Mm → List MV → Prop} : WP 27 17 [(2, l0), q1] [] ds m Q = (WP 27 18 [(2, l0), q1] [(2, l0)] ds m Q) := P_nx k27_17 rfl
set_option maxRecDepth 20000 in
theorem k27_18 : mjCode 27 18 = some (.getfield 21, 3, 3, 3) := by decide +kernel
theorem p27_18 {s0 : Int} {q0 q1 : MV} {ds : Ds} {m : Mm} {Q : Ds → Mm → List MV → Prop} : WP 27 18 [q0, q1] [(2, s0)] ds m Q = ((dk ds s0 = 3 ∧ WP 27 21 [q0, q1] [(2, m s0 3)] ds m Q)) := P_gd k27_18 rfl
set_option maxRecDepth 20000 in
theorem k27_21 : mjCode 27 21 = some (.iload_n 1, 1, 0, 0) := by decide +kernel
theorem p27_21 {l1 s0 : Int} {q0 : MV} {ds : Ds} {m : Mm} {Q : Ds → Mm → List MV → Prop} : WP 27 21 [q0, (0, l1)] [(2, s0)] ds m Q = (WP 27 22 [q0, (0, l1)] [(0, l1), (2, s0)] ds m Q) := P_nx k27_21 rfl
set_option maxRecDepth 20000 in
theorem k27_22 : mjCode 27 22 = some (.iaload, 1, 0, 0) := by decide +kernel
theorem p27_22 {s0 s1 : Int} {q0 q1 : MV} {ds : Ds} {m : Mm} {Q : Ds → Mm → List MV → Prop} : WP 27 22 [q0, q1] [(0, s0), (2, s1)] ds m Q = ((dk ds s1 = 10 ∧ 0 ≤ s0 ∧ s0 < dl ds s1 ∧ WP 27 23 [q0, q1] [(0, m s1 s0)] ds m Q)) := P_g3 k27_22 rfl
set_option maxRecDepth 20000 in
theorem k27_23 : mjCode 27 23 = some (.goto 4, 3, 27, 0) := by decide +kernel
theorem p27_23 {s0 : Int} {q0 q1 : MV} {ds : Ds} {m : Mm} {Q : Ds → Mm → List MV → Prop} : WP 27 23 [q0, q1] [(0, s0)] ds m Q = (WP 27 27 [q0, q1] [(0, s0)] ds m Q) := P_nx k27_23 rfl
set_option maxRecDepth 20000 in
theorem k27_26 : mjCode 27 26 = some (.iconst (-1), 1, 0, 0) := by decide +kernel
theorem p27_26 {q0 q1 : MV} {ds : Ds} {m : Mm} {Q : Ds → Mm → List MV → Prop} : WP 27 26 [q0, q1] [] ds m Q = (WP 27 27 [q0, q1] [(0, (-1))] ds m Q) := P_nx k27_26 rfl
set_option maxRecDepth 20000 in
theorem k27_27 : mjCode 27 27 = some (.ireturn, 1, 0, 0) := by decide +kernel
theorem p27_27 {s0 : Int} {q0 q1 : MV} {ds : Ds} {m : Mm} {Q : Ds → Mm → List MV → Prop} : WP 27 27 [q0, q1] [(0, s0)] ds m Q = (Q ds m [(0, s0)]) := P_ri k27_27 rk27
set_option maxRecDepth 20000 in
theorem k28_0 : mjCode 28 0 = some (.iload_n 1, 1, 0, 0) := by decide +kernel
theorem p28_0 {l1 : Int} {q0 : MV} {ds : Ds} {m : Mm} {Q : Ds → Mm → List MV → Prop} : WP 28 0 [q0, (0, l1)] [] ds m Q = (WP 28 1 [q0, (0, l1)] [(0, l1)] ds m Q) := P_nx k28_0 rfl
set_option maxRecDepth 20000 in
theorem k28_1 : mjCode 28 1 = some (.invokestatic 41, 3, 108, 1) := by decide +kernel
theorem p28_1 {s0 : Int} {q0 q1 : MV} {ds : Ds} {m : Mm} {Q : Ds → Mm → List MV → Prop} : WP 28 1 [q0, q1] [(0, s0)] ds m Q = (WP 107 0 [(0, s0)] [] ds m (fun d2 m2 r2 => WP 28 4 [q0, q1] (r2 ++ []) d2 m2 Q)) := P_cs k28_1 mx107 rfl rfl rfl rfl rfl rfl rfl
set_option maxRecDepth 20000 in
theorem k28_4 : mjCode 28 4 = some (.ifCond .eq 16, 3, 20, 0) := by decide +kernel
theorem p28_4 {s0 : Int} {q0 q1 : MV} {ds : Ds} {m : Mm} {Q : Ds → Mm → List MV → Prop} : WP 28 4 [q0, q1] [(0, s0)] ds m Q = (if s0 = 0 then WP 28 20 [q0, q1] [] ds m Q else WP 28 7 [q0, q1] [] ds m Q) := P_if k28_4 rfl
set_option maxRecDepth 20000 in
theorem k28_7 : mjCode 28 7 = some (.aload_n 0, 1, 0, 0) := by decide +kernel
theorem p28_7 {l0 : Int} {q1 : MV} {ds : Ds} {m : Mm} {Q : Ds → Mm → List MV → Prop} : WP 28 7 [(2, l0), q1] [] ds m Q = (WP 28 8 [(2, l0), q1] [(2, l0)] ds m Q) := P_nx k28_7 rfl
set_option maxRecDepth 20000 in
theorem k28_8 : mjCode 28 8 = some (.getfield 24, 3, 3, 4) := by decide +kernel
theorem p28_8 {s0 : Int} {q0 q1 : MV} {ds : Ds} {m : Mm} {Q : Ds → Mm → List MV → Prop} : WP 28 8 [q0, q1] [(2, s0)] ds m Q = ((dk ds s0 = 3 ∧ WP 28 11 [q0, q1] [(2, m s0 4)] ds m Q)) := P_gd k28_8 rfl
set_option maxRecDepth 20000 in
theorem k28_11 : mjCode 28 11 = some (.iload_n 1, 1, 0, 0) := by decide +kernel
theorem p28_11 {l1 s0 : Int} {q0 : MV} {ds : Ds} {m : Mm} {Q : Ds → Mm → List MV → Prop} : WP 28 11 [q0, (0, l1)] [(2, s0)] ds m Q = (WP 28 12 [q0, (0, l1)] [(0, l1), (2, s0)] ds m Q) := P_nx k28_11 rfl
set_option maxRecDepth 20000 in
theorem k28_12 : mjCode 28 12 = some (.baload, 1, 0, 0) := by decide +kernel
theorem p28_12 {s0 s1 : Int} {q0 q1 : MV} {ds : Ds} {m : Mm} {Q : Ds → Mm → List MV → Prop} : WP 28 12 [q0, q1] [(0, s0), (2, s1)] ds m Q = ((dk ds s1 = 11 ∧ 0 ≤ s0 ∧ s0 < dl ds s1 ∧ WP 28 13 [q0, q1] [(0, m s1 s0)] ds m Q)) := P_g3 k28_12 rfl
set_option maxRecDepth 20000 in
theorem k28_13 : mjCode 28 13 = some (.ifCond .eq 7, 3, 20, 0) := by decide +kernel
theorem p28_13 {s0 : Int} {q0 q1 : MV} {ds : Ds} {m : Mm} {Q : Ds → Mm → List MV → Prop} : WP 28 13 [q0, q1] [(0, s0)] ds m Q = (if s0 = 0 then WP 28 20 [q0, q1] [] ds m Q else WP 28 16 [q0, q1] [] ds m Q) := P_if k28_13 rfl
set_option maxRecDepth 20000 in
theorem k28_16 : mjCode 28 16 = some (.iconst 1, 1, 0, 0) := by decide +kernel
theorem p28_16 {q0 q1 : MV} {ds : Ds} {m : Mm} {Q : Ds → Mm → List MV → Prop} : WP 28 16 [q0, q1] [] ds m Q = (WP 28 17 [q0, q1] [(0, 1)] ds m Q) := P_nx k28_16 rfl
set_option maxRecDepth 20000 in
theorem k28_17 : mjCode 28 17 = some (.goto 4, 3, 21, 0) := by decide +kernel
theorem p28_17 {s0 : Int} {q0 q1 : MV} {ds : Ds} {m : Mm} {Q : Ds → Mm → List MV → Prop} : WP 28 17 [q0, q1] [(0, s0)] ds m Q = (WP 28 21 [q0, q1] [(0, s0)] ds m Q) := P_nx k28_17 rfl
set_option maxRecDepth 20000 in
theorem k28_20 : mjCode 28 20 = some (.iconst 0, 1, 0, 0) := by decide +kernel
theorem p28_20 {q0 q1 : MV} {ds : Ds} {m : Mm} {Q : Ds → Mm → List MV → Prop} : WP 28 20 [q0, q1] [] ds m Q = (WP 28 21 [q0, q1] [(0, 0)] ds m Q) := P_nx k28_20 rfl
set_option maxRecDepth 20000 in
theorem k28_21 : mjCode 28 21 = some (.ireturn, 1, 0, 0) := by decide +kernel
theorem p28_21 {s0 : Int} {q0 q1 : MV} {ds : Ds} {m : Mm} {Q : Ds → Mm → List MV → Prop} : WP 28 21 [q0, q1] [(0, s0)] ds m Q = (((s0 = 0 ∨ s0 = 1) ∧ Q ds m [(0, s0)])) := P_rb k28_21 rk28
set_option maxRecDepth 20000 in
theorem k29_0 : mjCode 29 0 = some (.iload_n 1, 1, 0, 0) := by decide +kernel
theorem p29_0 {l1 : Int} {q0 : MV} {ds : Ds} {m : Mm} {Q : Ds → Mm → List MV → Prop} : WP 29 0 [q0, (0, l1)] [] ds m Q = (WP 29 1 [q0, (0, l1)] [(0, l1)] ds m Q) := P_nx k29_0 rfl
set_option maxRecDepth 20000 in
theorem k29_1 : mjCode 29 1 = some (.invokestatic 41, 3, 108, 1) := by decide +kernel
theorem p29_1 {s0 : Int} {q0 q1 : MV} {ds : Ds} {m : Mm} {Q : Ds → Mm → List MV → Prop} : WP 29 1 [q0, q1] [(0, s0)] ds m Q = (WP 107 0 [(0, s0)] [] ds m (fun d2 m2 r2 => WP 29 4 [q0, q1] (r2 ++ []) d2 m2 Q)) := P_cs k29_1 mx107 rfl rfl rfl rfl rfl rfl rfl
set_option maxRecDepth 20000 in
theorem k29_4 : mjCode 29 4 = some (.ifCond .eq 25, 3, 29, 0) := by decide +kernel
theorem p29_4 {s0 : Int} {q0 q1 : MV} {ds : Ds} {m : Mm} {Q : Ds → Mm → List MV → Prop} : WP 29 4 [q0, q1] [(0, s0)] ds m Q = (if s0 = 0 then WP 29 29 [q0, q1] [] ds m Q else WP 29 7 [q0, q1] [] ds m Q) := P_if k29_4 rfl
set_option maxRecDepth 20000 in
theorem k29_7 : mjCode 29 7 = some (.aload_n 0, 1, 0, 0) := by decide +kernel
theorem p29_7 {l0 : Int} {q1 : MV} {ds : Ds} {m : Mm} {Q : Ds → Mm → List MV → Prop} : WP 29 7 [(2, l0), q1] [] ds m Q = (WP 29 8 [(2, l0), q1] [(2, l0)] ds m Q) := P_nx k29_7 rfl
set_option maxRecDepth 20000 in
theorem k29_8 : mjCode 29 8 = some (.getfield 9, 3, 3, 0) := by decide +kernel
theorem p29_8 {s0 : Int} {q0 q1 : MV} {ds : Ds} {m : Mm} {Q : Ds → Mm → List MV → Prop} : WP 29 8 [q0, q1] [(2, s0)] ds m Q = ((dk ds s0 = 3 ∧ WP 29 11 [q0, q1] [(2, m s0 0)] ds m Q)) := P_gd k29_8 rfl
set_option maxRecDepth 20000 in
theorem k29_11 : mjCode 29 11 = some (.iload_n 1, 1, 0, 0) := by decide +kernel
theorem p29_11 {l1 s0 : Int} {q0 : MV} {ds : Ds} {m : Mm} {Q : Ds → Mm → List MV → Prop} : WP 29 11 [q0, (0, l1)] [(2, s0)] ds m Q = (WP 29 12 [q0, (0, l1)] [(0, l1), (2, s0)] ds m Q) := P_nx k29_11 rfl
set_option maxRecDepth 20000 in
theorem k29_12 : mjCode 29 12 = some (.iaload, 1, 0, 0) := by decide +kernel
theorem p29_12 {s0 s1 : Int} {q0 q1 : MV} {ds : Ds} {m : Mm} {Q : Ds → Mm → List MV → Prop} : WP 29 12 [q0, q1] [(0, s0), (2, s1)] ds m Q = ((dk ds s1 = 10 ∧ 0 ≤ s0 ∧ s0 < dl ds s1 ∧ WP 29 13 [q0, q1] [(0, m s1 s0)] ds m Q)) := P_g3 k29_12 rfl
set_option maxRecDepth 20000 in
theorem k29_13 : mjCode 29 13 = some (.ifCond .ne 16, 3, 29, 0) := by decide +kernel
theorem p29_13 {s0 : Int} {q0 q1 : MV} {ds : Ds} {m : Mm} {Q : Ds → Mm → List MV → Prop} : WP 29 13 [q0, q1] [(0, s0)] ds m Q = (if s0 = 0 then WP 29 16 [q0, q1] [] ds m Q else WP 29 29 [q0, q1] [] ds m Q) := P_if k29_13 rfl
set_option maxRecDepth 20000 in
theorem k29_16 : mjCode 29 16 = some (.aload_n 0, 1, 0, 0) := by decide +kernel
theorem p29_16 {l0 : Int} {q1 : MV} {ds : Ds} {m : Mm} {Q : Ds → Mm → List MV → Prop} : WP 29 16 [(2, l0), q1] [] ds m Q = (WP 29 17 [(2, l0), q1] [(2, l0)] ds m Q) := P_nx k29_16 rfl
set_option maxRecDepth 20000 in
theorem k29_17 : mjCode 29 17 = some (.getfield 24, 3, 3, 4) := by decide +kernel
theorem p29_17 {s0 : Int} {q0 q1 : MV} {ds : Ds} {m : Mm} {Q : Ds → Mm → List MV → Prop} : WP 29 17 [q0, q1] [(2, s0)] ds m Q = ((dk ds s0 = 3 ∧ WP 29 20 [q0, q1] [(2, m s0 4)] ds m Q)) := P_gd k29_17 rfl
set_option maxRecDepth 20000 in
theorem k29_20 : mjCode 29 20 = some (.iload_n 1, 1, 0, 0) := by decide +kernel
theorem p29_20 {l1 s0 : Int} {q0 : MV} {ds : Ds} {m : Mm} {Q : Ds → Mm → List MV → Prop} : WP 29 20 [q0, (0, l1)] [(2, s0)] ds m Q = (WP 29 21 [q0, (0, l1)] [(0, l1), (2, s0)] ds m Q) := P_nx k29_20 rfl
set_option maxRecDepth 20000 in
theorem k29_21 : mjCode 29 21 = some (.baload, 1, 0, 0) := by decide +kernel
theorem p29_21 {s0 s1 : Int} {q0 q1 : MV} {ds : Ds} {m : Mm} {Q : Ds → Mm → List MV → Prop} : WP 29 21 [q0, q1] [(0, s0), (2, s1)] ds m Q = ((dk ds s1 = 11 ∧ 0 ≤ s0 ∧ s0 < dl ds s1 ∧ WP 29 22 [q0, q1] [(0, m s1 s0)] ds m Q)) := P_g3 k29_21 rfl
set_option maxRecDepth 20000 in
theorem k29_22 : mjCode 29 22 = some (.ifCond .ne 7, 3, 29, 0) := by decide +kernel
theorem p29_22 {s0 : Int} {q0 q1 : MV} {ds : Ds} {m : Mm} {Q : Ds → Mm → List MV → Prop} : WP 29 22 [q0, q1] [(0, s0)] ds m Q = (if s0 = 0 then WP 29 25 [q0, q1] [] ds m Q else WP 29 29 [q0, q1] [] ds m Q) := P_if k29_22 rfl
set_option maxRecDepth 20000 in
theorem k29_25 : mjCode 29 25 = some (.iconst 1, 1, 0, 0) := by decide +kernel
theorem p29_25 {q0 q1 : MV} {ds : Ds} {m : Mm} {Q : Ds → Mm → List MV → Prop} : WP 29 25 [q0, q1] [] ds m Q = (WP 29 26 [q0, q1] [(0, 1)] ds m Q) := P_nx k29_25 rfl
set_option maxRecDepth 20000 in
theorem k29_26 : mjCode 29 26 = some (.goto 4, 3, 30, 0) := by decide +kernel
theorem p29_26 {s0 : Int} {q0 q1 : MV} {ds : Ds} {m : Mm} {Q : Ds → Mm → List MV → Prop} : WP 29 26 [q0, q1] [(0, s0)] ds m Q = (WP 29 30 [q0, q1] [(0, s0)] ds m Q) := P_nx k29_26 rfl
set_option maxRecDepth 20000 in
theorem k29_29 : mjCode 29 29 = some (.iconst 0, 1, 0, 0) := by decide +kernel
theorem p29_29 {q0 q1 : MV} {ds : Ds} {m : Mm} {Q : Ds → Mm → List MV → Prop} : WP 29 29 [q0, q1] [] ds m Q = (WP 29 30 [q0, q1] [(0, 0)] ds m Q) := P_nx k29_29 rfl
set_option maxRecDepth 20000 in
theorem k29_30 : mjCode 29 30 = some (.ireturn, 1, 0, 0) := by decide +kernel
theorem p29_30 {s0 : Int} {q0 q1 : MV} {ds : Ds} {m : Mm} {Q : Ds → Mm → List MV → Prop} : WP 29 30 [q0, q1] [(0, s0)] ds m Q = (((s0 = 0 ∨ s0 = 1) ∧ Q ds m [(0, s0)])) := P_rb k29_30 rk29
set_option maxRecDepth 20000 in
theorem k30_0 : mjCode 30 0 = some (.aload_n 0, 1, 0, 0) := by decide +kernel
theorem p30_0 {l0 : Int} {q1 q2 : MV} {ds : Ds} {m : Mm} {Q : Ds → Mm → List MV → Prop} : WP 30 0 [(2, l0), q1, q2] [] ds m Q = (WP 30 1 [(2, l0), q1, q2] [(2, l0)] ds m Q) := P_nx k30_0 rfl
set_option maxRecDepth 20000 in
theorem k30_1 : mjCode 30 1 = some (.iload_n 1, 1, 0, 0) := by decide +kernel
theorem p30_1 {l1 s0 : Int} {q0 q2 : MV} {ds : Ds} {m : Mm} {Q : Ds → Mm → List MV → Prop} : WP 30 1 [q0, (0, l1), q2] [(2, s0)] ds m Q = (WP 30 2 [q0, (0, l1), q2] [(0, l1), (2, s0)] ds m Q) := P_nx k30_1 rfl
set_option maxRecDepth 20000 in
theorem k30_2 : mjCode 30 2 = some (.invokevirtual 45, 3, 25, 2) := by decide +kernel
theorem p30_2 {s0 s1 : Int} {q0 q1 q2 : MV} {ds : Ds} {m : Mm} {Q : Ds → Mm → List MV → Prop} : WP 30 2 [q0, q1, q2] [(0, s0), (2, s1)] ds m Q = ((dk ds s1 = 3 ∧ WP 24 0 [(2, s1), (0, s0)] [] ds m (fun d2 m2 r2 => WP 30 5 [q0, q1, q2] (r2 ++ []) d2 m2 Q))) := P_cv k30_2 mx24 mo24 rfl rfl rfl rfl rfl rfl rfl rfl
set_option maxRecDepth 20000 in
theorem k30_5 : mjCode 30 5 = some (.istore_n 2, 1, 0, 0) := by decide +kernel
theorem p30_5 {l1 s0 : Int} {q0 q2 : MV} {ds : Ds} {m : Mm} {Q : Ds → Mm → List MV → Prop} : WP 30 5 [q0, (0, l1), q2] [(0, s0)] ds m Q = (WP 30 6 [q0, (0, l1), (0, s0)] [] ds m Q) := P_nx k30_5 rfl
set_option maxRecDepth 20000 in
theorem k30_6 : mjCode 30 6 = some (.aload_n 0, 1, 0, 0) := by decide +kernel
theorem p30_6 {l0 : Int} {q1 q2 : MV} {ds : Ds} {m : Mm} {Q : Ds → Mm → List MV → Prop} : WP 30 6 [(2, l0), q1, q2] [] ds m Q = (WP 30 7 [(2, l0), q1, q2] [(2, l0)] ds m Q) := P_nx k30_6 rfl
set_option maxRecDepth 20000 in
theorem k30_7 : mjCode 30 7 = some (.iload_n 1, 1, 0, 0) := by decide +kernel
theorem p30_7 {l1 s0 : Int} {q0 q2 : MV} {ds : Ds} {m : Mm} {Q : Ds → Mm → List MV → Prop} : WP 30 7 [q0, (0, l1), q2] [(2, s0)] ds m Q = (WP 30 8 [q0, (0, l1), q2] [(0, l1), (2, s0)] ds m Q) := P_nx k30_7 rfl
set_option maxRecDepth 20000 in
theorem k30_8 : mjCode 30 8 = some (.invokevirtual 49, 3, 29, 2) := by decide +kernel
theorem p30_8 {s0 s1 : Int} {q0 q1 q2 : MV} {ds : Ds} {m : Mm} {Q : Ds → Mm → List MV → Prop} : WP 30 8 [q0, q1, q2] [(0, s0), (2, s1)] ds m Q = ((dk ds s1 = 3 ∧ WP 28 0 [(2, s1), (0, s0)] [] ds m (fun d2 m2 r2 => WP 30 11 [q0, q1, q2] (r2 ++ []) d2 m2 Q))) := P_cv k30_8 mx28 mo28 rfl rfl rfl rfl rfl rfl rfl rfl
set_option maxRecDepth 20000 in
theorem k30_11 : mjCode 30 11 = some (.ifCond .ne 13, 3, 24, 0) := by decide +kernel
theorem p30_11 {s0 : Int} {q0 q1 q2 : MV} {ds : Ds} {m : Mm} {Q : Ds → Mm → List MV → Prop} : WP 30 11 [q0, q1, q2] [(0, s0)] ds m Q = (if s0 = 0 then WP 30 14 [q0, q1, q2] [] ds m Q else WP 30 24 [q0, q1, q2] [] ds m Q) := P_if k30_11 rfl
set_option maxRecDepth 20000 in
theorem k30_14 : mjCode 30 14 = some (.iload_n 2, 1, 0, 0) := by decide +kernel
theorem p30_14 {l2 : Int} {q0 q1 : MV} {ds : Ds} {m : Mm} {Q : Ds → Mm → List MV → Prop} : WP 30 14 [q0, q1, (0, l2)] [] ds m Q = (WP 30 15 [q0, q1, (0, l2)] [(0, l2)] ds m Q) := P_nx k30_14 rfl
set_option maxRecDepth 20000 in
theorem k30_15 : mjCode 30 15 = some (.ifCond .eq 13, 3, 28, 0) := by decide +kernel
theorem p30_15 {s0 : Int} {q0 q1 q2 : MV} {ds : Ds} {m : Mm} {Q : Ds → Mm → List MV → Prop} : WP 30 15 [q0, q1, q2] [(0, s0)] ds m Q = (if s0 = 0 then WP 30 28 [q0, q1, q2] [] ds m Q else WP 30 18 [q0, q1, q2] [] ds m Q) := P_if k30_15 rfl
set_option maxRecDepth 20000 in
theorem k30_18 : mjCode 30 18 = some (.iload_n 2, 1, 0, 0) := by decide +kernel
theorem p30_18 {l2 : Int} {q0 q1 : MV} {ds : Ds} {m : Mm} {Q : Ds → Mm → List MV → Prop} : WP 30 18 [q0, q1, (0, l2)] [] ds m Q = (WP 30 19 [q0, q1, (0, l2)] [(0, l2)] ds m Q) := P_nx k30_18 rfl
set_option maxRecDepth 20000 in
theorem k30_19 : mjCode 30 19 = some (.bipush 8, 2, 0, 0) := by decide +kernel
theorem p30_19 {s0 : Int} {q0 q1 q2 : MV} {ds : Ds} {m : Mm} {Q : Ds → Mm → List MV → Prop} : WP 30 19 [q0, q1, q2] [(0, s0)] ds m Q = (WP 30 21 [q0, q1, q2] [(0, 8), (0, s0)] ds m Q) := P_nx k30_19 rfl
set_option maxRecDepth 20000 in
theorem k30_21 : mjCode 30 21 = some (.if_icmp .eq 7, 3, 28, 0) := by decide +kernel
theorem p30_21 {s0 s1 : Int} {q0 q1 q2 : MV} {ds : Ds} {m : Mm} {Q : Ds → Mm → List MV → Prop} : WP 30 21 [q0, q1, q2] [(0, s0), (0, s1)] ds m Q = (if s1 = s0 then WP 30 28 [q0, q1, q2] [] ds m Q else WP 30 24 [q0, q1, q2] [] ds m Q) := P_if k30_21 rfl
set_option maxRecDepth 20000 in
theorem k30_24 : mjCode 30 24 = some (.iconst 1, 1, 0, 0) := by decide +kernel
theorem p30_24 {q0 q1 q2 : MV} {ds : Ds} {m : Mm} {Q : Ds → Mm → List MV → Prop} : WP 30 24 [q0, q1, q2] [] ds m Q = (WP 30 25 [q0, q1, q2] [(0, 1)] ds m Q) := P_nx k30_24 rfl
set_option maxRecDepth 20000 in
theorem k30_25 : mjCode 30 25 = some (.goto 4, 3, 29, 0) := by decide +kernel
theorem p30_25 {s0 : Int} {q0 q1 q2 : MV} {ds : Ds} {m : Mm} {Q : Ds → Mm → List MV → Prop} : WP 30 25 [q0, q1, q2] [(0, s0)] ds m Q = (WP 30 29 [q0, q1, q2] [(0, s0)] ds m Q) := P_nx k30_25 rfl
set_option maxRecDepth 20000 in
theorem k30_28 : mjCode 30 28 = some (.iconst 0, 1, 0, 0) := by decide +kernel
theorem p30_28 {q0 q1 q2 : MV} {ds : Ds} {m : Mm} {Q : Ds → Mm → List MV → Prop} : WP 30 28 [q0, q1, q2] [] ds m Q = (WP 30 29 [q0, q1, q2] [(0, 0)] ds m Q) := P_nx k30_28 rfl
set_option maxRecDepth 20000 in
theorem k30_29 : mjCode 30 29 = some (.ireturn, 1, 0, 0) := by decide +kernel
theorem p30_29 {s0 : Int} {q0 q1 q2 : MV} {ds : Ds} {m : Mm} {Q : Ds → Mm → List MV → Prop} : WP 30 29 [q0, q1, q2] [(0, s0)] ds m Q = (((s0 = 0 ∨ s0 = 1) ∧ Q ds m [(0, s0)])) := P_rb k30_29 rk30
set_option maxRecDepth 20000 in
theorem k31_0 : mjCode 31 0 = some (.iload_n 1, 1, 0, 0) := by decide +kernel
theorem p31_0 {l1 : Int} {q0 q2 : MV} {ds : Ds} {m : Mm} {Q : Ds → Mm → List MV → Prop} : WP 31 0 [q0, (0, l1), q2] [] ds m Q = (WP 31 1 [q0, (0, l1), q2] [(0, l1)] ds m Q) := P_nx k31_0 rfl
set_option maxRecDepth 20000 in
theorem k31_1 : mjCode 31 1 = some (.invokestatic 41, 3, 108, 1) := by decide +kernel
theorem p31_1 {s0 : Int} {q0 q1 q2 : MV} {ds : Ds} {m : Mm} {Q : Ds → Mm → List MV → Prop} : WP 31 1 [q0, q1, q2] [(0, s0)] ds m Q = (WP 107 0 [(0, s0)] [] ds m (fun d2 m2 r2 => WP 31 4 [q0, q1, q2] (r2 ++ []) d2 m2 Q)) := P_cs k31_1 mx107 rfl rfl rfl rfl rfl rfl rfl
set_option maxRecDepth 20000 in
theorem k31_4 : mjCode 31 4 = some (.ifCond .eq 21, 3, 25, 0) := by decide +kernel
theorem p31_4 {s0 : Int} {q0 q1 q2 : MV} {ds : Ds} {m : Mm} {Q : Ds → Mm → List MV → Prop} : WP 31 4 [q0, q1, q2] [(0, s0)] ds m Q = (if s0 = 0 then WP 31 25 [q0, q1, q2] [] ds m Q else WP 31 7 [q0, q1, q2] [] ds m Q) := P_if k31_4 rfl
set_option maxRecDepth 20000 in
theorem k31_7 : mjCode 31 7 = some (.aload_n 0, 1, 0, 0) := by decide +kernel
theorem p31_7 {l0 : Int} {q1 q2 : MV} {ds : Ds} {m : Mm} {Q : Ds → Mm → List MV → Prop} : WP 31 7 [(2, l0), q1, q2] [] ds m Q = (WP 31 8 [(2, l0), q1, q2] [(2, l0)] ds m Q) := P_nx k31_7 rfl
set_option maxRecDepth 20000 in
theorem k31_8 : mjCode 31 8 = some (.getfield 15, 3, 3, 1) := by decide +kernel
theorem p31_8 {s0 : Int} {q0 q1 q2 : MV} {ds : Ds} {m : Mm} {Q : Ds → Mm → List MV → Prop} : WP 31 8 [q0, q1, q2] [(2, s0)] ds m Q = ((dk ds s0 = 3 ∧ WP 31 11 [q0, q1, q2] [(2, m s0 1)] ds m Q)) := P_gd k31_8 rfl
set_option maxRecDepth 20000 in
theorem k31_11 : mjCode 31 11 = some (.iload_n 1, 1, 0, 0) := by decide +kernel
theorem p31_11 {l1 s0 : Int} {q0 q2 : MV} {ds : Ds} {m : Mm} {Q : Ds → Mm → List MV → Prop} : WP 31 11 [q0, (0, l1), q2] [(2, s0)] ds m Q = (WP 31 12 [q0, (0, l1), q2] [(0, l1), (2, s0)] ds m Q) := P_nx k31_11 rfl
set_option maxRecDepth 20000 in
theorem k31_12 : mjCode 31 12 = some (.iaload, 1, 0, 0) := by decide +kernel
theorem p31_12 {s0 s1 : Int} {q0 q1 q2 : MV} {ds : Ds} {m : Mm} {Q : Ds → Mm → List MV → Prop} : WP 31 12 [q0, q1, q2] [(0, s0), (2, s1)] ds m Q = ((dk ds s1 = 10 ∧ 0 ≤ s0 ∧ s0 < dl ds s1 ∧ WP 31 13 [q0, q1, q2] [(0, m s1 s0)] ds m Q)) := P_g3 k31_12 rfl
set_option maxRecDepth 20000 in
theorem k31_13 : mjCode 31 13 = some (.iload_n 2, 1, 0, 0) := by decide +kernel
theorem p31_13 {l2 s0 : Int} {q0 q1 : MV} {ds : Ds} {m : Mm} {Q : Ds → Mm → List MV → Prop} : WP 31 13 [q0, q1, (0, l2)] [(0, s0)] ds m Q = (WP 31 14 [q0, q1, (0, l2)] [(0, l2), (0, s0)] ds m Q) := P_nx k31_13 rfl
set_option maxRecDepth 20000 in
theorem k31_14 : mjCode 31 14 = some (.ishr, 1, 0, 0) := by decide +kernel
theorem p31_14 {s0 s1 : Int} {q0 q1 q2 : MV} {ds : Ds} {m : Mm} {Q : Ds → Mm → List MV → Prop} : WP 31 14 [q0, q1, q2] [(0, s0), (0, s1)] ds m Q = (WP 31 15 [q0, q1, q2] [(0, jshr s1 s0)] ds m Q) := P_nx k31_14 rfl
set_option maxRecDepth 20000 in
theorem k31_15 : mjCode 31 15 = some (.iconst 1, 1, 0, 0) := by decide +kernel
theorem p31_15 {s0 : Int} {q0 q1 q2 : MV} {ds : Ds} {m : Mm} {Q : Ds → Mm → List MV → Prop} : WP 31 15 [q0, q1, q2] [(0, s0)] ds m Q = (WP 31 16 [q0, q1, q2] [(0, 1), (0, s0)] ds m Q) := P_nx k31_15 rfl
set_option maxRecDepth 20000 in
theorem k31_16 : mjCode 31 16 = some (.iand, 1, 0, 0) := by decide +kernel
theorem p31_16 {s0 s1 : Int} {q0 q1 q2 : MV} {ds : Ds} {m : Mm} {Q : Ds → Mm → List MV → Prop} : WP 31 16 [q0, q1, q2] [(0, s0), (0, s1)] ds m Q = (WP 31 17 [q0, q1, q2] [(0, jand s1 s0)] ds m Q) := P_nx k31_16 rfl
set_option maxRecDepth 20000 in
theorem k31_17 : mjCode 31 17 = some (.iconst 1, 1, 0, 0) := by decide +kernel
theorem p31_17 {s0 : Int} {q0 q1 q2 : MV} {ds : Ds} {m : Mm} {Q : Ds → Mm → List MV → Prop} : WP 31 17 [q0, q1, q2] [(0, s0)] ds m Q = (WP 31 18 [q0, q1, q2] [(0, 1), (0, s0)] ds m Q) := P_nx k31_17 rfl
set_option maxRecDepth 20000 in
theorem k31_18 : mjCode 31 18 = some (.if_icmp .ne 7, 3, 25, 0) := by decide +kernel
theorem p31_18 {s0 s1 : Int} {q0 q1 q2 : MV} {ds : Ds} {m : Mm} {Q : Ds → Mm → List MV → Prop} : WP 31 18 [q0, q1, q2] [(0, s0), (0, s1)] ds m Q = (if s1 = s0 then WP 31 21 [q0, q1, q2] [] ds m Q else WP 31 25 [q0, q1, q2] [] ds m Q) := P_if k31_18 rfl
set_option maxRecDepth 20000 in
theorem k31_21 : mjCode 31 21 = some (.iconst 1, 1, 0, 0) := by decide +kernel
theorem p31_21 {q0 q1 q2 : MV} {ds : Ds} {m : Mm} {Q : Ds → Mm → List MV → Prop} : WP 31 21 [q0, q1, q2] [] ds m Q = (WP 31 22 [q0, q1, q2] [(0, 1)] ds m Q) := P_nx k31_21 rfl
set_option maxRecDepth 20000 in
theorem k31_22 : mjCode 31 22 = some (.goto 4, 3, 26, 0) := by decide +kernel
theorem p31_22 {s0 : Int} {q0 q1 q2 : MV} {ds : Ds} {m : Mm} {Q : Ds → Mm → List MV → Prop} : WP 31 22 [q0, q1, q2] [(0, s0)] ds m Q = (WP 31 26 [q0, q1, q2] [(0, s0)] ds m Q) := P_nx k31_22 rfl
set_option maxRecDepth 20000 in
theorem k31_25 : mjCode 31 25 = some (.iconst 0, 1, 0, 0) := by decide +kernel
theorem p31_25 {q0 q1 q2 : MV} {ds : Ds} {m : Mm} {Q : Ds → Mm → List MV → Prop} : WP 31 25 [q0, q1, q2] [] ds m Q = (WP 31 26 [q0, q1, q2] [(0, 0)] ds m Q) := P_nx k31_25 rfl
set_option maxRecDepth 20000 in
theorem k31_26 : mjCode 31 26 = some (.ireturn, 1, 0, 0) := by decide +kernel
theorem p31_26 {s0 : Int} {q0 q1 q2 : MV} {ds : Ds} {m : Mm} {Q : Ds → Mm → List MV → Prop} : WP 31 26 [q0, q1, q2] [(0, s0)] ds m Q = (((s0 = 0 ∨ s0 = 1) ∧ Q ds m [(0, s0)])) := P_rb k31_26 rk31
set_option maxRecDepth 20000 in
theorem k32_0 : mjCode 32 0 = some (.iload_n 2, 1, 0, 0) := by decide +kernel
theorem p32_0 {l2 : Int} {q0 q1 q3 q4 q5 : MV} {ds : Ds} {m : Mm} {Q : Ds → Mm → List MV → Prop} : WP 32 0 [q0, q1, (0, l2), q3, q4, q5] [] ds m Q = (WP 32 1 [q0, q1, (0, l2), q3, q4, q5] [(0, l2)] ds m Q) := P_nx k32_0 rfl
set_option maxRecDepth 20000 in
theorem k32_1 : mjCode 32 1 = some (.iconst 1, 1, 0, 0) := by decide +kernel
theorem p32_1 {s0 : Int} {q0 q1 q2 q3 q4 q5 : MV} {ds : Ds} {m : Mm} {Q : Ds → Mm → List MV → Prop} : WP 32 1 [q0, q1, q2, q3, q4, q5] [(0, s0)] ds m Q = (WP 32 2 [q0, q1, q2, q3, q4, q5] [(0, 1), (0, s0)] ds m Q) := P_nx k32_1 rfl
set_option maxRecDepth 20000 in
theorem k32_2 : mjCode 32 2 = some (.if_icmp .lt 31, 3, 33, 0) := by decide +kernel
theorem p32_2 {s0 s1 : Int} {q0 q1 q2 q3 q4 q5 : MV} {ds : Ds} {m : Mm} {Q : Ds → Mm → List MV → Prop} : WP 32 2 [q0, q1, q2, q3, q4, q5] [(0, s0), (0, s1)] ds m Q = (if s1 < s0 then WP 32 33 [q0, q1, q2, q3, q4, q5] [] ds m Q else WP 32 5 [q0, q1, q2, q3, q4, q5] [] ds m Q) := P_if k32_2 rfl
set_option maxRecDepth 20000 in
theorem k32_5 : mjCode 32 5 = some (.iload_n 2, 1, 0, 0) := by decide +kernel
theorem p32_5 {l2 : Int} {q0 q1 q3 q4 q5 : MV} {ds : Ds} {m : Mm} {Q : Ds → Mm → List MV → Prop} : WP 32 5 [q0, q1, (0, l2), q3, q4, q5] [] ds m Q = (WP 32 6 [q0, q1, (0, l2), q3, q4, q5] [(0, l2)] ds m Q) := P_nx k32_5 rfl
set_option maxRecDepth 20000 in
theorem k32_6 : mjCode 32 6 = some (.bipush 9, 2, 0, 0) := by decide +kernel
theorem p32_6 {s0 : Int} {q0 q1 q2 q3 q4 q5 : MV} {ds : Ds} {m : Mm} {Q : Ds → Mm → List MV → Prop} : WP 32 6 [q0, q1, q2, q3, q4, q5] [(0, s0)] ds m Q = (WP 32 8 [q0, q1, q2, q3, q4, q5] [(0, 9), (0, s0)] ds m Q) := P_nx k32_6 rfl
set_option maxRecDepth 20000 in
theorem k32_8 : mjCode 32 8 = some (.if_icmp .gt 25, 3, 33, 0) := by decide +kernel
theorem p32_8 {s0 s1 : Int} {q0 q1 q2 q3 q4 q5 : MV} {ds : Ds} {m : Mm} {Q : Ds → Mm → List MV → Prop} : WP 32 8 [q0, q1, q2, q3, q4, q5] [(0, s0), (0, s1)] ds m Q = (if s0 < s1 then WP 32 33 [q0, q1, q2, q3, q4, q5] [] ds m Q else WP 32 11 [q0, q1, q2, q3, q4, q5] [] ds m Q) := P_if k32_8 rfl
set_option maxRecDepth 20000 in
theorem k32_11 : mjCode 32 11 = some (.iload_n 2, 1, 0, 0) := by decide +kernel
theorem p32_11 {l2 : Int} {q0 q1 q3 q4 q5 : MV} {ds : Ds} {m : Mm} {Q : Ds → Mm → List MV → Prop} : WP 32 11 [q0, q1, (0, l2), q3, q4, q5] [] ds m Q = (WP 32 12 [q0, q1, (0, l2), q3, q4, q5] [(0, l2)] ds m Q) := P_nx k32_11 rfl
set_option maxRecDepth 20000 in
theorem k32_12 : mjCode 32 12 = some (.iconst 3, 1, 0, 0) := by decide +kernel
theorem p32_12 {s0 : Int} {q0 q1 q2 q3 q4 q5 : MV} {ds : Ds} {m : Mm} {Q : Ds → Mm → List MV → Prop} : WP 32 12 [q0, q1, q2, q3, q4, q5] [(0, s0)] ds m Q = (WP 32 13 [q0, q1, q2, q3, q4, q5] [(0, 3), (0, s0)] ds m Q) := P_nx k32_12 rfl
set_option maxRecDepth 20000 in
theorem k32_13 : mjCode 32 13 = some (.if_icmp .eq 20, 3, 33, 0) := by decide +kernel
theorem p32_13 {s0 s1 : Int} {q0 q1 q2 q3 q4 q5 : MV} {ds : Ds} {m : Mm} {Q : Ds → Mm → List MV → Prop} : WP 32 13 [q0, q1, q2, q3, q4, q5] [(0, s0), (0, s1)] ds m Q = (if s1 = s0 then WP 32 33 [q0, q1, q2, q3, q4, q5] [] ds m Q else WP 32 16 [q0, q1, q2, q3, q4, q5] [] ds m Q) := P_if k32_13 rfl
set_option maxRecDepth 20000 in
theorem k32_16 : mjCode 32 16 = some (.iload_n 2, 1, 0, 0) := by decide +kernel
theorem p32_16 {l2 : Int} {q0 q1 q3 q4 q5 : MV} {ds : Ds} {m : Mm} {Q : Ds → Mm → List MV → Prop} : WP 32 16 [q0, q1, (0, l2), q3, q4, q5] [] ds m Q = (WP 32 17 [q0, q1, (0, l2), q3, q4, q5] [(0, l2)] ds m Q) := P_nx k32_16 rfl
set_option maxRecDepth 20000 in
theorem k32_17 : mjCode 32 17 = some (.iload_n 3, 1, 0, 0) := by decide +kernel
theorem p32_17 {l3 s0 : Int} {q0 q1 q2 q4 q5 : MV} {ds : Ds} {m : Mm} {Q : Ds → Mm → List MV → Prop} : WP 32 17 [q0, q1, q2, (0, l3), q4, q5] [(0, s0)] ds m Q = (WP 32 18 [q0, q1, q2, (0, l3), q4, q5] [(0, l3), (0, s0)] ds m Q) := P_nx k32_17 rfl
set_option maxRecDepth 20000 in
theorem k32_18 : mjCode 32 18 = some (.invokestatic 52, 3, 115, 2) := by decide +kernel
theorem p32_18 {s0 s1 : Int} {q0 q1 q2 q3 q4 q5 : MV} {ds : Ds} {m : Mm} {Q : Ds → Mm → List MV → Prop} : WP 32 18 [q0, q1, q2, q3, q4, q5] [(0, s0), (0, s1)] ds m Q = (WP 114 0 [(0, s1), (0, s0), (3, 0)] [] ds m (fun d2 m2 r2 => WP 32 21 [q0, q1, q2, q3, q4, q5] (r2 ++ []) d2 m2 Q)) := P_cs k32_18 mx114 rfl rfl rfl rfl rfl rfl rfl
set_option maxRecDepth 20000 in
theorem k32_21 : mjCode 32 21 = some (.ifCond .eq 12, 3, 33, 0) := by decide +kernel
theorem p32_21 {s0 : Int} {q0 q1 q2 q3 q4 q5 : MV} {ds : Ds} {m : Mm} {Q : Ds → Mm → List MV → Prop} : WP 32 21 [q0, q1, q2, q3, q4, q5] [(0, s0)] ds m Q = (if s0 = 0 then WP 32 33 [q0, q1, q2, q3, q4, q5] [] ds m Q else WP 32 24 [q0, q1, q2, q3, q4, q5] [] ds m Q) := P_if k32_21 rfl
set_option maxRecDepth 20000 in
theorem k32_24 : mjCode 32 24 = some (.iload_n 2, 1, 0, 0) := by decide +kernel
theorem p32_24 {l2 : Int} {q0 q1 q3 q4 q5 : MV} {ds : Ds} {m : Mm} {Q : Ds → Mm → List MV → Prop} : WP 32 24 [q0, q1, (0, l2), q3, q4, q5] [] ds m Q = (WP 32 25 [q0, q1, (0, l2), q3, q4, q5] [(0, l2)] ds m Q) := P_nx k32_24 rfl
set_option maxRecDepth 20000 in
theorem k32_25 : mjCode 32 25 = some (.iload 4, 2, 0, 0) := by decide +kernel
theorem p32_25 {l4 s0 : Int} {q0 q1 q2 q3 q5 : MV} {ds : Ds} {m : Mm} {Q : Ds → Mm → List MV → Prop} : WP 32 25 [q0, q1, q2, q3, (0, l4), q5] [(0, s0)] ds m Q = (WP 32 27 [q0, q1, q2, q3, (0, l4), q5] [(0, l4), (0, s0)] ds m Q) := P_nx k32_25 rfl
set_option maxRecDepth 20000 in
theorem k32_27 : mjCode 32 27 = some (.invokestatic 56, 3, 116, 2) := by decide +kernel
theorem p32_27 {s0 s1 : Int} {q0 q1 q2 q3 q4 q5 : MV} {ds : Ds} {m : Mm} {Q : Ds → Mm → List MV → Prop} : WP 32 27 [q0, q1, q2, q3, q4, q5] [(0, s0), (0, s1)] ds m Q = (WP 115 0 [(0, s1), (0, s0)] [] ds m (fun d2 m2 r2 => WP 32 30 [q0, q1, q2, q3, q4, q5] (r2 ++ []) d2 m2 Q)) := P_cs k32_27 mx115 rfl rfl rfl rfl rfl rfl rfl
set_option maxRecDepth 20000 in
theorem k32_30 : mjCode 32 30 = some (.ifCond .ne 5, 3, 35, 0) := by decide +kernel
theorem p32_30 {s0 : Int} {q0 q1 q2 q3 q4 q5 : MV} {ds : Ds} {m : Mm} {Q : Ds → Mm → List MV → Prop} : WP 32 30 [q0, q1, q2, q3, q4, q5] [(0, s0)] ds m Q = (if s0 = 0 then WP 32 33 [q0, q1, q2, q3, q4, q5] [] ds m Q else WP 32 35 [q0, q1, q2, q3, q4, q5] [] ds m Q) := P_if k32_30 rfl
set_option maxRecDepth 20000 in
theorem k32_33 : mjCode 32 33 = some (.iconst 0, 1, 0, 0) := by decide +kernel
theorem p32_33 {q0 q1 q2 q3 q4 q5 : MV} {ds : Ds} {m : Mm} {Q : Ds → Mm → List MV → Prop} : WP 32 33 [q0, q1, q2, q3, q4, q5] [] ds m Q = (WP 32 34 [q0, q1, q2, q3, q4, q5] [(0, 0)] ds m Q) := P_nx k32_33 rfl
set_option maxRecDepth 20000 in
theorem k32_34 : mjCode 32 34 = some (.ireturn, 1, 0, 0) := by decide +kernel
theorem p32_34 {s0 : Int} {q0 q1 q2 q3 q4 q5 : MV} {ds : Ds} {m : Mm} {Q : Ds → Mm → List MV → Prop} : WP 32 34 [q0, q1, q2, q3, q4, q5] [(0, s0)] ds m Q = (((s0 = 0 ∨ s0 = 1) ∧ Q ds m [(0, s0)])) := P_rb k32_34 rk32
set_option maxRecDepth 20000 in
theorem k32_35 : mjCode 32 35 = some (.iload_n 2, 1, 0, 0) := by decide +kernel
theorem p32_35 {l2 : Int} {q0 q1 q3 q4 q5 : MV} {ds : Ds} {m : Mm} {Q : Ds → Mm → List MV → Prop} : WP 32 35 [q0, q1, (0, l2), q3, q4, q5] [] ds m Q = (WP 32 36 [q0, q1, (0, l2), q3, q4, q5] [(0, l2)] ds m Q) := P_nx k32_35 rfl
set_option maxRecDepth 20000 in
theorem k32_36 : mjCode 32 36 = some (.bipush 9, 2, 0, 0) := by decide +kernel
theorem p32_36 {s0 : Int} {q0 q1 q2 q3 q4 q5 : MV} {ds : Ds} {m : Mm} {Q : Ds → Mm → List MV → Prop} : WP 32 36 [q0, q1, q2, q3, q4, q5] [(0, s0)] ds m Q = (WP 32 38 [q0, q1, q2, q3, q4, q5] [(0, 9), (0, s0)] ds m Q) := P_nx k32_36 rfl
set_option maxRecDepth 20000 in
theorem k32_38 : mjCode 32 38 = some (.if_icmp .ne 23, 3, 61, 0) := by decide +kernel
theorem p32_38 {s0 s1 : Int} {q0 q1 q2 q3 q4 q5 : MV} {ds : Ds} {m : Mm} {Q : Ds → Mm → List MV → Prop} : WP 32 38 [q0, q1, q2, q3, q4, q5] [(0, s0), (0, s1)] ds m Q = (if s1 = s0 then WP 32 41 [q0, q1, q2, q3, q4, q5] [] ds m Q else WP 32 61 [q0, q1, q2, q3, q4, q5] [] ds m Q) := P_if k32_38 rfl
set_option maxRecDepth 20000 in
theorem k32_41 : mjCode 32 41 = some (.aload_n 0, 1, 0, 0) := by decide +kernel
theorem p32_41 {l0 : Int} {q1 q2 q3 q4 q5 : MV} {ds : Ds} {m : Mm} {Q : Ds → Mm → List MV → Prop} : WP 32 41 [(2, l0), q1, q2, q3, q4, q5] [] ds m Q = (WP 32 42 [(2, l0), q1, q2, q3, q4, q5] [(2, l0)] ds m Q) := P_nx k32_41 rfl
set_option maxRecDepth 20000 in
theorem k32_42 : mjCode 32 42 = some (.iload_n 1, 1, 0, 0) := by decide +kernel
theorem p32_42 {l1 s0 : Int} {q0 q2 q3 q4 q5 : MV} {ds : Ds} {m : Mm} {Q : Ds → Mm → List MV → Prop} : WP 32 42 [q0, (0, l1), q2, q3, q4, q5] [(2, s0)] ds m Q = (WP 32 43 [q0, (0, l1), q2, q3, q4, q5] [(0, l1), (2, s0)] ds m Q) := P_nx k32_42 rfl
set_option maxRecDepth 20000 in
theorem k32_43 : mjCode 32 43 = some (.invokevirtual 49, 3, 29, 2) := by decide +kernel
theorem p32_43 {s0 s1 : Int} {q0 q1 q2 q3 q4 q5 : MV} {ds : Ds} {m : Mm} {Q : Ds → Mm → List MV → Prop} : WP 32 43 [q0, q1, q2, q3, q4, q5] [(0, s0), (2, s1)] ds m Q = ((dk ds s1 = 3 ∧ WP 28 0 [(2, s1), (0, s0)] [] ds m (fun d2 m2 r2 => WP 32 46 [q0, q1, q2, q3, q4, q5] (r2 ++ []) d2 m2 Q))) := P_cv k32_43 mx28 mo28 rfl rfl rfl rfl rfl rfl rfl rfl
set_option maxRecDepth 20000 in
theorem k32_46 : mjCode 32 46 = some (.ifCond .eq 15, 3, 61, 0) := by decide +kernel
theorem p32_46 {s0 : Int} {q0 q1 q2 q3 q4 q5 : MV} {ds : Ds} {m : Mm} {Q : Ds → Mm → List MV → Prop} : WP 32 46 [q0, q1, q2, q3, q4, q5] [(0, s0)] ds m Q = (if s0 = 0 then WP 32 61 [q0, q1, q2, q3, q4, q5] [] ds m Q else WP 32 49 [q0, q1, q2, q3, q4, q5] [] ds m Q) := P_if k32_46 rfl
set_option maxRecDepth 20000 in
theorem k32_49 : mjCode 32 49 = some (.aload_n 0, 1, 0, 0) := by decide +kernel
theorem p32_49 {l0 : Int} {q1 q2 q3 q4 q5 : MV} {ds : Ds} {m : Mm} {Q : Ds → Mm → List MV → Prop} : WP 32 49 [(2, l0), q1, q2, q3, q4, q5] [] ds m Q = (WP 32 50 [(2, l0), q1, q2, q3, q4, q5] [(2, l0)] ds m Q) := P_nx k32_49 rfl
set_option maxRecDepth 20000 in
theorem k32_50 : mjCode 32 50 = some (.iload_n 1, 1, 0, 0) := by decide +kernel
theorem p32_50 {l1 s0 : Int} {q0 q2 q3 q4 q5 : MV} {ds : Ds} {m : Mm} {Q : Ds → Mm → List MV → Prop} : WP 32 50 [q0, (0, l1), q2, q3, q4, q5] [(2, s0)] ds m Q = (WP 32 51 [q0, (0, l1), q2, q3, q4, q5] [(0, l1), (2, s0)] ds m Q) := P_nx k32_50 rfl
set_option maxRecDepth 20000 in
theorem k32_51 : mjCode 32 51 = some (.invokevirtual 45, 3, 25, 2) := by decide +kernel
theorem p32_51 {s0 s1 : Int} {q0 q1 q2 q3 q4 q5 : MV} {ds : Ds} {m : Mm} {Q : Ds → Mm → List MV → Prop} : WP 32 51 [q0, q1, q2, q3, q4, q5] [(0, s0), (2, s1)] ds m Q = ((dk ds s1 = 3 ∧ WP 24 0 [(2, s1), (0, s0)] [] ds m (fun d2 m2 r2 => WP 32 54 [q0, q1, q2, q3, q4, q5] (r2 ++ []) d2 m2 Q))) := P_cv k32_51 mx24 mo24 rfl rfl rfl rfl rfl rfl rfl rfl
set_option maxRecDepth 20000 in
theorem k32_54 : mjCode 32 54 = some (.ifCond .ne 7, 3, 61, 0) := by decide +kernel
theorem p32_54 {s0 : Int} {q0 q1 q2 q3 q4 q5 : MV} {ds : Ds} {m : Mm} {Q : Ds → Mm → List MV → Prop} : WP 32 54 [q0, q1, q2, q3, q4, q5] [(0, s0)] ds m Q = (if s0 = 0 then WP 32 57 [q0, q1, q2, q3, q4, q5] [] ds m Q else WP 32 61 [q0, q1, q2, q3, q4, q5] [] ds m Q) := P_if k32_54 rfl
set_option maxRecDepth 20000 in
theorem k32_57 : mjCode 32 57 = some (.iconst 1, 1, 0, 0) := by decide +kernel
theorem p32_57 {q0 q1 q2 q3 q4 q5 : MV} {ds : Ds} {m : Mm} {Q : Ds → Mm → List MV → Prop} : WP 32 57 [q0, q1, q2, q3, q4, q5] [] ds m Q = (WP 32 58 [q0, q1, q2, q3, q4, q5] [(0, 1)] ds m Q) := P_nx k32_57 rfl
set_option maxRecDepth 20000 in
theorem k32_58 : mjCode 32 58 = some (.goto 4, 3, 62, 0) := by decide +kernel
theorem p32_58 {s0 : Int} {q0 q1 q2 q3 q4 q5 : MV} {ds : Ds} {m : Mm} {Q : Ds → Mm → List MV → Prop} : WP 32 58 [q0, q1, q2, q3, q4, q5] [(0, s0)] ds m Q = (WP 32 62 [q0, q1, q2, q3, q4, q5] [(0, s0)] ds m Q) := P_nx k32_58 rfl
set_option maxRecDepth 20000 in
theorem k32_61 : mjCode 32 61 = some (.iconst 0, 1, 0, 0) := by decide +kernel
theorem p32_61 {q0 q1 q2 q3 q4 q5 : MV} {ds : Ds} {m : Mm} {Q : Ds → Mm → List MV → Prop} : WP 32 61 [q0, q1, q2, q3, q4, q5] [] ds m Q = (WP 32 62 [q0, q1, q2, q3, q4, q5] [(0, 0)] ds m Q) := P_nx k32_61 rfl
set_option maxRecDepth 20000 in
theorem k32_62 : mjCode 32 62 = some (.istore 5, 2, 0, 0) := by decide +kernel
theorem p32_62 {l4 s0 : Int} {q0 q1 q2 q3 q5 : MV} {ds : Ds} {m : Mm} {Q : Ds → Mm → List MV → Prop} : WP 32 62 [q0, q1, q2, q3, (0, l4), q5] [(0, s0)] ds m Q = (WP 32 64 [q0, q1, q2, q3, (0, l4), (0, s0)] [] ds m Q) := P_nx k32_62 rfl
set_option maxRecDepth 20000 in
theorem k32_64 : mjCode 32 64 = some (.iload 5, 2, 0, 0) := by decide +kernel
theorem p32_64 {l5 : Int} {q0 q1 q2 q3 q4 : MV} {ds : Ds} {m : Mm} {Q : Ds → Mm → List MV → Prop} : WP 32 64 [q0, q1, q2, q3, q4, (0, l5)] [] ds m Q = (WP 32 66 [q0, q1, q2, q3, q4, (0, l5)] [(0, l5)] ds m Q) := P_nx k32_64 rfl
set_option maxRecDepth 20000 in
theorem k32_66 : mjCode 32 66 = some (.ifCond .ne 11, 3, 77, 0) := by decide +kernel
theorem p32_66 {s0 : Int} {q0 q1 q2 q3 q4 q5 : MV} {ds : Ds} {m : Mm} {Q : Ds → Mm → List MV → Prop} : WP 32 66 [q0, q1, q2, q3, q4, q5] [(0, s0)] ds m Q = (if s0 = 0 then WP 32 69 [q0, q1, q2, q3, q4, q5] [] ds m Q else WP 32 77 [q0, q1, q2, q3, q4, q5] [] ds m Q) := P_if k32_66 rfl
set_option maxRecDepth 20000 in
theorem k32_69 : mjCode 32 69 = some (.aload_n 0, 1, 0, 0) := by decide +kernel
theorem p32_69 {l0 : Int} {q1 q2 q3 q4 q5 : MV} {ds : Ds} {m : Mm} {Q : Ds → Mm → List MV → Prop} : WP 32 69 [(2, l0), q1, q2, q3, q4, q5] [] ds m Q = (WP 32 70 [(2, l0), q1, q2, q3, q4, q5] [(2, l0)] ds m Q) := P_nx k32_69 rfl
set_option maxRecDepth 20000 in
theorem k32_70 : mjCode 32 70 = some (.iload_n 1, 1, 0, 0) := by decide +kernel
theorem p32_70 {l1 s0 : Int} {q0 q2 q3 q4 q5 : MV} {ds : Ds} {m : Mm} {Q : Ds → Mm → List MV → Prop} : WP 32 70 [q0, (0, l1), q2, q3, q4, q5] [(2, s0)] ds m Q = (WP 32 71 [q0, (0, l1), q2, q3, q4, q5] [(0, l1), (2, s0)] ds m Q) := P_nx k32_70 rfl
set_option maxRecDepth 20000 in
theorem k32_71 : mjCode 32 71 = some (.invokevirtual 59, 3, 30, 2) := by decide +kernel
theorem p32_71 {s0 s1 : Int} {q0 q1 q2 q3 q4 q5 : MV} {ds : Ds} {m : Mm} {Q : Ds → Mm → List MV → Prop} : WP 32 71 [q0, q1, q2, q3, q4, q5] [(0, s0), (2, s1)] ds m Q = ((dk ds s1 = 3 ∧ WP 29 0 [(2, s1), (0, s0)] [] ds m (fun d2 m2 r2 => WP 32 74 [q0, q1, q2, q3, q4, q5] (r2 ++ []) d2 m2 Q))) := P_cv k32_71 mx29 mo29 rfl rfl rfl rfl rfl rfl rfl rfl
set_option maxRecDepth 20000 in
theorem k32_74 : mjCode 32 74 = some (.ifCond .eq 7, 3, 81, 0) := by decide +kernel
theorem p32_74 {s0 : Int} {q0 q1 q2 q3 q4 q5 : MV} {ds : Ds} {m : Mm} {Q : Ds → Mm → List MV → Prop} : WP 32 74 [q0, q1, q2, q3, q4, q5] [(0, s0)] ds m Q = (if s0 = 0 then WP 32 81 [q0, q1, q2, q3, q4, q5] [] ds m Q else WP 32 77 [q0, q1, q2, q3, q4, q5] [] ds m Q) := P_if k32_74 rfl
set_option maxRecDepth 20000 in
theorem k32_77 : mjCode 32 77 = some (.iconst 1, 1, 0, 0) := by decide +kernel
theorem p32_77 {q0 q1 q2 q3 q4 q5 : MV} {ds : Ds} {m : Mm} {Q : Ds → Mm → List MV → Prop} : WP 32 77 [q0, q1, q2, q3, q4, q5] [] ds m Q = (WP 32 78 [q0, q1, q2, q3, q4, q5] [(0, 1)] ds m Q) := P_nx k32_77 rfl
set_option maxRecDepth 20000 in
theorem k32_78 : mjCode 32 78 = some (.goto 4, 3, 82, 0) := by decide +kernel
theorem p32_78 {s0 : Int} {q0 q1 q2 q3 q4 q5 : MV} {ds : Ds} {m : Mm} {Q : Ds → Mm → List MV → Prop} : WP 32 78 [q0, q1, q2, q3, q4, q5] [(0, s0)] ds m Q = (WP 32 82 [q0, q1, q2, q3, q4, q5] [(0, s0)] ds m Q) := P_nx k32_78 rfl
set_option maxRecDepth 20000 in
theorem k32_81 : mjCode 32 81 = some (.iconst 0, 1, 0, 0) := by decide +kernel
theorem p32_81 {q0 q1 q2 q3 q4 q5 : MV} {ds : Ds} {m : Mm} {Q : Ds → Mm → List MV → Prop} : WP 32 81 [q0, q1, q2, q3, q4, q5] [] ds m Q = (WP 32 82 [q0, q1, q2, q3, q4, q5] [(0, 0)] ds m Q) := P_nx k32_81 rfl
set_option maxRecDepth 20000 in
theorem k32_82 : mjCode 32 82 = some (.ireturn, 1, 0, 0) := by decide +kernel
theorem p32_82 {s0 : Int} {q0 q1 q2 q3 q4 q5 : MV} {ds : Ds} {m : Mm} {Q : Ds → Mm → List MV → Prop} : WP 32 82 [q0, q1, q2, q3, q4, q5] [(0, s0)] ds m Q = (((s0 = 0 ∨ s0 = 1) ∧ Q ds m [(0, s0)])) := P_rb k32_82 rk32
set_option maxRecDepth 20000 in
theorem k33_0 : mjCode 33 0 = some (.aload_n 0, 1, 0, 0) := by decide +kernel
theorem p33_0 {l0 : Int} {q1 q2 : MV} {ds : Ds} {m : Mm} {Q : Ds → Mm → List MV → Prop} : WP 33 0 [(2, l0), q1, q2] [] ds m Q = (WP 33 1 [(2, l0), q1, q2] [(2, l0)] ds m Q) := P_nx k33_0 rfl
set_option maxRecDepth 20000 in
theorem k33_1 : mjCode 33 1 = some (.iload_n 1, 1, 0, 0) := by decide +kernel
theorem p33_1 {l1 s0 : Int} {q0 q2 : MV} {ds : Ds} {m : Mm} {Q : Ds → Mm → List MV → Prop} : WP 33 1 [q0, (0, l1), q2] [(2, s0)] ds m Q = (WP 33 2 [q0, (0, l1), q2] [(0, l1), (2, s0)] ds m Q) := P_nx k33_1 rfl
set_option maxRecDepth 20000 in
theorem k33_2 : mjCode 33 2 = some (.invokevirtual 45, 3, 25, 2) := by decide +kernel
theorem p33_2 {s0 s1 : Int} {q0 q1 q2 : MV} {ds : Ds} {m : Mm} {Q : Ds → Mm → List MV → Prop} : WP 33 2 [q0, q1, q2] [(0, s0), (2, s1)] ds m Q = ((dk ds s1 = 3 ∧ WP 24 0 [(2, s1), (0, s0)] [] ds m (fun d2 m2 r2 => WP 33 5 [q0, q1, q2] (r2 ++ []) d2 m2 Q))) := P_cv k33_2 mx24 mo24 rfl rfl rfl rfl rfl rfl rfl rfl
set_option maxRecDepth 20000 in
theorem k33_5 : mjCode 33 5 = some (.istore_n 2, 1, 0, 0) := by decide +kernel
theorem p33_5 {l1 s0 : Int} {q0 q2 : MV} {ds : Ds} {m : Mm} {Q : Ds → Mm → List MV → Prop} : WP 33 5 [q0, (0, l1), q2] [(0, s0)] ds m Q = (WP 33 6 [q0, (0, l1), (0, s0)] [] ds m Q) := P_nx k33_5 rfl
set_option maxRecDepth 20000 in
theorem k33_6 : mjCode 33 6 = some (.iload_n 1, 1, 0, 0) := by decide +kernel
theorem p33_6 {l1 : Int} {q0 q2 : MV} {ds : Ds} {m : Mm} {Q : Ds → Mm → List MV → Prop} : WP 33 6 [q0, (0, l1), q2] [] ds m Q = (WP 33 7 [q0, (0, l1), q2] [(0, l1)] ds m Q) := P_nx k33_6 rfl
set_option maxRecDepth 20000 in
theorem k33_7 : mjCode 33 7 = some (.invokestatic 41, 3, 108, 1) := by decide +kernel
theorem p33_7 {s0 : Int} {q0 q1 q2 : MV} {ds : Ds} {m : Mm} {Q : Ds → Mm → List MV → Prop} : WP 33 7 [q0, q1, q2] [(0, s0)] ds m Q = (WP 107 0 [(0, s0)] [] ds m (fun d2 m2 r2 => WP 33 10 [q0, q1, q2] (r2 ++ []) d2 m2 Q)) := P_cs k33_7 mx107 rfl rfl rfl rfl rfl rfl rfl
set_option maxRecDepth 20000 in
theorem k33_10 : mjCode 33 10 = some (.ifCond .eq 26, 3, 36, 0) := by decide +kernel
theorem p33_10 {s0 : Int} {q0 q1 q2 : MV} {ds : Ds} {m : Mm} {Q : Ds → Mm → List MV → Prop} : WP 33 10 [q0, q1, q2] [(0, s0)] ds m Q = (if s0 = 0 then WP 33 36 [q0, q1, q2] [] ds m Q else WP 33 13 [q0, q1, q2] [] ds m Q) := P_if k33_10 rfl
set_option maxRecDepth 20000 in
theorem k33_13 : mjCode 33 13 = some (.aload_n 0, 1, 0, 0) := by decide +kernel
theorem p33_13 {l0 : Int} {q1 q2 : MV} {ds : Ds} {m : Mm} {Q : Ds → Mm → List MV → Prop} : WP 33 13 [(2, l0), q1, q2] [] ds m Q = (WP 33 14 [(2, l0), q1, q2] [(2, l0)] ds m Q) := P_nx k33_13 rfl
set_option maxRecDepth 20000 in
theorem k33_14 : mjCode 33 14 = some (.getfield 24, 3, 3, 4) := by decide +kernel
theorem p33_14 {s0 : Int} {q0 q1 q2 : MV} {ds : Ds} {m : Mm} {Q : Ds → Mm → List MV → Prop} : WP 33 14 [q0, q1, q2] [(2, s0)] ds m Q = ((dk ds s0 = 3 ∧ WP 33 17 [q0, q1, q2] [(2, m s0 4)] ds m Q)) := P_gd k33_14 rfl
set_option maxRecDepth 20000 in
theorem k33_17 : mjCode 33 17 = some (.iload_n 1, 1, 0, 0) := by decide +kernel
theorem p33_17 {l1 s0 : Int} {q0 q2 : MV} {ds : Ds} {m : Mm} {Q : Ds → Mm → List MV → Prop} : WP 33 17 [q0, (0, l1), q2] [(2, s0)] ds m Q = (WP 33 18 [q0, (0, l1), q2] [(0, l1), (2, s0)] ds m Q) := P_nx k33_17 rfl
set_option maxRecDepth 20000 in
theorem k33_18 : mjCode 33 18 = some (.baload, 1, 0, 0) := by decide +kernel
theorem p33_18 {s0 s1 : Int} {q0 q1 q2 : MV} {ds : Ds} {m : Mm} {Q : Ds → Mm → List MV → Prop} : WP 33 18 [q0, q1, q2] [(0, s0), (2, s1)] ds m Q = ((dk ds s1 = 11 ∧ 0 ≤ s0 ∧ s0 < dl ds s1 ∧ WP 33 19 [q0, q1, q2] [(0, m s1 s0)] ds m Q)) := P_g3 k33_18 rfl
set_option maxRecDepth 20000 in
theorem k33_19 : mjCode 33 19 = some (.ifCond .ne 17, 3, 36, 0) := by decide +kernel
theorem p33_19 {s0 : Int} {q0 q1 q2 : MV} {ds : Ds} {m : Mm} {Q : Ds → Mm → List MV → Prop} : WP 33 19 [q0, q1, q2] [(0, s0)] ds m Q = (if s0 = 0 then WP 33 22 [q0, q1, q2] [] ds m Q else WP 33 36 [q0, q1, q2] [] ds m Q) := P_if k33_19 rfl
set_option maxRecDepth 20000 in
theorem k33_22 : mjCode 33 22 = some (.iload_n 2, 1, 0, 0) := by decide +kernel
theorem p33_22 {l2 : Int} {q0 q1 : MV} {ds : Ds} {m : Mm} {Q : Ds → Mm → List MV → Prop} : WP 33 22 [q0, q1, (0, l2)] [] ds m Q = (WP 33 23 [q0, q1, (0, l2)] [(0, l2)] ds m Q) := P_nx k33_22 rfl
set_option maxRecDepth 20000 in
theorem k33_23 : mjCode 33 23 = some (.ifCond .eq 9, 3, 32, 0) := by decide +kernel
theorem p33_23 {s0 : Int} {q0 q1 q2 : MV} {ds : Ds} {m : Mm} {Q : Ds → Mm → List MV → Prop} : WP 33 23 [q0, q1, q2] [(0, s0)] ds m Q = (if s0 = 0 then WP 33 32 [q0, q1, q2] [] ds m Q else WP 33 26 [q0, q1, q2] [] ds m Q) := P_if k33_23 rfl
set_option maxRecDepth 20000 in
theorem k33_26 : mjCode 33 26 = some (.iload_n 2, 1, 0, 0) := by decide +kernel
theorem p33_26 {l2 : Int} {q0 q1 : MV} {ds : Ds} {m : Mm} {Q : Ds → Mm → List MV → Prop} : WP 33 26 [q0, q1, (0, l2)] [] ds m Q = (WP 33 27 [q0, q1, (0, l2)] [(0, l2)] ds m Q) := P_nx k33_26 rfl
set_option maxRecDepth 20000 in
theorem k33_27 : mjCode 33 27 = some (.bipush 9, 2, 0, 0) := by decide +kernel
theorem p33_27 {s0 : Int} {q0 q1 q2 : MV} {ds : Ds} {m : Mm} {Q : Ds → Mm → List MV → Prop} : WP 33 27 [q0, q1, q2] [(0, s0)] ds m Q = (WP 33 29 [q0, q1, q2] [(0, 9), (0, s0)] ds m Q) := P_nx k33_27 rfl
set_option maxRecDepth 20000 in
theorem k33_29 : mjCode 33 29 = some (.if_icmp .ne 7, 3, 36, 0) := by decide +kernel
theorem p33_29 {s0 s1 : Int} {q0 q1 q2 : MV} {ds : Ds} {m : Mm} {Q : Ds → Mm → List MV → Prop} : WP 33 29 [q0, q1, q2] [(0, s0), (0, s1)] ds m Q = (if s1 = s0 then WP 33 32 [q0, q1, q2] [] ds m Q else WP 33 36 [q0, q1, q2] [] ds m Q) := P_if k33_29 rfl
set_option maxRecDepth 20000 in
theorem k33_32 : mjCode 33 32 = some (.iconst 1, 1, 0, 0) := by decide +kernel
theorem p33_32 {q0 q1 q2 : MV} {ds : Ds} {m : Mm} {Q : Ds → Mm → List MV → Prop} : WP 33 32 [q0, q1, q2] [] ds m Q = (WP 33 33 [q0, q1, q2] [(0, 1)] ds m Q) := P_nx k33_32 rfl
set_option maxRecDepth 20000 in
theorem k33_33 : mjCode 33 33 = some (.goto 4, 3, 37, 0) := by decide +kernel
theorem p33_33 {s0 : Int} {q0 q1 q2 : MV} {ds : Ds} {m : Mm} {Q : Ds → Mm → List MV → Prop} : WP 33 33 [q0, q1, q2] [(0, s0)] ds m Q = (WP 33 37 [q0, q1, q2] [(0, s0)] ds m Q) := P_nx k33_33 rfl
set_option maxRecDepth 20000 in
theorem k33_36 : mjCode 33 36 = some (.iconst 0, 1, 0, 0) := by decide +kernel
theorem p33_36 {q0 q1 q2 : MV} {ds : Ds} {m : Mm} {Q : Ds → Mm → List MV → Prop} : WP 33 36 [q0, q1, q2] [] ds m Q = (WP 33 37 [q0, q1, q2] [(0, 0)] ds m Q) := P_nx k33_36 rfl
set_option maxRecDepth 20000 in
theorem k33_37 : mjCode 33 37 = some (.ireturn, 1, 0, 0) := by decide +kernel
theorem p33_37 {s0 : Int} {q0 q1 q2 : MV} {ds : Ds} {m : Mm} {Q : Ds → Mm → List MV → Prop} : WP 33 37 [q0, q1, q2] [(0, s0)] ds m Q = (((s0 = 0 ∨ s0 = 1) ∧ Q ds m [(0, s0)])) := P_rb k33_37 rk33
set_option maxRecDepth 20000 in
theorem k34_0 : mjCode 34 0 = some (.iload_n 1, 1, 0, 0) := by decide +kernel
theorem p34_0 {l1 : Int} {q0 q2 q3 q4 : MV} {ds : Ds} {m : Mm} {Q : Ds → Mm → List MV → Prop} : WP 34 0 [q0, (0, l1), q2, q3, q4] [] ds m Q = (WP 34 1 [q0, (0, l1), q2, q3, q4] [(0, l1)] ds m Q) := P_nx k34_0 rfl
set_option maxRecDepth 20000 in
theorem k34_1 : mjCode 34 1 = some (.invokestatic 41, 3, 108, 1) := by decide +kernel
theorem p34_1 {s0 : Int} {q0 q1 q2 q3 q4 : MV} {ds : Ds} {m : Mm} {Q : Ds → Mm → List MV → Prop} : WP 34 1 [q0, q1, q2, q3, q4] [(0, s0)] ds m Q = (WP 107 0 [(0, s0)] [] ds m (fun d2 m2 r2 => WP 34 4 [q0, q1, q2, q3, q4] (r2 ++ []) d2 m2 Q)) := P_cs k34_1 mx107 rfl rfl rfl rfl rfl rfl rfl
set_option maxRecDepth 20000 in
theorem k34_4 : mjCode 34 4 = some (.ifCond .eq 47, 3, 51, 0) := by decide +kernel
theorem p34_4 {s0 : Int} {q0 q1 q2 q3 q4 : MV} {ds : Ds} {m : Mm} {Q : Ds → Mm → List MV → Prop} : WP 34 4 [q0, q1, q2, q3, q4] [(0, s0)] ds m Q = (if s0 = 0 then WP 34 51 [q0, q1, q2, q3, q4] [] ds m Q else WP 34 7 [q0, q1, q2, q3, q4] [] ds m Q) := P_if k34_4 rfl
set_option maxRecDepth 20000 in
theorem k34_7 : mjCode 34 7 = some (.aload_n 0, 1, 0, 0) := by decide +kernel
theorem p34_7 {l0 : Int} {q1 q2 q3 q4 : MV} {ds : Ds} {m : Mm} {Q : Ds → Mm → List MV → Prop} : WP 34 7 [(2, l0), q1, q2, q3, q4] [] ds m Q = (WP 34 8 [(2, l0), q1, q2, q3, q4] [(2, l0)] ds m Q) := P_nx k34_7 rfl
set_option maxRecDepth 20000 in
theorem k34_8 : mjCode 34 8 = some (.getfield 9, 3, 3, 0) := by decide +kernel
theorem p34_8 {s0 : Int} {q0 q1 q2 q3 q4 : MV} {ds : Ds} {m : Mm} {Q : Ds → Mm → List MV → Prop} : WP 34 8 [q0, q1, q2, q3, q4] [(2, s0)] ds m Q = ((dk ds s0 = 3 ∧ WP 34 11 [q0, q1, q2, q3, q4] [(2, m s0 0)] ds m Q)) := P_gd k34_8 rfl
set_option maxRecDepth 20000 in
theorem k34_11 : mjCode 34 11 = some (.iload_n 1, 1, 0, 0) := by decide +kernel
theorem p34_11 {l1 s0 : Int} {q0 q2 q3 q4 : MV} {ds : Ds} {m : Mm} {Q : Ds → Mm → List MV → Prop} : WP 34 11 [q0, (0, l1), q2, q3, q4] [(2, s0)] ds m Q = (WP 34 12 [q0, (0, l1), q2, q3, q4] [(0, l1), (2, s0)] ds m Q) := P_nx k34_11 rfl
set_option maxRecDepth 20000 in
theorem k34_12 : mjCode 34 12 = some (.iload_n 2, 1, 0, 0) := by decide +kernel
theorem p34_12 {l2 s0 s1 : Int} {q0 q1 q3 q4 : MV} {ds : Ds} {m : Mm} {Q : Ds → Mm → List MV → Prop} : WP 34 12 [q0, q1, (0, l2), q3, q4] [(0, s0), (2, s1)] ds m Q = (WP 34 13 [q0, q1, (0, l2), q3, q4] [(0, l2), (0, s0), (2, s1)] ds m Q) := P_nx k34_12 rfl
set_option maxRecDepth 20000 in
theorem k34_13 : mjCode 34 13 = some (.iastore, 1, 0, 0) := by decide +kernel
theorem p34_13 {s0 s1 s2 : Int} {q0 q1 q2 q3 q4 : MV} {ds : Ds} {m : Mm} {Q : Ds → Mm → List MV → Prop} : WP 34 13 [q0, q1, q2, q3, q4] [(0, s0), (0, s1), (2, s2)] ds m Q = ((dk ds s2 = 10 ∧ 0 ≤ s1 ∧ s1 < dl ds s2 ∧ WP 34 14 [q0, q1, q2, q3, q4] [] ds (up m s2 s1 s0) Q)) := P_s3 k34_13 rfl
set_option maxRecDepth 20000 in
theorem k34_14 : mjCode 34 14 = some (.aload_n 0, 1, 0, 0) := by decide +kernel
theorem p34_14 {l0 : Int} {q1 q2 q3 q4 : MV} {ds : Ds} {m : Mm} {Q : Ds → Mm → List MV → Prop} : WP 34 14 [(2, l0), q1, q2, q3, q4] [] ds m Q = (WP 34 15 [(2, l0), q1, q2, q3, q4] [(2, l0)] ds m Q) := P_nx k34_14 rfl
set_option maxRecDepth 20000 in
theorem k34_15 : mjCode 34 15 = some (.getfield 15, 3, 3, 1) := by decide +kernel
theorem p34_15 {s0 : Int} {q0 q1 q2 q3 q4 : MV} {ds : Ds} {m : Mm} {Q : Ds → Mm → List MV → Prop} : WP 34 15 [q0, q1, q2, q3, q4] [(2, s0)] ds m Q = ((dk ds s0 = 3 ∧ WP 34 18 [q0, q1, q2, q3, q4] [(2, m s0 1)] ds m Q)) := P_gd k34_15 rfl
set_option maxRecDepth 20000 in
theorem k34_18 : mjCode 34 18 = some (.iload_n 1, 1, 0, 0) := by decide +kernel
theorem p34_18 {l1 s0 : Int} {q0 q2 q3 q4 : MV} {ds : Ds} {m : Mm} {Q : Ds → Mm → List MV → Prop} : WP 34 18 [q0, (0, l1), q2, q3, q4] [(2, s0)] ds m Q = (WP 34 19 [q0, (0, l1), q2, q3, q4] [(0, l1), (2, s0)] ds m Q) := P_nx k34_18 rfl
set_option maxRecDepth 20000 in
theorem k34_19 : mjCode 34 19 = some (.iload_n 2, 1, 0, 0) := by decide +kernel
theorem p34_19 {l2 s0 s1 : Int} {q0 q1 q3 q4 : MV} {ds : Ds} {m : Mm} {Q : Ds → Mm → List MV → Prop} : WP 34 19 [q0, q1, (0, l2), q3, q4] [(0, s0), (2, s1)] ds m Q = (WP 34 20 [q0, q1, (0, l2), q3, q4] [(0, l2), (0, s0), (2, s1)] ds m Q) := P_nx k34_19 rfl
set_option maxRecDepth 20000 in
theorem k34_20 : mjCode 34 20 = some (.invokestatic 62, 3, 113, 1) := by decide +kernel
theorem p34_20 {s0 s1 s2 : Int} {q0 q1 q2 q3 q4 : MV} {ds : Ds} {m : Mm} {Q : Ds → Mm → List MV → Prop} : WP 34 20 [q0, q1, q2, q3, q4] [(0, s0), (0, s1), (2, s2)] ds m Q = (WP 112 0 [(0, s0)] [] ds m (fun d2 m2 r2 => WP 34 23 [q0, q1, q2, q3, q4] (r2 ++ [(0, s1), (2, s2)]) d2 m2 Q)) := P_cs k34_20 mx112 rfl rfl rfl rfl rfl rfl rfl
set_option maxRecDepth 20000 in
theorem k34_23 : mjCode 34 23 = some (.ifCond .eq 7, 3, 30, 0) := by decide +kernel
theorem p34_23 {s0 s1 s2 : Int} {q0 q1 q2 q3 q4 : MV} {ds : Ds} {m : Mm} {Q : Ds → Mm → List MV → Prop} : WP 34 23 [q0, q1, q2, q3, q4] [(0, s0), (0, s1), (2, s2)] ds m Q = (if s0 = 0 then WP 34 30 [q0, q1, q2, q3, q4] [(0, s1), (2, s2)] ds m Q else WP 34 26 [q0, q1, q2, q3, q4] [(0, s1), (2, s2)] ds m Q) := P_if k34_23 rfl
set_option maxRecDepth 20000 in
theorem k34_26 : mjCode 34 26 = some (.iload_n 3, 1, 0, 0) := by decide +kernel
theorem p34_26 {l3 s0 s1 : Int} {q0 q1 q2 q4 : MV} {ds : Ds} {m : Mm} {Q : Ds → Mm → List MV → Prop} : WP 34 26 [q0, q1, q2, (0, l3), q4] [(0, s0), (2, s1)] ds m Q = (WP 34 27 [q0, q1, q2, (0, l3), q4] [(0, l3), (0, s0), (2, s1)] ds m Q) := P_nx k34_26 rfl
set_option maxRecDepth 20000 in
theorem k34_27 : mjCode 34 27 = some (.goto 4, 3, 31, 0) := by decide +kernel
theorem p34_27 {s0 s1 s2 : Int} {q0 q1 q2 q3 q4 : MV} {ds : Ds} {m : Mm} {Q : Ds → Mm → List MV → Prop} : WP 34 27 [q0, q1, q2, q3, q4] [(0, s0), (0, s1), (2, s2)] ds m Q = (WP 34 31 [q0, q1, q2, q3, q4] [(0, s0), (0, s1), (2, s2)] ds m Q) := P_nx k34_27 rfl
set_option maxRecDepth 20000 in
theorem k34_30 : mjCode 34 30 = some (.iconst 0, 1, 0, 0) := by decide +kernel
theorem p34_30 {s0 s1 : Int} {q0 q1 q2 q3 q4 : MV} {ds : Ds} {m : Mm} {Q : Ds → Mm → List MV → Prop} : WP 34 30 [q0, q1, q2, q3, q4] [(0, s0), (2, s1)] ds m Q = (WP 34 31 [q0, q1, q2, q3, q4] [(0, 0), (0, s0), (2, s1)] ds m Q) := P_nx k34_30 rfl
set_option maxRecDepth 20000 in
theorem k34_31 : mjCode 34 31 = some (.iastore, 1, 0, 0) := by decide +kernel
theorem p34_31 {s0 s1 s2 : Int} {q0 q1 q2 q3 q4 : MV} {ds : Ds} {m : Mm} {Q : Ds → Mm → List MV → Prop} : WP 34 31 [q0, q1, q2, q3, q4] [(0, s0), (0, s1), (2, s2)] ds m Q = ((dk ds s2 = 10 ∧ 0 ≤ s1 ∧ s1 < dl ds s2 ∧ WP 34 32 [q0, q1, q2, q3, q4] [] ds (up m s2 s1 s0) Q)) := P_s3 k34_31 rfl
set_option maxRecDepth 20000 in
theorem k34_32 : mjCode 34 32 = some (.aload_n 0, 1, 0, 0) := by decide +kernel
theorem p34_32 {l0 : Int} {q1 q2 q3 q4 : MV} {ds : Ds} {m : Mm} {Q : Ds → Mm → List MV → Prop} : WP 34 32 [(2, l0), q1, q2, q3, q4] [] ds m Q = (WP 34 33 [(2, l0), q1, q2, q3, q4] [(2, l0)] ds m Q) := P_nx k34_32 rfl
set_option maxRecDepth 20000 in
theorem k34_33 : mjCode 34 33 = some (.getfield 18, 3, 3, 2) := by decide +kernel
theorem p34_33 {s0 : Int} {q0 q1 q2 q3 q4 : MV} {ds : Ds} {m : Mm} {Q : Ds → Mm → List MV → Prop} : WP 34 33 [q0, q1, q2, q3, q4] [(2, s0)] ds m Q = ((dk ds s0 = 3 ∧ WP 34 36 [q0, q1, q2, q3, q4] [(2, m s0 2)] ds m Q)) := P_gd k34_33 rfl
set_option maxRecDepth 20000 in
theorem k34_36 : mjCode 34 36 = some (.iload_n 1, 1, 0, 0) := by decide +kernel
theorem p34_36 {l1 s0 : Int} {q0 q2 q3 q4 : MV} {ds : Ds} {m : Mm} {Q : Ds → Mm → List MV → Prop} : WP 34 36 [q0, (0, l1), q2, q3, q4] [(2, s0)] ds m Q = (WP 34 37 [q0, (0, l1), q2, q3, q4] [(0, l1), (2, s0)] ds m Q) := P_nx k34_36 rfl
set_option maxRecDepth 20000 in
theorem k34_37 : mjCode 34 37 = some (.iload_n 2, 1, 0, 0) := by decide +kernel
theorem p34_37 {l2 s0 s1 : Int} {q0 q1 q3 q4 : MV} {ds : Ds} {m : Mm} {Q : Ds → Mm → List MV → Prop} : WP 34 37 [q0, q1, (0, l2), q3, q4] [(0, s0), (2, s1)] ds m Q = (WP 34 38 [q0, q1, (0, l2), q3, q4] [(0, l2), (0, s0), (2, s1)] ds m Q) := P_nx k34_37 rfl
set_option maxRecDepth 20000 in
theorem k34_38 : mjCode 34 38 = some (.invokestatic 65, 3, 114, 1) := by decide +kernel
theorem p34_38 {s0 s1 s2 : Int} {q0 q1 q2 q3 q4 : MV} {ds : Ds} {m : Mm} {Q : Ds → Mm → List MV → Prop} : WP 34 38 [q0, q1, q2, q3, q4] [(0, s0), (0, s1), (2, s2)] ds m Q = (WP 113 0 [(0, s0)] [] ds m (fun d2 m2 r2 => WP 34 41 [q0, q1, q2, q3, q4] (r2 ++ [(0, s1), (2, s2)]) d2 m2 Q)) := P_cs k34_38 mx113 rfl rfl rfl rfl rfl rfl rfl
set_option maxRecDepth 20000 in
theorem k34_41 : mjCode 34 41 = some (.ifCond .eq 8, 3, 49, 0) := by decide +kernel
theorem p34_41 {s0 s1 s2 : Int} {q0 q1 q2 q3 q4 : MV} {ds : Ds} {m : Mm} {Q : Ds → Mm → List MV → Prop} : WP 34 41 [q0, q1, q2, q3, q4] [(0, s0), (0, s1), (2, s2)] ds m Q = (if s0 = 0 then WP 34 49 [q0, q1, q2, q3, q4] [(0, s1), (2, s2)] ds m Q else WP 34 44 [q0, q1, q2, q3, q4] [(0, s1), (2, s2)] ds m Q) := P_if k34_41 rfl
set_option maxRecDepth 20000 in
theorem k34_44 : mjCode 34 44 = some (.iload 4, 2, 0, 0) := by decide +kernel
theorem p34_44 {l4 s0 s1 : Int} {q0 q1 q2 q3 : MV} {ds : Ds} {m : Mm} {Q : Ds → Mm → List MV → Prop} : WP 34 44 [q0, q1, q2, q3, (0, l4)] [(0, s0), (2, s1)] ds m Q = (WP 34 46 [q0, q1, q2, q3, (0, l4)] [(0, l4), (0, s0), (2, s1)] ds m Q) := P_nx k34_44 rfl
set_option maxRecDepth 20000 in
theorem k34_46 : mjCode 34 46 = some (.goto 4, 3, 50, 0) := by decide +kernel
theorem p34_46 {s0 s1 s2 : Int} {q0 q1 q2 q3 q4 : MV} {ds : Ds} {m : Mm} {Q : Ds → Mm → List MV → Prop} : WP 34 46 [q0, q1, q2, q3, q4] [(0, s0), (0, s1), (2, s2)] ds m Q = (WP 34 50 [q0, q1, q2, q3, q4] [(0, s0), (0, s1), (2, s2)] ds m Q) := P_nx k34_46 rfl
set_option maxRecDepth 20000 in
theorem k34_49 : mjCode 34 49 = some (.iconst 0, 1, 0, 0) := by decide +kernel
theorem p34_49 {s0 s1 : Int} {q0 q1 q2 q3 q4 : MV} {ds : Ds} {m : Mm} {Q : Ds → Mm → List MV → Prop} : WP 34 49 [q0, q1, q2, q3, q4] [(0, s0), (2, s1)] ds m Q = (WP 34 50 [q0, q1, q2, q3, q4] [(0, 0), (0, s0), (2, s1)] ds m Q) := P_nx k34_49 rfl
set_option maxRecDepth 20000 in
theorem k34_50 : mjCode 34 50 = some (.iastore, 1, 0, 0) := by decide +kernel
theorem p34_50 {s0 s1 s2 : Int} {q0 q1 q2 q3 q4 : MV} {ds : Ds} {m : Mm} {Q : Ds → Mm → List MV → Prop} : WP 34 50 [q0, q1, q2, q3, q4] [(0, s0), (0, s1), (2, s2)] ds m Q = ((dk ds s2 = 10 ∧ 0 ≤ s1 ∧ s1 < dl ds s2 ∧ WP 34 51 [q0, q1, q2, q3, q4] [] ds (up m s2 s1 s0) Q)) := P_s3 k34_50 rfl
set_option maxRecDepth 20000 in
theorem k34_51 : mjCode 34 51 = some (.return_, 1, 0, 0) := by decide +kernel
theorem p34_51 {q0 q1 q2 q3 q4 : MV} {ds : Ds} {m : Mm} {Q : Ds → Mm → List MV → Prop} : WP 34 51 [q0, q1, q2, q3, q4] [] ds m Q = (Q ds m []) := P_rv k34_51 rk34
set_option maxRecDepth 20000 in
theorem k35_0 : mjCode 35 0 = some (.aload_n 0, 1, 0, 0) := by decide +kernel
theorem p35_0 {l0 : Int} {q1 q2 q3 : MV} {ds : Ds} {m : Mm} {Q : Ds → Mm → List MV → Prop} : WP 35 0 [(2, l0), q1, q2, q3] [] ds m Q = (WP 35 1 [(2, l0), q1, q2, q3] [(2, l0)] ds m Q) := P_nx k35_0 rfl
set_option maxRecDepth 20000 in
theorem k35_1 : mjCode 35 1 = some (.iload_n 1, 1, 0, 0) := by decide +kernel
theorem p35_1 {l1 s0 : Int} {q0 q2 q3 : MV} {ds : Ds} {m : Mm} {Q : Ds → Mm → List MV → Prop} : WP 35 1 [q0, (0, l1), q2, q3] [(2, s0)] ds m Q = (WP 35 2 [q0, (0, l1), q2, q3] [(0, l1), (2, s0)] ds m Q) := P_nx k35_1 rfl
set_option maxRecDepth 20000 in
theorem k35_2 : mjCode 35 2 = some (.iconst 3, 1, 0, 0) := by decide +kernel
theorem p35_2 {s0 s1 : Int} {q0 q1 q2 q3 : MV} {ds : Ds} {m : Mm} {Q : Ds → Mm → List MV → Prop} : WP 35 2 [q0, q1, q2, q3] [(0, s0), (2, s1)] ds m Q = (WP 35 3 [q0, q1, q2, q3] [(0, 3), (0, s0), (2, s1)] ds m Q) := P_nx k35_2 rfl
set_option maxRecDepth 20000 in
theorem k35_3 : mjCode 35 3 = some (.iload_n 2, 1, 0, 0) := by decide +kernel
theorem p35_3 {l2 s0 s1 s2 : Int} {q0 q1 q3 : MV} {ds : Ds} {m : Mm} {Q : Ds → Mm → List MV → Prop} : WP 35 3 [q0, q1, (0, l2), q3] [(0, s0), (0, s1), (2, s2)] ds m Q = (WP 35 4 [q0, q1, (0, l2), q3] [(0, l2), (0, s0), (0, s1), (2, s2)] ds m Q) := P_nx k35_3 rfl
set_option maxRecDepth 20000 in
theorem k35_4 : mjCode 35 4 = some (.iconst 0, 1, 0, 0) := by decide +kernel
theorem p35_4 {s0 s1 s2 s3 : Int} {q0 q1 q2 q3 : MV} {ds : Ds} {m : Mm} {Q : Ds → Mm → List MV → Prop} : WP 35 4 [q0, q1, q2, q3] [(0, s0), (0, s1), (0, s2), (2, s3)] ds m Q = (WP 35 5 [q0, q1, q2, q3] [(0, 0), (0, s0), (0, s1), (0, s2), (2, s3)] ds m Q) := P_nx k35_4 rfl
set_option maxRecDepth 20000 in
theorem k35_5 : mjCode 35 5 = some (.invokevirtual 68, 3, 35, 5) := by decide +kernel
theorem p35_5 {s0 s1 s2 s3 s4 : Int} {q0 q1 q2 q3 : MV} {ds : Ds} {m : Mm} {Q : Ds → Mm → List MV → Prop} : WP 35 5 [q0, q1, q2, q3] [(0, s0), (0, s1), (0, s2), (0, s3), (2, s4)] ds m Q = ((dk ds s4 = 3 ∧ WP 34 0 [(2, s4), (0, s3), (0, s2), (0, s1), (0, s0)] [] ds m (fun d2 m2 r2 => WP 35 8 [q0, q1, q2, q3] (r2 ++ []) d2 m2 Q))) := P_cv k35_5 mx34 mo34 rfl rfl rfl rfl rfl rfl rfl rfl
set_option maxRecDepth 20000 in
theorem k35_8 : mjCode 35 8 = some (.iload_n 1, 1, 0, 0) := by decide +kernel
theorem p35_8 {l1 : Int} {q0 q2 q3 : MV} {ds : Ds} {m : Mm} {Q : Ds → Mm → List MV → Prop} : WP 35 8 [q0, (0, l1), q2, q3] [] ds m Q = (WP 35 9 [q0, (0, l1), q2, q3] [(0, l1)] ds m Q) := P_nx k35_8 rfl
set_option maxRecDepth 20000 in
theorem k35_9 : mjCode 35 9 = some (.invokestatic 41, 3, 108, 1) := by decide +kernel
theorem p35_9 {s0 : Int} {q0 q1 q2 q3 : MV} {ds : Ds} {m : Mm} {Q : Ds → Mm → List MV → Prop} : WP 35 9 [q0, q1, q2, q3] [(0, s0)] ds m Q = (WP 107 0 [(0, s0)] [] ds m (fun d2 m2 r2 => WP 35 12 [q0, q1, q2, q3] (r2 ++ []) d2 m2 Q)) := P_cs k35_9 mx107 rfl rfl rfl rfl rfl rfl rfl
set_option maxRecDepth 20000 in
theorem k35_12 : mjCode 35 12 = some (.ifCond .eq 10, 3, 22, 0) := by decide +kernel
theorem p35_12 {s0 : Int} {q0 q1 q2 q3 : MV} {ds : Ds} {m : Mm} {Q : Ds → Mm → List MV → Prop} : WP 35 12 [q0, q1, q2, q3] [(0, s0)] ds m Q = (if s0 = 0 then WP 35 22 [q0, q1, q2, q3] [] ds m Q else WP 35 15 [q0, q1, q2, q3] [] ds m Q) := P_if k35_12 rfl
set_option maxRecDepth 20000 in
theorem k35_15 : mjCode 35 15 = some (.aload_n 0, 1, 0, 0) := by decide +kernel
theorem p35_15 {l0 : Int} {q1 q2 q3 : MV} {ds : Ds} {m : Mm} {Q : Ds → Mm → List MV → Prop} : WP 35 15 [(2, l0), q1, q2, q3] [] ds m Q = (WP 35 16 [(2, l0), q1, q2, q3] [(2, l0)] ds m Q) := P_nx k35_15 rfl
set_option maxRecDepth 20000 in
theorem k35_16 : mjCode 35 16 = some (.getfield 21, 3, 3, 3) := by decide +kernel
theorem p35_16 {s0 : Int} {q0 q1 q2 q3 : MV} {ds : Ds} {m : Mm} {Q : Ds → Mm → List MV → Prop} : WP 35 16 [q0, q1, q2, q3] [(2, s0)] ds m Q = ((dk ds s0 = 3 ∧ WP 35 19 [q0, q1, q2, q3] [(2, m s0 3)] ds m Q)) := P_gd k35_16 rfl
set_option maxRecDepth 20000 in
theorem k35_19 : mjCode 35 19 = some (.iload_n 1, 1, 0, 0) := by decide +kernel
theorem p35_19 {l1 s0 : Int} {q0 q2 q3 : MV} {ds : Ds} {m : Mm} {Q : Ds → Mm → List MV → Prop} : WP 35 19 [q0, (0, l1), q2, q3] [(2, s0)] ds m Q = (WP 35 20 [q0, (0, l1), q2, q3] [(0, l1), (2, s0)] ds m Q) := P_nx k35_19 rfl
set_option maxRecDepth 20000 in
theorem k35_20 : mjCode 35 20 = some (.iload_n 3, 1, 0, 0) := by decide +kernel
theorem p35_20 {l3 s0 s1 : Int} {q0 q1 q2 : MV} {ds : Ds} {m : Mm} {Q : Ds → Mm → List MV → Prop} : WP 35 20 [q0, q1, q2, (0, l3)] [(0, s0), (2, s1)] ds m Q = (WP 35 21 [q0, q1, q2, (0, l3)] [(0, l3), (0, s0), (2, s1)] ds m Q) := P_nx k35_20 rfl
set_option maxRecDepth 20000 in
theorem k35_21 : mjCode 35 21 = some (.iastore, 1, 0, 0) := by decide +kernel
theorem p35_21 {s0 s1 s2 : Int} {q0 q1 q2 q3 : MV} {ds : Ds} {m : Mm} {Q : Ds → Mm → List MV → Prop} : WP 35 21 [q0, q1, q2, q3] [(0, s0), (0, s1), (2, s2)] ds m Q = ((dk ds s2 = 10 ∧ 0 ≤ s1 ∧ s1 < dl ds s2 ∧ WP 35 22 [q0, q1, q2, q3] [] ds (up m s2 s1 s0) Q)) := P_s3 k35_21 rfl
set_option maxRecDepth 20000 in
theorem k35_22 : mjCode 35 22 = some (.return_, 1, 0, 0) := by decide +kernel
theorem p35_22 {q0 q1 q2 q3 : MV} {ds : Ds} {m : Mm} {Q : Ds → Mm → List MV → Prop} : WP 35 22 [q0, q1, q2, q3] [] ds m Q = (Q ds m []) := P_rv k35_22 rk35
set_option maxRecDepth 20000 in
theorem k36_0 : mjCode 36 0 = some (.iload_n 1, 1, 0, 0) := by decide +kernel
theorem p36_0 {l1 : Int} {q0 : MV} {ds : Ds} {m : Mm} {Q : Ds → Mm → List MV → Prop} : WP 36 0 [q0, (0, l1)] [] ds m Q = (WP 36 1 [q0, (0, l1)] [(0, l1)] ds m Q) := P_nx k36_0 rfl
set_option maxRecDepth 20000 in
theorem k36_1 : mjCode 36 1 = some (.invokestatic 41, 3, 108, 1) := by decide +kernel
theorem p36_1 {s0 : Int} {q0 q1 : MV} {ds : Ds} {m : Mm} {Q : Ds → Mm → List MV → Prop} : WP 36 1 [q0, q1] [(0, s0)] ds m Q = (WP 107 0 [(0, s0)] [] ds m (fun d2 m2 r2 => WP 36 4 [q0, q1] (r2 ++ []) d2 m2 Q)) := P_cs k36_1 mx107 rfl rfl rfl rfl rfl rfl rfl
set_option maxRecDepth 20000 in
theorem k36_4 : mjCode 36 4 = some (.ifCond .eq 10, 3, 14, 0) := by decide +kernel
theorem p36_4 {s0 : Int} {q0 q1 : MV} {ds : Ds} {m : Mm} {Q : Ds → Mm → List MV → Prop} : WP 36 4 [q0, q1] [(0, s0)] ds m Q = (if s0 = 0 then WP 36 14 [q0, q1] [] ds m Q else WP 36 7 [q0, q1] [] ds m Q) := P_if k36_4 rfl
set_option maxRecDepth 20000 in
theorem k36_7 : mjCode 36 7 = some (.aload_n 0, 1, 0, 0) := by decide +kernel
theorem p36_7 {l0 : Int} {q1 : MV} {ds : Ds} {m : Mm} {Q : Ds → Mm → List MV → Prop} : WP 36 7 [(2, l0), q1] [] ds m Q = (WP 36 8 [(2, l0), q1] [(2, l0)] ds m Q) := P_nx k36_7 rfl
set_option maxRecDepth 20000 in
theorem k36_8 : mjCode 36 8 = some (.getfield 24, 3, 3, 4) := by decide +kernel
theorem p36_8 {s0 : Int} {q0 q1 : MV} {ds : Ds} {m : Mm} {Q : Ds → Mm → List MV → Prop} : WP 36 8 [q0, q1] [(2, s0)] ds m Q = ((dk ds s0 = 3 ∧ WP 36 11 [q0, q1] [(2, m s0 4)] ds m Q)) := P_gd k36_8 rfl
set_option maxRecDepth 20000 in
theorem k36_11 : mjCode 36 11 = some (.iload_n 1, 1, 0, 0) := by decide +kernel
theorem p36_11 {l1 s0 : Int} {q0 : MV} {ds : Ds} {m : Mm} {Q : Ds → Mm → List MV → Prop} : WP 36 11 [q0, (0, l1)] [(2, s0)] ds m Q = (WP 36 12 [q0, (0, l1)] [(0, l1), (2, s0)] ds m Q) := P_nx k36_11 rfl
set_option maxRecDepth 20000 in
theorem k36_12 : mjCode 36 12 = some (.iconst 1, 1, 0, 0) := by decide +kernel
theorem p36_12 {s0 s1 : Int} {q0 q1 : MV} {ds : Ds} {m : Mm} {Q : Ds → Mm → List MV → Prop} : WP 36 12 [q0, q1] [(0, s0), (2, s1)] ds m Q = (WP 36 13 [q0, q1] [(0, 1), (0, s0), (2, s1)] ds m Q) := P_nx k36_12 rfl
set_option maxRecDepth 20000 in
theorem k36_13 : mjCode 36 13 = some (.bastore, 1, 0, 0) := by decide +kernel
theorem p36_13 {s0 s1 s2 : Int} {q0 q1 : MV} {ds : Ds} {m : Mm} {Q : Ds → Mm → List MV → Prop} : WP 36 13 [q0, q1] [(0, s0), (0, s1), (2, s2)] ds m Q = (((s0 = 0 ∨ s0 = 1) ∧ dk ds s2 = 11 ∧ 0 ≤ s1 ∧ s1 < dl ds s2 ∧ WP 36 14 [q0, q1] [] ds (up m s2 s1 s0) Q)) := P_s4 k36_13 rfl
set_option maxRecDepth 20000 in
theorem k36_14 : mjCode 36 14 = some (.return_, 1, 0, 0) := by decide +kernel
theorem p36_14 {q0 q1 : MV} {ds : Ds} {m : Mm} {Q : Ds → Mm → List MV → Prop} : WP 36 14 [q0, q1] [] ds m Q = (Q ds m []) := P_rv k36_14 rk36
set_option maxRecDepth 20000 in
theorem k37_0 : mjCode 37 0 = some (.iload_n 1, 1, 0, 0) := by decide +kernel
theorem p37_0 {l1 : Int} {q0 : MV} {ds : Ds} {m : Mm} {Q : Ds → Mm → List MV → Prop} : WP 37 0 [q0, (0, l1)] [] ds m Q = (WP 37 1 [q0, (0, l1)] [(0, l1)] ds m Q) := P_nx k37_0 rfl
set_option maxRecDepth 20000 in
theorem k37_1 : mjCode 37 1 = some (.invokestatic 41, 3, 108, 1) := by decide +kernel
theorem p37_1 {s0 : Int} {q0 q1 : MV} {ds : Ds} {m : Mm} {Q : Ds → Mm → List MV → Prop} : WP 37 1 [q0, q1] [(0, s0)] ds m Q = (WP 107 0 [(0, s0)] [] ds m (fun d2 m2 r2 => WP 37 4 [q0, q1] (r2 ++ []) d2 m2 Q)) := P_cs k37_1 mx107 rfl rfl rfl rfl rfl rfl rfl
set_option maxRecDepth 20000 in
theorem k37_4 : mjCode 37 4 = some (.ifCond .eq 18, 3, 22, 0) := by decide +kernel
theorem p37_4 {s0 : Int} {q0 q1 : MV} {ds : Ds} {m : Mm} {Q : Ds → Mm → List MV → Prop} : WP 37 4 [q0, q1] [(0, s0)] ds m Q = (if s0 = 0 then WP 37 22 [q0, q1] [] ds m Q else WP 37 7 [q0, q1] [] ds m Q) := P_if k37_4 rfl
set_option maxRecDepth 20000 in
theorem k37_7 : mjCode 37 7 = some (.aload_n 0, 1, 0, 0) := by decide +kernel
theorem p37_7 {l0 : Int} {q1 : MV} {ds : Ds} {m : Mm} {Q : Ds → Mm → List MV → Prop} : WP 37 7 [(2, l0), q1] [] ds m Q = (WP 37 8 [(2, l0), q1] [(2, l0)] ds m Q) := P_nx k37_7 rfl
set_option maxRecDepth 20000 in
theorem k37_8 : mjCode 37 8 = some (.iload_n 1, 1, 0, 0) := by decide +kernel
theorem p37_8 {l1 s0 : Int} {q0 : MV} {ds : Ds} {m : Mm} {Q : Ds → Mm → List MV → Prop} : WP 37 8 [q0, (0, l1)] [(2, s0)] ds m Q = (WP 37 9 [q0, (0, l1)] [(0, l1), (2, s0)] ds m Q) := P_nx k37_8 rfl
set_option maxRecDepth 20000 in
theorem k37_9 : mjCode 37 9 = some (.iconst 0, 1, 0, 0) := by decide +kernel
theorem p37_9 {s0 s1 : Int} {q0 q1 : MV} {ds : Ds} {m : Mm} {Q : Ds → Mm → List MV → Prop} : WP 37 9 [q0, q1] [(0, s0), (2, s1)] ds m Q = (WP 37 10 [q0, q1] [(0, 0), (0, s0), (2, s1)] ds m Q) := P_nx k37_9 rfl
set_option maxRecDepth 20000 in
theorem k37_10 : mjCode 37 10 = some (.iconst 0, 1, 0, 0) := by decide +kernel
theorem p37_10 {s0 s1 s2 : Int} {q0 q1 : MV} {ds : Ds} {m : Mm} {Q : Ds → Mm → List MV → Prop} : WP 37 10 [q0, q1] [(0, s0), (0, s1), (2, s2)] ds m Q = (WP 37 11 [q0, q1] [(0, 0), (0, s0), (0, s1), (2, s2)] ds m Q) := P_nx k37_10 rfl
set_option maxRecDepth 20000 in
theorem k37_11 : mjCode 37 11 = some (.iconst 0, 1, 0, 0) := by decide +kernel
theorem p37_11 {s0 s1 s2 s3 : Int} {q0 q1 : MV} {ds : Ds} {m : Mm} {Q : Ds → Mm → List MV → Prop} : WP 37 11 [q0, q1] [(0, s0), (0, s1), (0, s2), (2, s3)] ds m Q = (WP 37 12 [q0, q1] [(0, 0), (0, s0), (0, s1), (0, s2), (2, s3)] ds m Q) := P_nx k37_11 rfl
set_option maxRecDepth 20000 in
theorem k37_12 : mjCode 37 12 = some (.invokevirtual 68, 3, 35, 5) := by decide +kernel
theorem p37_12 {s0 s1 s2 s3 s4 : Int} {q0 q1 : MV} {ds : Ds} {m : Mm} {Q : Ds → Mm → List MV → Prop} : WP 37 12 [q0, q1] [(0, s0), (0, s1), (0, s2), (0, s3), (2, s4)] ds m Q = ((dk ds s4 = 3 ∧ WP 34 0 [(2, s4), (0, s3), (0, s2), (0, s1), (0, s0)] [] ds m (fun d2 m2 r2 => WP 37 15 [q0, q1] (r2 ++ []) d2 m2 Q))) := P_cv k37_12 mx34 mo34 rfl rfl rfl rfl rfl rfl rfl rfl
set_option maxRecDepth 20000 in
theorem k37_15 : mjCode 37 15 = some (.aload_n 0, 1, 0, 0) := by decide +kernel
theorem p37_15 {l0 : Int} {q1 : MV} {ds : Ds} {m : Mm} {Q : Ds → Mm → List MV → Prop} : WP 37 15 [(2, l0), q1] [] ds m Q = (WP 37 16 [(2, l0), q1] [(2, l0)] ds m Q) := P_nx k37_15 rfl
set_option maxRecDepth 20000 in
theorem k37_16 : mjCode 37 16 = some (.getfield 24, 3, 3, 4) := by decide +kernel
theorem p37_16 {s0 : Int} {q0 q1 : MV} {ds : Ds} {m : Mm} {Q : Ds → Mm → List MV → Prop} : WP 37 16 [q0, q1] [(2, s0)] ds m Q = ((dk ds s0 = 3 ∧ WP 37 19 [q0, q1] [(2, m s0 4)] ds m Q)) := P_gd k37_16 rfl
set_option maxRecDepth 20000 in
theorem k37_19 : mjCode 37 19 = some (.iload_n 1, 1, 0, 0) := by decide +kernel
theorem p37_19 {l1 s0 : Int} {q0 : MV} {ds : Ds} {m : Mm} {Q : Ds → Mm → List MV → Prop} : WP 37 19 [q0, (0, l1)] [(2, s0)] ds m Q = (WP 37 20 [q0, (0, l1)] [(0, l1), (2, s0)] ds m Q) := P_nx k37_19 rfl
set_option maxRecDepth 20000 in
theorem k37_20 : mjCode 37 20 = some (.iconst 0, 1, 0, 0) := by decide +kernel
theorem p37_20 {s0 s1 : Int} {q0 q1 : MV} {ds : Ds} {m : Mm} {Q : Ds → Mm → List MV → Prop} : WP 37 20 [q0, q1] [(0, s0), (2, s1)] ds m Q = (WP 37 21 [q0, q1] [(0, 0), (0, s0), (2, s1)] ds m Q) := P_nx k37_20 rfl
set_option maxRecDepth 20000 in
theorem k37_21 : mjCode 37 21 = some (.bastore, 1, 0, 0) := by decide +kernel
theorem p37_21 {s0 s1 s2 : Int} {q0 q1 : MV} {ds : Ds} {m : Mm} {Q : Ds → Mm → List MV → Prop} : WP 37 21 [q0, q1] [(0, s0), (0, s1), (2, s2)] ds m Q = (((s0 = 0 ∨ s0 = 1) ∧ dk ds s2 = 11 ∧ 0 ≤ s1 ∧ s1 < dl ds s2 ∧ WP 37 22 [q0, q1] [] ds (up m s2 s1 s0) Q)) := P_s4 k37_21 rfl
set_option maxRecDepth 20000 in
theorem k37_22 : mjCode 37 22 = some (.return_, 1, 0, 0) := by decide +kernel
theorem p37_22 {q0 q1 : MV} {ds : Ds} {m : Mm} {Q : Ds → Mm → List MV → Prop} : WP 37 22 [q0, q1] [] ds m Q = (Q ds m []) := P_rv k37_22 rk37
set_option maxRecDepth 20000 in
theorem k38_0 : mjCode 38 0 = some (.iload_n 1, 1, 0, 0) := by decide +kernel
theorem p38_0 {l1 : Int} {q0 q2 q3 : MV} {ds : Ds} {m : Mm} {Q : Ds → Mm → List MV → Prop} : WP 38 0 [q0, (0, l1), q2, q3] [] ds m Q = (WP 38 1 [q0, (0, l1), q2, q3] [(0, l1)] ds m Q) := P_nx k38_0 rfl
set_option maxRecDepth 20000 in
theorem k38_1 : mjCode 38 1 = some (.invokestatic 41, 3, 108, 1) := by decide +kernel
theorem p38_1 {s0 : Int} {q0 q1 q2 q3 : MV} {ds : Ds} {m : Mm} {Q : Ds → Mm → List MV → Prop} : WP 38 1 [q0, q1, q2, q3] [(0, s0)] ds m Q = (WP 107 0 [(0, s0)] [] ds m (fun d2 m2 r2 => WP 38 4 [q0, q1, q2, q3] (r2 ++ []) d2 m2 Q)) := P_cs k38_1 mx107 rfl rfl rfl rfl rfl rfl rfl
set_option maxRecDepth 20000 in
theorem k38_4 : mjCode 38 4 = some (.ifCond .eq 10, 3, 14, 0) := by decide +kernel
theorem p38_4 {s0 : Int} {q0 q1 q2 q3 : MV} {ds : Ds} {m : Mm} {Q : Ds → Mm → List MV → Prop} : WP 38 4 [q0, q1, q2, q3] [(0, s0)] ds m Q = (if s0 = 0 then WP 38 14 [q0, q1, q2, q3] [] ds m Q else WP 38 7 [q0, q1, q2, q3] [] ds m Q) := P_if k38_4 rfl
set_option maxRecDepth 20000 in
theorem k38_7 : mjCode 38 7 = some (.iload_n 2, 1, 0, 0) := by decide +kernel
theorem p38_7 {l2 : Int} {q0 q1 q3 : MV} {ds : Ds} {m : Mm} {Q : Ds → Mm → List MV → Prop} : WP 38 7 [q0, q1, (0, l2), q3] [] ds m Q = (WP 38 8 [q0, q1, (0, l2), q3] [(0, l2)] ds m Q) := P_nx k38_7 rfl
set_option maxRecDepth 20000 in
theorem k38_8 : mjCode 38 8 = some (.invokestatic 41, 3, 108, 1) := by decide +kernel
theorem p38_8 {s0 : Int} {q0 q1 q2 q3 : MV} {ds : Ds} {m : Mm} {Q : Ds → Mm → List MV → Prop} : WP 38 8 [q0, q1, q2, q3] [(0, s0)] ds m Q = (WP 107 0 [(0, s0)] [] ds m (fun d2 m2 r2 => WP 38 11 [q0, q1, q2, q3] (r2 ++ []) d2 m2 Q)) := P_cs k38_8 mx107 rfl rfl rfl rfl rfl rfl rfl
set_option maxRecDepth 20000 in
theorem k38_11 : mjCode 38 11 = some (.ifCond .ne 4, 3, 15, 0) := by decide +kernel
theorem p38_11 {s0 : Int} {q0 q1 q2 q3 : MV} {ds : Ds} {m : Mm} {Q : Ds → Mm → List MV → Prop} : WP 38 11 [q0, q1, q2, q3] [(0, s0)] ds m Q = (if s0 = 0 then WP 38 14 [q0, q1, q2, q3] [] ds m Q else WP 38 15 [q0, q1, q2, q3] [] ds m Q) := P_if k38_11 rfl
set_option maxRecDepth 20000 in
theorem k38_14 : mjCode 38 14 = some (.return_, 1, 0, 0) := by decide +kernel
theorem p38_14 {q0 q1 q2 q3 : MV} {ds : Ds} {m : Mm} {Q : Ds → Mm → List MV → Prop} : WP 38 14 [q0, q1, q2, q3] [] ds m Q = (Q ds m []) := P_rv k38_14 rk38
set_option maxRecDepth 20000 in
theorem k38_15 : mjCode 38 15 = some (.aload_n 0, 1, 0, 0) := by decide +kernel
theorem p38_15 {l0 : Int} {q1 q2 q3 : MV} {ds : Ds} {m : Mm} {Q : Ds → Mm → List MV → Prop} : WP 38 15 [(2, l0), q1, q2, q3] [] ds m Q = (WP 38 16 [(2, l0), q1, q2, q3] [(2, l0)] ds m Q) := P_nx k38_15 rfl
set_option maxRecDepth 20000 in
theorem k38_16 : mjCode 38 16 = some (.getfield 24, 3, 3, 4) := by decide +kernel
theorem p38_16 {s0 : Int} {q0 q1 q2 q3 : MV} {ds : Ds} {m : Mm} {Q : Ds → Mm → List MV → Prop} : WP 38 16 [q0, q1, q2, q3] [(2, s0)] ds m Q = ((dk ds s0 = 3 ∧ WP 38 19 [q0, q1, q2, q3] [(2, m s0 4)] ds m Q)) := P_gd k38_16 rfl
set_option maxRecDepth 20000 in
theorem k38_19 : mjCode 38 19 = some (.iload_n 1, 1, 0, 0) := by decide +kernel
theorem p38_19 {l1 s0 : Int} {q0 q2 q3 : MV} {ds : Ds} {m : Mm} {Q : Ds → Mm → List MV → Prop} : WP 38 19 [q0, (0, l1), q2, q3] [(2, s0)] ds m Q = (WP 38 20 [q0, (0, l1), q2, q3] [(0, l1), (2, s0)] ds m Q) := P_nx k38_19 rfl
set_option maxRecDepth 20000 in
theorem k38_20 : mjCode 38 20 = some (.baload, 1, 0, 0) := by decide +kernel
theorem p38_20 {s0 s1 : Int} {q0 q1 q2 q3 : MV} {ds : Ds} {m : Mm} {Q : Ds → Mm → List MV → Prop} : WP 38 20 [q0, q1, q2, q3] [(0, s0), (2, s1)] ds m Q = ((dk ds s1 = 11 ∧ 0 ≤ s0 ∧ s0 < dl ds s1 ∧ WP 38 21 [q0, q1, q2, q3] [(0, m s1 s0)] ds m Q)) := P_g3 k38_20 rfl
set_option maxRecDepth 20000 in
theorem k38_21 : mjCode 38 21 = some (.ifCond .eq 18, 3, 39, 0) := by decide +kernel
theorem p38_21 {s0 : Int} {q0 q1 q2 q3 : MV} {ds : Ds} {m : Mm} {Q : Ds → Mm → List MV → Prop} : WP 38 21 [q0, q1, q2, q3] [(0, s0)] ds m Q = (if s0 = 0 then WP 38 39 [q0, q1, q2, q3] [] ds m Q else WP 38 24 [q0, q1, q2, q3] [] ds m Q) := P_if k38_21 rfl
set_option maxRecDepth 20000 in
theorem k38_24 : mjCode 38 24 = some (.aload_n 0, 1, 0, 0) := by decide +kernel
theorem p38_24 {l0 : Int} {q1 q2 q3 : MV} {ds : Ds} {m : Mm} {Q : Ds → Mm → List MV → Prop} : WP 38 24 [(2, l0), q1, q2, q3] [] ds m Q = (WP 38 25 [(2, l0), q1, q2, q3] [(2, l0)] ds m Q) := P_nx k38_24 rfl
set_option maxRecDepth 20000 in
theorem k38_25 : mjCode 38 25 = some (.getfield 24, 3, 3, 4) := by decide +kernel
theorem p38_25 {s0 : Int} {q0 q1 q2 q3 : MV} {ds : Ds} {m : Mm} {Q : Ds → Mm → List MV → Prop} : WP 38 25 [q0, q1, q2, q3] [(2, s0)] ds m Q = ((dk ds s0 = 3 ∧ WP 38 28 [q0, q1, q2, q3] [(2, m s0 4)] ds m Q)) := P_gd k38_25 rfl
set_option maxRecDepth 20000 in
theorem k38_28 : mjCode 38 28 = some (.iload_n 1, 1, 0, 0) := by decide +kernel
theorem p38_28 {l1 s0 : Int} {q0 q2 q3 : MV} {ds : Ds} {m : Mm} {Q : Ds → Mm → List MV → Prop} : WP 38 28 [q0, (0, l1), q2, q3] [(2, s0)] ds m Q = (WP 38 29 [q0, (0, l1), q2, q3] [(0, l1), (2, s0)] ds m Q) := P_nx k38_28 rfl
set_option maxRecDepth 20000 in
theorem k38_29 : mjCode 38 29 = some (.iconst 0, 1, 0, 0) := by decide +kernel
theorem p38_29 {s0 s1 : Int} {q0 q1 q2 q3 : MV} {ds : Ds} {m : Mm} {Q : Ds → Mm → List MV → Prop} : WP 38 29 [q0, q1, q2, q3] [(0, s0), (2, s1)] ds m Q = (WP 38 30 [q0, q1, q2, q3] [(0, 0), (0, s0), (2, s1)] ds m Q) := P_nx k38_29 rfl
set_option maxRecDepth 20000 in
theorem k38_30 : mjCode 38 30 = some (.bastore, 1, 0, 0) := by decide +kernel
theorem p38_30 {s0 s1 s2 : Int} {q0 q1 q2 q3 : MV} {ds : Ds} {m : Mm} {Q : Ds → Mm → List MV → Prop} : WP 38 30 [q0, q1, q2, q3] [(0, s0), (0, s1), (2, s2)] ds m Q = (((s0 = 0 ∨ s0 = 1) ∧ dk ds s2 = 11 ∧ 0 ≤ s1 ∧ s1 < dl ds s2 ∧ WP 38 31 [q0, q1, q2, q3] [] ds (up m s2 s1 s0) Q)) := P_s4 k38_30 rfl
set_option maxRecDepth 20000 in
theorem k38_31 : mjCode 38 31 = some (.aload_n 0, 1, 0, 0) := by decide +kernel
theorem p38_31 {l0 : Int} {q1 q2 q3 : MV} {ds : Ds} {m : Mm} {Q : Ds → Mm → List MV → Prop} : WP 38 31 [(2, l0), q1, q2, q3] [] ds m Q = (WP 38 32 [(2, l0), q1, q2, q3] [(2, l0)] ds m Q) := P_nx k38_31 rfl
set_option maxRecDepth 20000 in
theorem k38_32 : mjCode 38 32 = some (.getfield 24, 3, 3, 4) := by decide +kernel
theorem p38_32 {s0 : Int} {q0 q1 q2 q3 : MV} {ds : Ds} {m : Mm} {Q : Ds → Mm → List MV → Prop} : WP 38 32 [q0, q1, q2, q3] [(2, s0)] ds m Q = ((dk ds s0 = 3 ∧ WP 38 35 [q0, q1, q2, q3] [(2, m s0 4)] ds m Q)) := P_gd k38_32 rfl
set_option maxRecDepth 20000 in
theorem k38_35 : mjCode 38 35 = some (.iload_n 2, 1, 0, 0) := by decide +kernel
theorem p38_35 {l2 s0 : Int} {q0 q1 q3 : MV} {ds : Ds} {m : Mm} {Q : Ds → Mm → List MV → Prop} : WP 38 35 [q0, q1, (0, l2), q3] [(2, s0)] ds m Q = (WP 38 36 [q0, q1, (0, l2), q3] [(0, l2), (2, s0)] ds m Q) := P_nx k38_35 rfl
set_option maxRecDepth 20000 in
theorem k38_36 : mjCode 38 36 = some (.iconst 1, 1, 0, 0) := by decide +kernel
theorem p38_36 {s0 s1 : Int} {q0 q1 q2 q3 : MV} {ds : Ds} {m : Mm} {Q : Ds → Mm → List MV → Prop} : WP 38 36 [q0, q1, q2, q3] [(0, s0), (2, s1)] ds m Q = (WP 38 37 [q0, q1, q2, q3] [(0, 1), (0, s0), (2, s1)] ds m Q) := P_nx k38_36 rfl
set_option maxRecDepth 20000 in
theorem k38_37 : mjCode 38 37 = some (.bastore, 1, 0, 0) := by decide +kernel
theorem p38_37 {s0 s1 s2 : Int} {q0 q1 q2 q3 : MV} {ds : Ds} {m : Mm} {Q : Ds → Mm → List MV → Prop} : WP 38 37 [q0, q1, q2, q3] [(0, s0), (0, s1), (2, s2)] ds m Q = (((s0 = 0 ∨ s0 = 1) ∧ dk ds s2 = 11 ∧ 0 ≤ s1 ∧ s1 < dl ds s2 ∧ WP 38 38 [q0, q1, q2, q3] [] ds (up m s2 s1 s0) Q)) := P_s4 k38_37 rfl
set_option maxRecDepth 20000 in
theorem k38_38 : mjCode 38 38 = some (.return_, 1, 0, 0) := by decide +kernel
theorem p38_38 {q0 q1 q2 q3 : MV} {ds : Ds} {m : Mm} {Q : Ds → Mm → List MV → Prop} : WP 38 38 [q0, q1, q2, q3] [] ds m Q = (Q ds m []) := P_rv k38_38 rk38
set_option maxRecDepth 20000 in
theorem k38_39 : mjCode 38 39 = some (.aload_n 0, 1, 0, 0) := by decide +kernel
theorem p38_39 {l0 : Int} {q1 q2 q3 : MV} {ds : Ds} {m : Mm} {Q : Ds → Mm → List MV → Prop} : WP 38 39 [(2, l0), q1, q2, q3] [] ds m Q = (WP 38 40 [(2, l0), q1, q2, q3] [(2, l0)] ds m Q) := P_nx k38_39 rfl
set_option maxRecDepth 20000 in
theorem k38_40 : mjCode 38 40 = some (.iload_n 1, 1, 0, 0) := by decide +kernel
theorem p38_40 {l1 s0 : Int} {q0 q2 q3 : MV} {ds : Ds} {m : Mm} {Q : Ds → Mm → List MV → Prop} : WP 38 40 [q0, (0, l1), q2, q3] [(2, s0)] ds m Q = (WP 38 41 [q0, (0, l1), q2, q3] [(0, l1), (2, s0)] ds m Q) := P_nx k38_40 rfl
set_option maxRecDepth 20000 in
theorem k38_41 : mjCode 38 41 = some (.invokevirtual 72, 3, 28, 2) := by decide +kernel
theorem p38_41 {s0 s1 : Int} {q0 q1 q2 q3 : MV} {ds : Ds} {m : Mm} {Q : Ds → Mm → List MV → Prop} : WP 38 41 [q0, q1, q2, q3] [(0, s0), (2, s1)] ds m Q = ((dk ds s1 = 3 ∧ WP 27 0 [(2, s1), (0, s0)] [] ds m (fun d2 m2 r2 => WP 38 44 [q0, q1, q2, q3] (r2 ++ []) d2 m2 Q))) := P_cv k38_41 mx27 mo27 rfl rfl rfl rfl rfl rfl rfl rfl
set_option maxRecDepth 20000 in
theorem k38_44 : mjCode 38 44 = some (.istore_n 3, 1, 0, 0) := by decide +kernel
theorem p38_44 {l2 s0 : Int} {q0 q1 q3 : MV} {ds : Ds} {m : Mm} {Q : Ds → Mm → List MV → Prop} : WP 38 44 [q0, q1, (0, l2), q3] [(0, s0)] ds m Q = (WP 38 45 [q0, q1, (0, l2), (0, s0)] [] ds m Q) := P_nx k38_44 rfl
set_option maxRecDepth 20000 in
theorem k38_45 : mjCode 38 45 = some (.aload_n 0, 1, 0, 0) := by decide +kernel
theorem p38_45 {l0 : Int} {q1 q2 q3 : MV} {ds : Ds} {m : Mm} {Q : Ds → Mm → List MV → Prop} : WP 38 45 [(2, l0), q1, q2, q3] [] ds m Q = (WP 38 46 [(2, l0), q1, q2, q3] [(2, l0)] ds m Q) := P_nx k38_45 rfl
set_option maxRecDepth 20000 in
theorem k38_46 : mjCode 38 46 = some (.iload_n 2, 1, 0, 0) := by decide +kernel
theorem p38_46 {l2 s0 : Int} {q0 q1 q3 : MV} {ds : Ds} {m : Mm} {Q : Ds → Mm → List MV → Prop} : WP 38 46 [q0, q1, (0, l2), q3] [(2, s0)] ds m Q = (WP 38 47 [q0, q1, (0, l2), q3] [(0, l2), (2, s0)] ds m Q) := P_nx k38_46 rfl
set_option maxRecDepth 20000 in
theorem k38_47 : mjCode 38 47 = some (.aload_n 0, 1, 0, 0) := by decide +kernel
theorem p38_47 {l0 s0 s1 : Int} {q1 q2 q3 : MV} {ds : Ds} {m : Mm} {Q : Ds → Mm → List MV → Prop} : WP 38 47 [(2, l0), q1, q2, q3] [(0, s0), (2, s1)] ds m Q = (WP 38 48 [(2, l0), q1, q2, q3] [(2, l0), (0, s0), (2, s1)] ds m Q) := P_nx k38_47 rfl
set_option maxRecDepth 20000 in
theorem k38_48 : mjCode 38 48 = some (.getfield 9, 3, 3, 0) := by decide +kernel
theorem p38_48 {s0 s1 s2 : Int} {q0 q1 q2 q3 : MV} {ds : Ds} {m : Mm} {Q : Ds → Mm → List MV → Prop} : WP 38 48 [q0, q1, q2, q3] [(2, s0), (0, s1), (2, s2)] ds m Q = ((dk ds s0 = 3 ∧ WP 38 51 [q0, q1, q2, q3] [(2, m s0 0), (0, s1), (2, s2)] ds m Q)) := P_gd k38_48 rfl
set_option maxRecDepth 20000 in
theorem k38_51 : mjCode 38 51 = some (.iload_n 1, 1, 0, 0) := by decide +kernel
theorem p38_51 {l1 s0 s1 s2 : Int} {q0 q2 q3 : MV} {ds : Ds} {m : Mm} {Q : Ds → Mm → List MV → Prop} : WP 38 51 [q0, (0, l1), q2, q3] [(2, s0), (0, s1), (2, s2)] ds m Q = (WP 38 52 [q0, (0, l1), q2, q3] [(0, l1), (2, s0), (0, s1), (2, s2)] ds m Q) := P_nx k38_51 rfl
set_option maxRecDepth 20000 in
theorem k38_52 : mjCode 38 52 = some (.iaload, 1, 0, 0) := by decide +kernel
theorem p38_52 {s0 s1 s2 s3 : Int} {q0 q1 q2 q3 : MV} {ds : Ds} {m : Mm} {Q : Ds → Mm → List MV → Prop} : WP 38 52 [q0, q1, q2, q3] [(0, s0), (2, s1), (0, s2), (2, s3)] ds m Q = ((dk ds s1 = 10 ∧ 0 ≤ s0 ∧ s0 < dl ds s1 ∧ WP 38 53 [q0, q1, q2, q3] [(0, m s1 s0), (0, s2), (2, s3)] ds m Q)) := P_g3 k38_52 rfl
set_option maxRecDepth 20000 in
theorem k38_53 : mjCode 38 53 = some (.aload_n 0, 1, 0, 0) := by decide +kernel
theorem p38_53 {l0 s0 s1 s2 : Int} {q1 q2 q3 : MV} {ds : Ds} {m : Mm} {Q : Ds → Mm → List MV → Prop} : WP 38 53 [(2, l0), q1, q2, q3] [(0, s0), (0, s1), (2, s2)] ds m Q = (WP 38 54 [(2, l0), q1, q2, q3] [(2, l0), (0, s0), (0, s1), (2, s2)] ds m Q) := P_nx k38_53 rfl
set_option maxRecDepth 20000 in
theorem k38_54 : mjCode 38 54 = some (.getfield 15, 3, 3, 1) := by decide +kernel
theorem p38_54 {s0 s1 s2 s3 : Int} {q0 q1 q2 q3 : MV} {ds : Ds} {m : Mm} {Q : Ds → Mm → List MV → Prop} : WP 38 54 [q0, q1, q2, q3] [(2, s0), (0, s1), (0, s2), (2, s3)] ds m Q = ((dk ds s0 = 3 ∧ WP 38 57 [q0, q1, q2, q3] [(2, m s0 1), (0, s1), (0, s2), (2, s3)] ds m Q)) := P_gd k38_54 rfl
set_option maxRecDepth 20000 in
theorem k38_57 : mjCode 38 57 = some (.iload_n 1, 1, 0, 0) := by decide +kernel
theorem p38_57 {l1 s0 s1 s2 s3 : Int} {q0 q2 q3 : MV} {ds : Ds} {m : Mm} {Q : Ds → Mm → List MV → Prop} : WP 38 57 [q0, (0, l1), q2, q3] [(2, s0), (0, s1), (0, s2), (2, s3)] ds m Q = (WP 38 58 [q0, (0, l1), q2, q3] [(0, l1), (2, s0), (0, s1), (0, s2), (2, s3)] ds m Q) := P_nx k38_57 rfl
set_option maxRecDepth 20000 in
theorem k38_58 : mjCode 38 58 = some (.iaload, 1, 0, 0) := by decide +kernel
theorem p38_58 {s0 s1 s2 s3 s4 : Int} {q0 q1 q2 q3 : MV} {ds : Ds} {m : Mm} {Q : Ds → Mm → List MV → Prop} : WP 38 58 [q0, q1, q2, q3] [(0, s0), (2, s1), (0, s2), (0, s3), (2, s4)] ds m Q = ((dk ds s1 = 10 ∧ 0 ≤ s0 ∧ s0 < dl ds s1 ∧ WP 38 59 [q0, q1, q2, q3] [(0, m s1 s0), (0, s2), (0, s3), (2, s4)] ds m Q)) := P_g3 k38_58 rfl
set_option maxRecDepth 20000 in
theorem k38_59 : mjCode 38 59 = some (.aload_n 0, 1, 0, 0) := by decide +kernel
theorem p38_59 {l0 s0 s1 s2 s3 : Int} {q1 q2 q3 : MV} {ds : Ds} {m : Mm} {Q : Ds → Mm → List MV → Prop} : WP 38 59 [(2, l0), q1, q2, q3] [(0, s0), (0, s1), (0, s2), (2, s3)] ds m Q = (WP 38 60 [(2, l0), q1, q2, q3] [(2, l0), (0, s0), (0, s1), (0, s2), (2, s3)] ds m Q) := P_nx k38_59 rfl
set_option maxRecDepth 20000 in
theorem k38_60 : mjCode 38 60 = some (.getfield 18, 3, 3, 2) := by decide +kernel
theorem p38_60 {s0 s1 s2 s3 s4 : Int} {q0 q1 q2 q3 : MV} {ds : Ds} {m : Mm} {Q : Ds → Mm → List MV → Prop} : WP 38 60 [q0, q1, q2, q3] [(2, s0), (0, s1), (0, s2), (0, s3), (2, s4)] ds m Q = ((dk ds s0 = 3 ∧ WP 38 63 [q0, q1, q2, q3] [(2, m s0 2), (0, s1), (0, s2), (0, s3), (2, s4)] ds m Q)) := P_gd k38_60 rfl
set_option maxRecDepth 20000 in
theorem k38_63 : mjCode 38 63 = some (.iload_n 1, 1, 0, 0) := by decide +kernel
theorem p38_63 {l1 s0 s1 s2 s3 s4 : Int} {q0 q2 q3 : MV} {ds : Ds} {m : Mm} {Q : Ds → Mm → List MV → Prop} : WP 38 63 [q0, (0, l1), q2, q3] [(2, s0), (0, s1), (0, s2), (0, s3), (2, s4)] ds m Q = (WP 38 64 [q0, (0, l1), q2, q3] [(0, l1), (2, s0), (0, s1), (0, s2), (0, s3), (2, s4)] ds m Q) := P_nx k38_63 rfl
set_option maxRecDepth 20000 in
theorem k38_64 : mjCode 38 64 = some (.iaload, 1, 0, 0) := by decide +kernel
theorem p38_64 {s0 s1 s2 s3 s4 s5 : Int} {q0 q1 q2 q3 : MV} {ds : Ds} {m : Mm} {Q : Ds → Mm → List MV → Prop} : WP 38 64 [q0, q1, q2, q3] [(0, s0), (2, s1), (0, s2), (0, s3), (0, s4), (2, s5)] ds m Q = ((dk ds s1 = 10 ∧ 0 ≤ s0 ∧ s0 < dl ds s1 ∧ WP 38 65 [q0, q1, q2, q3] [(0, m s1 s0), (0, s2), (0, s3), (0, s4), (2, s5)] ds m Q)) := P_g3 k38_64 rfl
set_option maxRecDepth 20000 in
theorem k38_65 : mjCode 38 65 = some (.invokevirtual 68, 3, 35, 5) := by decide +kernel
theorem p38_65 {s0 s1 s2 s3 s4 : Int} {q0 q1 q2 q3 : MV} {ds : Ds} {m : Mm} {Q : Ds → Mm → List MV → Prop} : WP 38 65 [q0, q1, q2, q3] [(0, s0), (0, s1), (0, s2), (0, s3), (2, s4)] ds m Q = ((dk ds s4 = 3 ∧ WP 34 0 [(2, s4), (0, s3), (0, s2), (0, s1), (0, s0)] [] ds m (fun d2 m2 r2 => WP 38 68 [q0, q1, q2, q3] (r2 ++ []) d2 m2 Q))) := P_cv k38_65 mx34 mo34 rfl rfl rfl rfl rfl rfl rfl rfl
set_option maxRecDepth 20000 in
theorem k38_68 : mjCode 38 68 = some (.aload_n 0, 1, 0, 0) := by decide +kernel
theorem p38_68 {l0 : Int} {q1 q2 q3 : MV} {ds : Ds} {m : Mm} {Q : Ds → Mm → List MV → Prop} : WP 38 68 [(2, l0), q1, q2, q3] [] ds m Q = (WP 38 69 [(2, l0), q1, q2, q3] [(2, l0)] ds m Q) := P_nx k38_68 rfl
set_option maxRecDepth 20000 in
theorem k38_69 : mjCode 38 69 = some (.getfield 21, 3, 3, 3) := by decide +kernel
theorem p38_69 {s0 : Int} {q0 q1 q2 q3 : MV} {ds : Ds} {m : Mm} {Q : Ds → Mm → List MV → Prop} : WP 38 69 [q0, q1, q2, q3] [(2, s0)] ds m Q = ((dk ds s0 = 3 ∧ WP 38 72 [q0, q1, q2, q3] [(2, m s0 3)] ds m Q)) := P_gd k38_69 rfl
set_option maxRecDepth 20000 in
theorem k38_72 : mjCode 38 72 = some (.iload_n 2, 1, 0, 0) := by decide +kernel
theorem p38_72 {l2 s0 : Int} {q0 q1 q3 : MV} {ds : Ds} {m : Mm} {Q : Ds → Mm → List MV → Prop} : WP 38 72 [q0, q1, (0, l2), q3] [(2, s0)] ds m Q = (WP 38 73 [q0, q1, (0, l2), q3] [(0, l2), (2, s0)] ds m Q) := P_nx k38_72 rfl
set_option maxRecDepth 20000 in
theorem k38_73 : mjCode 38 73 = some (.iload_n 3, 1, 0, 0) := by decide +kernel
theorem p38_73 {l3 s0 s1 : Int} {q0 q1 q2 : MV} {ds : Ds} {m : Mm} {Q : Ds → Mm → List MV → Prop} : WP 38 73 [q0, q1, q2, (0, l3)] [(0, s0), (2, s1)] ds m Q = (WP 38 74 [q0, q1, q2, (0, l3)] [(0, l3), (0, s0), (2, s1)] ds m Q) := P_nx k38_73 rfl
set_option maxRecDepth 20000 in
theorem k38_74 : mjCode 38 74 = some (.iastore, 1, 0, 0) := by decide +kernel
theorem p38_74 {s0 s1 s2 : Int} {q0 q1 q2 q3 : MV} {ds : Ds} {m : Mm} {Q : Ds → Mm → List MV → Prop} : WP 38 74 [q0, q1, q2, q3] [(0, s0), (0, s1), (2, s2)] ds m Q = ((dk ds s2 = 10 ∧ 0 ≤ s1 ∧ s1 < dl ds s2 ∧ WP 38 75 [q0, q1, q2, q3] [] ds (up m s2 s1 s0) Q)) := P_s3 k38_74 rfl
set_option maxRecDepth 20000 in
theorem k38_75 : mjCode 38 75 = some (.iload_n 3, 1, 0, 0) := by decide +kernel
theorem p38_75 {l3 : Int} {q0 q1 q2 : MV} {ds : Ds} {m : Mm} {Q : Ds → Mm → List MV → Prop} : WP 38 75 [q0, q1, q2, (0, l3)] [] ds m Q = (WP 38 76 [q0, q1, q2, (0, l3)] [(0, l3)] ds m Q) := P_nx k38_75 rfl
set_option maxRecDepth 20000 in
theorem k38_76 : mjCode 38 76 = some (.invokestatic 41, 3, 108, 1) := by decide +kernel
theorem p38_76 {s0 : Int} {q0 q1 q2 q3 : MV} {ds : Ds} {m : Mm} {Q : Ds → Mm → List MV → Prop} : WP 38 76 [q0, q1, q2, q3] [(0, s0)] ds m Q = (WP 107 0 [(0, s0)] [] ds m (fun d2 m2 r2 => WP 38 79 [q0, q1, q2, q3] (r2 ++ []) d2 m2 Q)) := P_cs k38_76 mx107 rfl rfl rfl rfl rfl rfl rfl
set_option maxRecDepth 20000 in
theorem k38_79 : mjCode 38 79 = some (.ifCond .eq 10, 3, 89, 0) := by decide +kernel
theorem p38_79 {s0 : Int} {q0 q1 q2 q3 : MV} {ds : Ds} {m : Mm} {Q : Ds → Mm → List MV → Prop} : WP 38 79 [q0, q1, q2, q3] [(0, s0)] ds m Q = (if s0 = 0 then WP 38 89 [q0, q1, q2, q3] [] ds m Q else WP 38 82 [q0, q1, q2, q3] [] ds m Q) := P_if k38_79 rfl
set_option maxRecDepth 20000 in
theorem k38_82 : mjCode 38 82 = some (.aload_n 0, 1, 0, 0) := by decide +kernel
theorem p38_82 {l0 : Int} {q1 q2 q3 : MV} {ds : Ds} {m : Mm} {Q : Ds → Mm → List MV → Prop} : WP 38 82 [(2, l0), q1, q2, q3] [] ds m Q = (WP 38 83 [(2, l0), q1, q2, q3] [(2, l0)] ds m Q) := P_nx k38_82 rfl
set_option maxRecDepth 20000 in
theorem k38_83 : mjCode 38 83 = some (.getfield 21, 3, 3, 3) := by decide +kernel
theorem p38_83 {s0 : Int} {q0 q1 q2 q3 : MV} {ds : Ds} {m : Mm} {Q : Ds → Mm → List MV → Prop} : WP 38 83 [q0, q1, q2, q3] [(2, s0)] ds m Q = ((dk ds s0 = 3 ∧ WP 38 86 [q0, q1, q2, q3] [(2, m s0 3)] ds m Q)) := P_gd k38_83 rfl
set_option maxRecDepth 20000 in
theorem k38_86 : mjCode 38 86 = some (.iload_n 3, 1, 0, 0) := by decide +kernel
theorem p38_86 {l3 s0 : Int} {q0 q1 q2 : MV} {ds : Ds} {m : Mm} {Q : Ds → Mm → List MV → Prop} : WP 38 86 [q0, q1, q2, (0, l3)] [(2, s0)] ds m Q = (WP 38 87 [q0, q1, q2, (0, l3)] [(0, l3), (2, s0)] ds m Q) := P_nx k38_86 rfl
set_option maxRecDepth 20000 in
theorem k38_87 : mjCode 38 87 = some (.iload_n 2, 1, 0, 0) := by decide +kernel
theorem p38_87 {l2 s0 s1 : Int} {q0 q1 q3 : MV} {ds : Ds} {m : Mm} {Q : Ds → Mm → List MV → Prop} : WP 38 87 [q0, q1, (0, l2), q3] [(0, s0), (2, s1)] ds m Q = (WP 38 88 [q0, q1, (0, l2), q3] [(0, l2), (0, s0), (2, s1)] ds m Q) := P_nx k38_87 rfl
set_option maxRecDepth 20000 in
theorem k38_88 : mjCode 38 88 = some (.iastore, 1, 0, 0) := by decide +kernel
theorem p38_88 {s0 s1 s2 : Int} {q0 q1 q2 q3 : MV} {ds : Ds} {m : Mm} {Q : Ds → Mm → List MV → Prop} : WP 38 88 [q0, q1, q2, q3] [(0, s0), (0, s1), (2, s2)] ds m Q = ((dk ds s2 = 10 ∧ 0 ≤ s1 ∧ s1 < dl ds s2 ∧ WP 38 89 [q0, q1, q2, q3] [] ds (up m s2 s1 s0) Q)) := P_s3 k38_88 rfl
set_option maxRecDepth 20000 in
theorem k38_89 : mjCode 38 89 = some (.aload_n 0, 1, 0, 0) := by decide +kernel
theorem p38_89 {l0 : Int} {q1 q2 q3 : MV} {ds : Ds} {m : Mm} {Q : Ds → Mm → List MV → Prop} : WP 38 89 [(2, l0), q1, q2, q3] [] ds m Q = (WP 38 90 [(2, l0), q1, q2, q3] [(2, l0)] ds m Q) := P_nx k38_89 rfl
set_option maxRecDepth 20000 in
theorem k38_90 : mjCode 38 90 = some (.iload_n 1, 1, 0, 0) := by decide +kernel
theorem p38_90 {l1 s0 : Int} {q0 q2 q3 : MV} {ds : Ds} {m : Mm} {Q : Ds → Mm → List MV → Prop} : WP 38 90 [q0, (0, l1), q2, q3] [(2, s0)] ds m Q = (WP 38 91 [q0, (0, l1), q2, q3] [(0, l1), (2, s0)] ds m Q) := P_nx k38_90 rfl
set_option maxRecDepth 20000 in
theorem k38_91 : mjCode 38 91 = some (.invokevirtual 75, 3, 38, 2) := by decide +kernel
theorem p38_91 {s0 s1 : Int} {q0 q1 q2 q3 : MV} {ds : Ds} {m : Mm} {Q : Ds → Mm → List MV → Prop} : WP 38 91 [q0, q1, q2, q3] [(0, s0), (2, s1)] ds m Q = ((dk ds s1 = 3 ∧ WP 37 0 [(2, s1), (0, s0)] [] ds m (fun d2 m2 r2 => WP 38 94 [q0, q1, q2, q3] (r2 ++ []) d2 m2 Q))) := P_cv k38_91 mx37 mo37 rfl rfl rfl rfl rfl rfl rfl rfl
set_option maxRecDepth 20000 in
theorem k38_94 : mjCode 38 94 = some (.return_, 1, 0, 0) := by decide +kernel
theorem p38_94 {q0 q1 q2 q3 : MV} {ds : Ds} {m : Mm} {Q : Ds → Mm → List MV → Prop} : WP 38 94 [q0, q1, q2, q3] [] ds m Q = (Q ds m []) := P_rv k38_94 rk38
set_option maxRecDepth 20000 in
theorem k39_0 : mjCode 39 0 = some (.aload_n 0, 1, 0, 0) := by decide +kernel
theorem p39_0 {l0 : Int} {q1 q2 q3 : MV} {ds : Ds} {m : Mm} {Q : Ds → Mm → List MV → Prop} : WP 39 0 [(2, l0), q1, q2, q3] [] ds m Q = (WP 39 1 [(2, l0), q1, q2, q3] [(2, l0)] ds m Q) := P_nx k39_0 rfl
set_option maxRecDepth 20000 in
theorem k39_1 : mjCode 39 1 = some (.getfield 37, 3, 3, 8) := by decide +kernel
theorem p39_1 {s0 : Int} {q0 q1 q2 q3 : MV} {ds : Ds} {m : Mm} {Q : Ds → Mm → List MV → Prop} : WP 39 1 [q0, q1, q2, q3] [(2, s0)] ds m Q = ((dk ds s0 = 3 ∧ WP 39 4 [q0, q1, q2, q3] [(0, m s0 8)] ds m Q)) := P_gd k39_1 rfl
set_option maxRecDepth 20000 in
theorem k39_4 : mjCode 39 4 = some (.ifCond .lt 11, 3, 15, 0) := by decide +kernel
theorem p39_4 {s0 : Int} {q0 q1 q2 q3 : MV} {ds : Ds} {m : Mm} {Q : Ds → Mm → List MV → Prop} : WP 39 4 [q0, q1, q2, q3] [(0, s0)] ds m Q = (if s0 < 0 then WP 39 15 [q0, q1, q2, q3] [] ds m Q else WP 39 7 [q0, q1, q2, q3] [] ds m Q) := P_if k39_4 rfl
set_option maxRecDepth 20000 in
theorem k39_7 : mjCode 39 7 = some (.aload_n 0, 1, 0, 0) := by decide +kernel
theorem p39_7 {l0 : Int} {q1 q2 q3 : MV} {ds : Ds} {m : Mm} {Q : Ds → Mm → List MV → Prop} : WP 39 7 [(2, l0), q1, q2, q3] [] ds m Q = (WP 39 8 [(2, l0), q1, q2, q3] [(2, l0)] ds m Q) := P_nx k39_7 rfl
set_option maxRecDepth 20000 in
theorem k39_8 : mjCode 39 8 = some (.getfield 37, 3, 3, 8) := by decide +kernel
theorem p39_8 {s0 : Int} {q0 q1 q2 q3 : MV} {ds : Ds} {m : Mm} {Q : Ds → Mm → List MV → Prop} : WP 39 8 [q0, q1, q2, q3] [(2, s0)] ds m Q = ((dk ds s0 = 3 ∧ WP 39 11 [q0, q1, q2, q3] [(0, m s0 8)] ds m Q)) := P_gd k39_8 rfl
set_option maxRecDepth 20000 in
theorem k39_11 : mjCode 39 11 = some (.iconst 4, 1, 0, 0) := by decide +kernel
theorem p39_11 {s0 : Int} {q0 q1 q2 q3 : MV} {ds : Ds} {m : Mm} {Q : Ds → Mm → List MV → Prop} : WP 39 11 [q0, q1, q2, q3] [(0, s0)] ds m Q = (WP 39 12 [q0, q1, q2, q3] [(0, 4), (0, s0)] ds m Q) := P_nx k39_11 rfl
set_option maxRecDepth 20000 in
theorem k39_12 : mjCode 39 12 = some (.if_icmp .lt 5, 3, 17, 0) := by decide +kernel
theorem p39_12 {s0 s1 : Int} {q0 q1 q2 q3 : MV} {ds : Ds} {m : Mm} {Q : Ds → Mm → List MV → Prop} : WP 39 12 [q0, q1, q2, q3] [(0, s0), (0, s1)] ds m Q = (if s1 < s0 then WP 39 17 [q0, q1, q2, q3] [] ds m Q else WP 39 15 [q0, q1, q2, q3] [] ds m Q) := P_if k39_12 rfl
set_option maxRecDepth 20000 in
theorem k39_15 : mjCode 39 15 = some (.iconst 0, 1, 0, 0) := by decide +kernel
theorem p39_15 {q0 q1 q2 q3 : MV} {ds : Ds} {m : Mm} {Q : Ds → Mm → List MV → Prop} : WP 39 15 [q0, q1, q2, q3] [] ds m Q = (WP 39 16 [q0, q1, q2, q3] [(0, 0)] ds m Q) := P_nx k39_15 rfl
set_option maxRecDepth 20000 in
theorem k39_16 : mjCode 39 16 = some (.ireturn, 1, 0, 0) := by decide +kernel
theorem p39_16 {s0 : Int} {q0 q1 q2 q3 : MV} {ds : Ds} {m : Mm} {Q : Ds → Mm → List MV → Prop} : WP 39 16 [q0, q1, q2, q3] [(0, s0)] ds m Q = (((s0 = 0 ∨ s0 = 1) ∧ Q ds m [(0, s0)])) := P_rb k39_16 rk39
set_option maxRecDepth 20000 in
theorem k39_17 : mjCode 39 17 = some (.aload_n 0, 1, 0, 0) := by decide +kernel
theorem p39_17 {l0 : Int} {q1 q2 q3 : MV} {ds : Ds} {m : Mm} {Q : Ds → Mm → List MV → Prop} : WP 39 17 [(2, l0), q1, q2, q3] [] ds m Q = (WP 39 18 [(2, l0), q1, q2, q3] [(2, l0)] ds m Q) := P_nx k39_17 rfl
set_option maxRecDepth 20000 in
theorem k39_18 : mjCode 39 18 = some (.getfield 28, 3, 3, 5) := by decide +kernel
theorem p39_18 {s0 : Int} {q0 q1 q2 q3 : MV} {ds : Ds} {m : Mm} {Q : Ds → Mm → List MV → Prop} : WP 39 18 [q0, q1, q2, q3] [(2, s0)] ds m Q = ((dk ds s0 = 3 ∧ WP 39 21 [q0, q1, q2, q3] [(2, m s0 5)] ds m Q)) := P_gd k39_18 rfl
set_option maxRecDepth 20000 in
theorem k39_21 : mjCode 39 21 = some (.aload_n 0, 1, 0, 0) := by decide +kernel
theorem p39_21 {l0 s0 : Int} {q1 q2 q3 : MV} {ds : Ds} {m : Mm} {Q : Ds → Mm → List MV → Prop} : WP 39 21 [(2, l0), q1, q2, q3] [(2, s0)] ds m Q = (WP 39 22 [(2, l0), q1, q2, q3] [(2, l0), (2, s0)] ds m Q) := P_nx k39_21 rfl
set_option maxRecDepth 20000 in
theorem k39_22 : mjCode 39 22 = some (.getfield 37, 3, 3, 8) := by decide +kernel
theorem p39_22 {s0 s1 : Int} {q0 q1 q2 q3 : MV} {ds : Ds} {m : Mm} {Q : Ds → Mm → List MV → Prop} : WP 39 22 [q0, q1, q2, q3] [(2, s0), (2, s1)] ds m Q = ((dk ds s0 = 3 ∧ WP 39 25 [q0, q1, q2, q3] [(0, m s0 8), (2, s1)] ds m Q)) := P_gd k39_22 rfl
set_option maxRecDepth 20000 in
theorem k39_25 : mjCode 39 25 = some (.iload_n 1, 1, 0, 0) := by decide +kernel
theorem p39_25 {l1 s0 s1 : Int} {q0 q2 q3 : MV} {ds : Ds} {m : Mm} {Q : Ds → Mm → List MV → Prop} : WP 39 25 [q0, (0, l1), q2, q3] [(0, s0), (2, s1)] ds m Q = (WP 39 26 [q0, (0, l1), q2, q3] [(0, l1), (0, s0), (2, s1)] ds m Q) := P_nx k39_25 rfl
set_option maxRecDepth 20000 in
theorem k39_26 : mjCode 39 26 = some (.iastore, 1, 0, 0) := by decide +kernel
theorem p39_26 {s0 s1 s2 : Int} {q0 q1 q2 q3 : MV} {ds : Ds} {m : Mm} {Q : Ds → Mm → List MV → Prop} : WP 39 26 [q0, q1, q2, q3] [(0, s0), (0, s1), (2, s2)] ds m Q = ((dk ds s2 = 10 ∧ 0 ≤ s1 ∧ s1 < dl ds s2 ∧ WP 39 27 [q0, q1, q2, q3] [] ds (up m s2 s1 s0) Q)) := P_s3 k39_26 rfl
set_option maxRecDepth 20000 in
theorem k39_27 : mjCode 39 27 = some (.aload_n 0, 1, 0, 0) := by decide +kernel
theorem p39_27 {l0 : Int} {q1 q2 q3 : MV} {ds : Ds} {m : Mm} {Q : Ds → Mm → List MV → Prop} : WP 39 27 [(2, l0), q1, q2, q3] [] ds m Q = (WP 39 28 [(2, l0), q1, q2, q3] [(2, l0)] ds m Q) := P_nx k39_27 rfl
set_option maxRecDepth 20000 in
theorem k39_28 : mjCode 39 28 = some (.getfield 31, 3, 3, 6) := by decide +kernel
theorem p39_28 {s0 : Int} {q0 q1 q2 q3 : MV} {ds : Ds} {m : Mm} {Q : Ds → Mm → List MV → Prop} : WP 39 28 [q0, q1, q2, q3] [(2, s0)] ds m Q = ((dk ds s0 = 3 ∧ WP 39 31 [q0, q1, q2, q3] [(2, m s0 6)] ds m Q)) := P_gd k39_28 rfl
set_option maxRecDepth 20000 in
theorem k39_31 : mjCode 39 31 = some (.aload_n 0, 1, 0, 0) := by decide +kernel
theorem p39_31 {l0 s0 : Int} {q1 q2 q3 : MV} {ds : Ds} {m : Mm} {Q : Ds → Mm → List MV → Prop} : WP 39 31 [(2, l0), q1, q2, q3] [(2, s0)] ds m Q = (WP 39 32 [(2, l0), q1, q2, q3] [(2, l0), (2, s0)] ds m Q) := P_nx k39_31 rfl
set_option maxRecDepth 20000 in
theorem k39_32 : mjCode 39 32 = some (.getfield 37, 3, 3, 8) := by decide +kernel
theorem p39_32 {s0 s1 : Int} {q0 q1 q2 q3 : MV} {ds : Ds} {m : Mm} {Q : Ds → Mm → List MV → Prop} : WP 39 32 [q0, q1, q2, q3] [(2, s0), (2, s1)] ds m Q = ((dk ds s0 = 3 ∧ WP 39 35 [q0, q1, q2, q3] [(0, m s0 8), (2, s1)] ds m Q)) := P_gd k39_32 rfl
set_option maxRecDepth 20000 in
theorem k39_35 : mjCode 39 35 = some (.iload_n 2, 1, 0, 0) := by decide +kernel
theorem p39_35 {l2 s0 s1 : Int} {q0 q1 q3 : MV} {ds : Ds} {m : Mm} {Q : Ds → Mm → List MV → Prop} : WP 39 35 [q0, q1, (0, l2), q3] [(0, s0), (2, s1)] ds m Q = (WP 39 36 [q0, q1, (0, l2), q3] [(0, l2), (0, s0), (2, s1)] ds m Q) := P_nx k39_35 rfl
set_option maxRecDepth 20000 in
theorem k39_36 : mjCode 39 36 = some (.iastore, 1, 0, 0) := by decide +kernel
theorem p39_36 {s0 s1 s2 : Int} {q0 q1 q2 q3 : MV} {ds : Ds} {m : Mm} {Q : Ds → Mm → List MV → Prop} : WP 39 36 [q0, q1, q2, q3] [(0, s0), (0, s1), (2, s2)] ds m Q = ((dk ds s2 = 10 ∧ 0 ≤ s1 ∧ s1 < dl ds s2 ∧ WP 39 37 [q0, q1, q2, q3] [] ds (up m s2 s1 s0) Q)) := P_s3 k39_36 rfl
set_option maxRecDepth 20000 in
theorem k39_37 : mjCode 39 37 = some (.aload_n 0, 1, 0, 0) := by decide +kernel
theorem p39_37 {l0 : Int} {q1 q2 q3 : MV} {ds : Ds} {m : Mm} {Q : Ds → Mm → List MV → Prop} : WP 39 37 [(2, l0), q1, q2, q3] [] ds m Q = (WP 39 38 [(2, l0), q1, q2, q3] [(2, l0)] ds m Q) := P_nx k39_37 rfl
set_option maxRecDepth 20000 in
theorem k39_38 : mjCode 39 38 = some (.getfield 34, 3, 3, 7) := by decide +kernel
theorem p39_38 {s0 : Int} {q0 q1 q2 q3 : MV} {ds : Ds} {m : Mm} {Q : Ds → Mm → List MV → Prop} : WP 39 38 [q0, q1, q2, q3] [(2, s0)] ds m Q = ((dk ds s0 = 3 ∧ WP 39 41 [q0, q1, q2, q3] [(2, m s0 7)] ds m Q)) := P_gd k39_38 rfl
set_option maxRecDepth 20000 in
theorem k39_41 : mjCode 39 41 = some (.aload_n 0, 1, 0, 0) := by decide +kernel
theorem p39_41 {l0 s0 : Int} {q1 q2 q3 : MV} {ds : Ds} {m : Mm} {Q : Ds → Mm → List MV → Prop} : WP 39 41 [(2, l0), q1, q2, q3] [(2, s0)] ds m Q = (WP 39 42 [(2, l0), q1, q2, q3] [(2, l0), (2, s0)] ds m Q) := P_nx k39_41 rfl
set_option maxRecDepth 20000 in
theorem k39_42 : mjCode 39 42 = some (.getfield 37, 3, 3, 8) := by decide +kernel
theorem p39_42 {s0 s1 : Int} {q0 q1 q2 q3 : MV} {ds : Ds} {m : Mm} {Q : Ds → Mm → List MV → Prop} : WP 39 42 [q0, q1, q2, q3] [(2, s0), (2, s1)] ds m Q = ((dk ds s0 = 3 ∧ WP 39 45 [q0, q1, q2, q3] [(0, m s0 8), (2, s1)] ds m Q)) := P_gd k39_42 rfl
set_option maxRecDepth 20000 in
theorem k39_45 : mjCode 39 45 = some (.iload_n 3, 1, 0, 0) := by decide +kernel
theorem p39_45 {l3 s0 s1 : Int} {q0 q1 q2 : MV} {ds : Ds} {m : Mm} {Q : Ds → Mm → List MV → Prop} : WP 39 45 [q0, q1, q2, (0, l3)] [(0, s0), (2, s1)] ds m Q = (WP 39 46 [q0, q1, q2, (0, l3)] [(0, l3), (0, s0), (2, s1)] ds m Q) := P_nx k39_45 rfl
set_option maxRecDepth 20000 in
theorem k39_46 : mjCode 39 46 = some (.iastore, 1, 0, 0) := by decide +kernel
theorem p39_46 {s0 s1 s2 : Int} {q0 q1 q2 q3 : MV} {ds : Ds} {m : Mm} {Q : Ds → Mm → List MV → Prop} : WP 39 46 [q0, q1, q2, q3] [(0, s0), (0, s1), (2, s2)] ds m Q = ((dk ds s2 = 10 ∧ 0 ≤ s1 ∧ s1 < dl ds s2 ∧ WP 39 47 [q0, q1, q2, q3] [] ds (up m s2 s1 s0) Q)) := P_s3 k39_46 rfl
set_option maxRecDepth 20000 in
theorem k39_47 : mjCode 39 47 = some (.aload_n 0, 1, 0, 0) := by decide +kernel
theorem p39_47 {l0 : Int} {q1 q2 q3 : MV} {ds : Ds} {m : Mm} {Q : Ds → Mm → List MV → Prop} : WP 39 47 [(2, l0), q1, q2, q3] [] ds m Q = (WP 39 48 [(2, l0), q1, q2, q3] [(2, l0)] ds m Q) := P_nx k39_47 rfl
set_option maxRecDepth 20000 in
theorem k39_48 : mjCode 39 48 = some (.dup, 1, 0, 0) := by decide +kernel
theorem p39_48 {s0 : Int} {q0 q1 q2 q3 : MV} {ds : Ds} {m : Mm} {Q : Ds → Mm → List MV → Prop} : WP 39 48 [q0, q1, q2, q3] [(2, s0)] ds m Q = (WP 39 49 [q0, q1, q2, q3] [(2, s0), (2, s0)] ds m Q) := P_nx k39_48 rfl
set_option maxRecDepth 20000 in
theorem k39_49 : mjCode 39 49 = some (.getfield 37, 3, 3, 8) := by decide +kernel
theorem p39_49 {s0 s1 : Int} {q0 q1 q2 q3 : MV} {ds : Ds} {m : Mm} {Q : Ds → Mm → List MV → Prop} : WP 39 49 [q0, q1, q2, q3] [(2, s0), (2, s1)] ds m Q = ((dk ds s0 = 3 ∧ WP 39 52 [q0, q1, q2, q3] [(0, m s0 8), (2, s1)] ds m Q)) := P_gd k39_49 rfl
set_option maxRecDepth 20000 in
theorem k39_52 : mjCode 39 52 = some (.iconst 1, 1, 0, 0) := by decide +kernel
theorem p39_52 {s0 s1 : Int} {q0 q1 q2 q3 : MV} {ds : Ds} {m : Mm} {Q : Ds → Mm → List MV → Prop} : WP 39 52 [q0, q1, q2, q3] [(0, s0), (2, s1)] ds m Q = (WP 39 53 [q0, q1, q2, q3] [(0, 1), (0, s0), (2, s1)] ds m Q) := P_nx k39_52 rfl
set_option maxRecDepth 20000 in
theorem k39_53 : mjCode 39 53 = some (.iadd, 1, 0, 0) := by decide +kernel
theorem p39_53 {s0 s1 s2 : Int} {q0 q1 q2 q3 : MV} {ds : Ds} {m : Mm} {Q : Ds → Mm → List MV → Prop} : WP 39 53 [q0, q1, q2, q3] [(0, s0), (0, s1), (2, s2)] ds m Q = (WP 39 54 [q0, q1, q2, q3] [(0, w32 (s1 + s0)), (2, s2)] ds m Q) := P_nx k39_53 rfl
set_option maxRecDepth 20000 in
theorem k39_54 : mjCode 39 54 = some (.putfield 37, 3, 3, 8) := by decide +kernel
theorem p39_54 {s0 s1 : Int} {q0 q1 q2 q3 : MV} {ds : Ds} {m : Mm} {Q : Ds → Mm → List MV → Prop} : WP 39 54 [q0, q1, q2, q3] [(0, s0), (2, s1)] ds m Q = ((dk ds s1 = 3 ∧ WP 39 57 [q0, q1, q2, q3] [] ds (up m s1 8 s0) Q)) := P_pf k39_54 rfl
set_option maxRecDepth 20000 in
theorem k39_57 : mjCode 39 57 = some (.iconst 1, 1, 0, 0) := by decide +kernel
theorem p39_57 {q0 q1 q2 q3 : MV} {ds : Ds} {m : Mm} {Q : Ds → Mm → List MV → Prop} : WP 39 57 [q0, q1, q2, q3] [] ds m Q = (WP 39 58 [q0, q1, q2, q3] [(0, 1)] ds m Q) := P_nx k39_57 rfl
set_option maxRecDepth 20000 in
theorem k39_58 : mjCode 39 58 = some (.ireturn, 1, 0, 0) := by decide +kernel
theorem p39_58 {s0 : Int} {q0 q1 q2 q3 : MV} {ds : Ds} {m : Mm} {Q : Ds → Mm → List MV → Prop} : WP 39 58 [q0, q1, q2, q3] [(0, s0)] ds m Q = (((s0 = 0 ∨ s0 = 1) ∧ Q ds m [(0, s0)])) := P_rb k39_58 rk39
set_option maxRecDepth 20000 in
theorem k40_0 : mjCode 40 0 = some (.iconst 0, 1, 0, 0) := by decide +kernel
theorem p40_0 {q0 q1 q2 : MV} {ds : Ds} {m : Mm} {Q : Ds → Mm → List MV → Prop} : WP 40 0 [q0, q1, q2] [] ds m Q = (WP 40 1 [q0, q1, q2] [(0, 0)] ds m Q) := P_nx k40_0 rfl
set_option maxRecDepth 20000 in
theorem k40_1 : mjCode 40 1 = some (.istore_n 1, 1, 0, 0) := by decide +kernel
theorem p40_1 {l0 s0 : Int} {q1 q2 : MV} {ds : Ds} {m : Mm} {Q : Ds → Mm → List MV → Prop} : WP 40 1 [(2, l0), q1, q2] [(0, s0)] ds m Q = (WP 40 2 [(2, l0), (0, s0), q2] [] ds m Q) := P_nx k40_1 rfl
set_option maxRecDepth 20000 in
theorem k40_2 : mjCode 40 2 = some (.iconst 0, 1, 0, 0) := by decide +kernel
theorem p40_2 {q0 q1 q2 : MV} {ds : Ds} {m : Mm} {Q : Ds → Mm → List MV → Prop} : WP 40 2 [q0, q1, q2] [] ds m Q = (WP 40 3 [q0, q1, q2] [(0, 0)] ds m Q) := P_nx k40_2 rfl
set_option maxRecDepth 20000 in
theorem k40_3 : mjCode 40 3 = some (.istore_n 2, 1, 0, 0) := by decide +kernel
theorem p40_3 {l1 s0 : Int} {q0 q2 : MV} {ds : Ds} {m : Mm} {Q : Ds → Mm → List MV → Prop} : WP 40 3 [q0, (0, l1), q2] [(0, s0)] ds m Q = (WP 40 4 [q0, (0, l1), (0, s0)] [] ds m Q) := P_nx k40_3 rfl
set_option maxRecDepth 20000 in
theorem k40_4 : mjCode 40 4 = some (.iload_n 2, 1, 0, 0) := by decide +kernel
theorem p40_4 {l2 : Int} {q0 q1 : MV} {ds : Ds} {m : Mm} {Q : Ds → Mm → List MV → Prop} : WP 40 4 [q0, q1, (0, l2)] [] ds m Q = (WP 40 5 [q0, q1, (0, l2)] [(0, l2)] ds m Q) := P_nx k40_4 rfl
set_option maxRecDepth 20000 in
theorem k40_5 : mjCode 40 5 = some (.bipush 96, 2, 0, 0) := by decide +kernel
theorem p40_5 {s0 : Int} {q0 q1 q2 : MV} {ds : Ds} {m : Mm} {Q : Ds → Mm → List MV → Prop} : WP 40 5 [q0, q1, q2] [(0, s0)] ds m Q = (WP 40 7 [q0, q1, q2] [(0, 96), (0, s0)] ds m Q) := P_nx k40_5 rfl
set_option maxRecDepth 20000 in
theorem k40_7 : mjCode 40 7 = some (.if_icmp .ge 26, 3, 33, 0) := by decide +kernel
theorem p40_7 {s0 s1 : Int} {q0 q1 q2 : MV} {ds : Ds} {m : Mm} {Q : Ds → Mm → List MV → Prop} : WP 40 7 [q0, q1, q2] [(0, s0), (0, s1)] ds m Q = (if s1 < s0 then WP 40 10 [q0, q1, q2] [] ds m Q else WP 40 33 [q0, q1, q2] [] ds m Q) := P_if k40_7 rfl
set_option maxRecDepth 20000 in
theorem k40_10 : mjCode 40 10 = some (.iload_n 1, 1, 0, 0) := by decide +kernel
theorem p40_10 {l1 : Int} {q0 q2 : MV} {ds : Ds} {m : Mm} {Q : Ds → Mm → List MV → Prop} : WP 40 10 [q0, (0, l1), q2] [] ds m Q = (WP 40 11 [q0, (0, l1), q2] [(0, l1)] ds m Q) := P_nx k40_10 rfl
set_option maxRecDepth 20000 in
theorem k40_11 : mjCode 40 11 = some (.aload_n 0, 1, 0, 0) := by decide +kernel
theorem p40_11 {l0 s0 : Int} {q1 q2 : MV} {ds : Ds} {m : Mm} {Q : Ds → Mm → List MV → Prop} : WP 40 11 [(2, l0), q1, q2] [(0, s0)] ds m Q = (WP 40 12 [(2, l0), q1, q2] [(2, l0), (0, s0)] ds m Q) := P_nx k40_11 rfl
set_option maxRecDepth 20000 in
theorem k40_12 : mjCode 40 12 = some (.getfield 9, 3, 3, 0) := by decide +kernel
theorem p40_12 {s0 s1 : Int} {q0 q1 q2 : MV} {ds : Ds} {m : Mm} {Q : Ds → Mm → List MV → Prop} : WP 40 12 [q0, q1, q2] [(2, s0), (0, s1)] ds m Q = ((dk ds s0 = 3 ∧ WP 40 15 [q0, q1, q2] [(2, m s0 0), (0, s1)] ds m Q)) := P_gd k40_12 rfl
set_option maxRecDepth 20000 in
theorem k40_15 : mjCode 40 15 = some (.iload_n 2, 1, 0, 0) := by decide +kernel
theorem p40_15 {l2 s0 s1 : Int} {q0 q1 : MV} {ds : Ds} {m : Mm} {Q : Ds → Mm → List MV → Prop} : WP 40 15 [q0, q1, (0, l2)] [(2, s0), (0, s1)] ds m Q = (WP 40 16 [q0, q1, (0, l2)] [(0, l2), (2, s0), (0, s1)] ds m Q) := P_nx k40_15 rfl
set_option maxRecDepth 20000 in
theorem k40_16 : mjCode 40 16 = some (.iaload, 1, 0, 0) := by decide +kernel
theorem p40_16 {s0 s1 s2 : Int} {q0 q1 q2 : MV} {ds : Ds} {m : Mm} {Q : Ds → Mm → List MV → Prop} : WP 40 16 [q0, q1, q2] [(0, s0), (2, s1), (0, s2)] ds m Q = ((dk ds s1 = 10 ∧ 0 ≤ s0 ∧ s0 < dl ds s1 ∧ WP 40 17 [q0, q1, q2] [(0, m s1 s0), (0, s2)] ds m Q)) := P_g3 k40_16 rfl
set_option maxRecDepth 20000 in
theorem k40_17 : mjCode 40 17 = some (.ifCond .eq 7, 3, 24, 0) := by decide +kernel
theorem p40_17 {s0 s1 : Int} {q0 q1 q2 : MV} {ds : Ds} {m : Mm} {Q : Ds → Mm → List MV → Prop} : WP 40 17 [q0, q1, q2] [(0, s0), (0, s1)] ds m Q = (if s0 = 0 then WP 40 24 [q0, q1, q2] [(0, s1)] ds m Q else WP 40 20 [q0, q1, q2] [(0, s1)] ds m Q) := P_if k40_17 rfl
set_option maxRecDepth 20000 in
theorem k40_20 : mjCode 40 20 = some (.iconst 1, 1, 0, 0) := by decide +kernel
theorem p40_20 {s0 : Int} {q0 q1 q2 : MV} {ds : Ds} {m : Mm} {Q : Ds → Mm → List MV → Prop} : WP 40 20 [q0, q1, q2] [(0, s0)] ds m Q = (WP 40 21 [q0, q1, q2] [(0, 1), (0, s0)] ds m Q) := P_nx k40_20 rfl
set_option maxRecDepth 20000 in
theorem k40_21 : mjCode 40 21 = some (.goto 4, 3, 25, 0) := by decide +kernel
theorem p40_21 {s0 s1 : Int} {q0 q1 q2 : MV} {ds : Ds} {m : Mm} {Q : Ds → Mm → List MV → Prop} : WP 40 21 [q0, q1, q2] [(0, s0), (0, s1)] ds m Q = (WP 40 25 [q0, q1, q2] [(0, s0), (0, s1)] ds m Q) := P_nx k40_21 rfl
set_option maxRecDepth 20000 in
theorem k40_24 : mjCode 40 24 = some (.iconst 0, 1, 0, 0) := by decide +kernel
theorem p40_24 {s0 : Int} {q0 q1 q2 : MV} {ds : Ds} {m : Mm} {Q : Ds → Mm → List MV → Prop} : WP 40 24 [q0, q1, q2] [(0, s0)] ds m Q = (WP 40 25 [q0, q1, q2] [(0, 0), (0, s0)] ds m Q) := P_nx k40_24 rfl
set_option maxRecDepth 20000 in
theorem k40_25 : mjCode 40 25 = some (.iadd, 1, 0, 0) := by decide +kernel
theorem p40_25 {s0 s1 : Int} {q0 q1 q2 : MV} {ds : Ds} {m : Mm} {Q : Ds → Mm → List MV → Prop} : WP 40 25 [q0, q1, q2] [(0, s0), (0, s1)] ds m Q = (WP 40 26 [q0, q1, q2] [(0, w32 (s1 + s0))] ds m Q) := P_nx k40_25 rfl
set_option maxRecDepth 20000 in
theorem k40_26 : mjCode 40 26 = some (.istore_n 1, 1, 0, 0) := by decide +kernel
theorem p40_26 {l0 s0 : Int} {q1 q2 : MV} {ds : Ds} {m : Mm} {Q : Ds → Mm → List MV → Prop} : WP 40 26 [(2, l0), q1, q2] [(0, s0)] ds m Q = (WP 40 27 [(2, l0), (0, s0), q2] [] ds m Q) := P_nx k40_26 rfl
set_option maxRecDepth 20000 in
theorem k40_27 : mjCode 40 27 = some (.iinc 2 1, 3, 0, 0) := by decide +kernel
theorem p40_27 {l2 : Int} {q0 q1 : MV} {ds : Ds} {m : Mm} {Q : Ds → Mm → List MV → Prop} : WP 40 27 [q0, q1, (0, l2)] [] ds m Q = (WP 40 30 [q0, q1, (0, w32 (l2 + 1))] [] ds m Q) := P_nx k40_27 rfl
set_option maxRecDepth 20000 in
theorem k40_30 : mjCode 40 30 = some (.goto (-26), 3, 4, 0) := by decide +kernel
theorem p40_30 {q0 q1 q2 : MV} {ds : Ds} {m : Mm} {Q : Ds → Mm → List MV → Prop} : WP 40 30 [q0, q1, q2] [] ds m Q = (WP 40 4 [q0, q1, q2] [] ds m Q) := P_nx k40_30 rfl
set_option maxRecDepth 20000 in
theorem k40_33 : mjCode 40 33 = some (.iload_n 1, 1, 0, 0) := by decide +kernel
theorem p40_33 {l1 : Int} {q0 q2 : MV} {ds : Ds} {m : Mm} {Q : Ds → Mm → List MV → Prop} : WP 40 33 [q0, (0, l1), q2] [] ds m Q = (WP 40 34 [q0, (0, l1), q2] [(0, l1)] ds m Q) := P_nx k40_33 rfl
set_option maxRecDepth 20000 in
theorem k40_34 : mjCode 40 34 = some (.ireturn, 1, 0, 0) := by decide +kernel
theorem p40_34 {s0 : Int} {q0 q1 q2 : MV} {ds : Ds} {m : Mm} {Q : Ds → Mm → List MV → Prop} : WP 40 34 [q0, q1, q2] [(0, s0)] ds m Q = (Q ds m [(0, s0)]) := P_ri k40_34 rk40
set_option maxRecDepth 20000 in
theorem k41_0 : mjCode 41 0 = some (.iconst 0, 1, 0, 0) := by decide +kernel
theorem p41_0 {q0 q1 q2 : MV} {ds : Ds} {m : Mm} {Q : Ds → Mm → List MV → Prop} : WP 41 0 [q0, q1, q2] [] ds m Q = (WP 41 1 [q0, q1, q2] [(0, 0)] ds m Q) := P_nx k41_0 rfl
set_option maxRecDepth 20000 in
theorem k41_1 : mjCode 41 1 = some (.istore_n 1, 1, 0, 0) := by decide +kernel
theorem p41_1 {l0 s0 : Int} {q1 q2 : MV} {ds : Ds} {m : Mm} {Q : Ds → Mm → List MV → Prop} : WP 41 1 [(2, l0), q1, q2] [(0, s0)] ds m Q = (WP 41 2 [(2, l0), (0, s0), q2] [] ds m Q) := P_nx k41_1 rfl
set_option maxRecDepth 20000 in
theorem k41_2 : mjCode 41 2 = some (.iconst 0, 1, 0, 0) := by decide +kernel
theorem p41_2 {q0 q1 q2 : MV} {ds : Ds} {m : Mm} {Q : Ds → Mm → List MV → Prop} : WP 41 2 [q0, q1, q2] [] ds m Q = (WP 41 3 [q0, q1, q2] [(0, 0)] ds m Q) := P_nx k41_2 rfl
set_option maxRecDepth 20000 in
theorem k41_3 : mjCode 41 3 = some (.istore_n 2, 1, 0, 0) := by decide +kernel
theorem p41_3 {l1 s0 : Int} {q0 q2 : MV} {ds : Ds} {m : Mm} {Q : Ds → Mm → List MV → Prop} : WP 41 3 [q0, (0, l1), q2] [(0, s0)] ds m Q = (WP 41 4 [q0, (0, l1), (0, s0)] [] ds m Q) := P_nx k41_3 rfl
set_option maxRecDepth 20000 in
theorem k41_4 : mjCode 41 4 = some (.iload_n 2, 1, 0, 0) := by decide +kernel
theorem p41_4 {l2 : Int} {q0 q1 : MV} {ds : Ds} {m : Mm} {Q : Ds → Mm → List MV → Prop} : WP 41 4 [q0, q1, (0, l2)] [] ds m Q = (WP 41 5 [q0, q1, (0, l2)] [(0, l2)] ds m Q) := P_nx k41_4 rfl
set_option maxRecDepth 20000 in
theorem k41_5 : mjCode 41 5 = some (.bipush 96, 2, 0, 0) := by decide +kernel
theorem p41_5 {s0 : Int} {q0 q1 q2 : MV} {ds : Ds} {m : Mm} {Q : Ds → Mm → List MV → Prop} : WP 41 5 [q0, q1, q2] [(0, s0)] ds m Q = (WP 41 7 [q0, q1, q2] [(0, 96), (0, s0)] ds m Q) := P_nx k41_5 rfl
set_option maxRecDepth 20000 in
theorem k41_7 : mjCode 41 7 = some (.if_icmp .ge 28, 3, 35, 0) := by decide +kernel
theorem p41_7 {s0 s1 : Int} {q0 q1 q2 : MV} {ds : Ds} {m : Mm} {Q : Ds → Mm → List MV → Prop} : WP 41 7 [q0, q1, q2] [(0, s0), (0, s1)] ds m Q = (if s1 < s0 then WP 41 10 [q0, q1, q2] [] ds m Q else WP 41 35 [q0, q1, q2] [] ds m Q) := P_if k41_7 rfl
set_option maxRecDepth 20000 in
theorem k41_10 : mjCode 41 10 = some (.iload_n 1, 1, 0, 0) := by decide +kernel
theorem p41_10 {l1 : Int} {q0 q2 : MV} {ds : Ds} {m : Mm} {Q : Ds → Mm → List MV → Prop} : WP 41 10 [q0, (0, l1), q2] [] ds m Q = (WP 41 11 [q0, (0, l1), q2] [(0, l1)] ds m Q) := P_nx k41_10 rfl
set_option maxRecDepth 20000 in
theorem k41_11 : mjCode 41 11 = some (.aload_n 0, 1, 0, 0) := by decide +kernel
theorem p41_11 {l0 s0 : Int} {q1 q2 : MV} {ds : Ds} {m : Mm} {Q : Ds → Mm → List MV → Prop} : WP 41 11 [(2, l0), q1, q2] [(0, s0)] ds m Q = (WP 41 12 [(2, l0), q1, q2] [(2, l0), (0, s0)] ds m Q) := P_nx k41_11 rfl
set_option maxRecDepth 20000 in
theorem k41_12 : mjCode 41 12 = some (.getfield 9, 3, 3, 0) := by decide +kernel
theorem p41_12 {s0 s1 : Int} {q0 q1 q2 : MV} {ds : Ds} {m : Mm} {Q : Ds → Mm → List MV → Prop} : WP 41 12 [q0, q1, q2] [(2, s0), (0, s1)] ds m Q = ((dk ds s0 = 3 ∧ WP 41 15 [q0, q1, q2] [(2, m s0 0), (0, s1)] ds m Q)) := P_gd k41_12 rfl
set_option maxRecDepth 20000 in
theorem k41_15 : mjCode 41 15 = some (.iload_n 2, 1, 0, 0) := by decide +kernel
theorem p41_15 {l2 s0 s1 : Int} {q0 q1 : MV} {ds : Ds} {m : Mm} {Q : Ds → Mm → List MV → Prop} : WP 41 15 [q0, q1, (0, l2)] [(2, s0), (0, s1)] ds m Q = (WP 41 16 [q0, q1, (0, l2)] [(0, l2), (2, s0), (0, s1)] ds m Q) := P_nx k41_15 rfl
set_option maxRecDepth 20000 in
theorem k41_16 : mjCode 41 16 = some (.iaload, 1, 0, 0) := by decide +kernel
theorem p41_16 {s0 s1 s2 : Int} {q0 q1 q2 : MV} {ds : Ds} {m : Mm} {Q : Ds → Mm → List MV → Prop} : WP 41 16 [q0, q1, q2] [(0, s0), (2, s1), (0, s2)] ds m Q = ((dk ds s1 = 10 ∧ 0 ≤ s0 ∧ s0 < dl ds s1 ∧ WP 41 17 [q0, q1, q2] [(0, m s1 s0), (0, s2)] ds m Q)) := P_g3 k41_16 rfl
set_option maxRecDepth 20000 in
theorem k41_17 : mjCode 41 17 = some (.bipush 8, 2, 0, 0) := by decide +kernel
theorem p41_17 {s0 s1 : Int} {q0 q1 q2 : MV} {ds : Ds} {m : Mm} {Q : Ds → Mm → List MV → Prop} : WP 41 17 [q0, q1, q2] [(0, s0), (0, s1)] ds m Q = (WP 41 19 [q0, q1, q2] [(0, 8), (0, s0), (0, s1)] ds m Q) := P_nx k41_17 rfl
set_option maxRecDepth 20000 in
theorem k41_19 : mjCode 41 19 = some (.if_icmp .ne 7, 3, 26, 0) := by decide +kernel
theorem p41_19 {s0 s1 s2 : Int} {q0 q1 q2 : MV} {ds : Ds} {m : Mm} {Q : Ds → Mm → List MV → Prop} : WP 41 19 [q0, q1, q2] [(0, s0), (0, s1), (0, s2)] ds m Q = (if s1 = s0 then WP 41 22 [q0, q1, q2] [(0, s2)] ds m Q else WP 41 26 [q0, q1, q2] [(0, s2)] ds m Q) := P_if k41_19 rfl
set_option maxRecDepth 20000 in
theorem k41_22 : mjCode 41 22 = some (.iconst 1, 1, 0, 0) := by decide +kernel
theorem p41_22 {s0 : Int} {q0 q1 q2 : MV} {ds : Ds} {m : Mm} {Q : Ds → Mm → List MV → Prop} : WP 41 22 [q0, q1, q2] [(0, s0)] ds m Q = (WP 41 23 [q0, q1, q2] [(0, 1), (0, s0)] ds m Q) := P_nx k41_22 rfl
set_option maxRecDepth 20000 in
theorem k41_23 : mjCode 41 23 = some (.goto 4, 3, 27, 0) := by decide +kernel
theorem p41_23 {s0 s1 : Int} {q0 q1 q2 : MV} {ds : Ds} {m : Mm} {Q : Ds → Mm → List MV → Prop} : WP 41 23 [q0, q1, q2] [(0, s0), (0, s1)] ds m Q = (WP 41 27 [q0, q1, q2] [(0, s0), (0, s1)] ds m Q) := P_nx k41_23 rfl
set_option maxRecDepth 20000 in
theorem k41_26 : mjCode 41 26 = some (.iconst 0, 1, 0, 0) := by decide +kernel
theorem p41_26 {s0 : Int} {q0 q1 q2 : MV} {ds : Ds} {m : Mm} {Q : Ds → Mm → List MV → Prop} : WP 41 26 [q0, q1, q2] [(0, s0)] ds m Q = (WP 41 27 [q0, q1, q2] [(0, 0), (0, s0)] ds m Q) := P_nx k41_26 rfl
set_option maxRecDepth 20000 in
theorem k41_27 : mjCode 41 27 = some (.iadd, 1, 0, 0) := by decide +kernel
theorem p41_27 {s0 s1 : Int} {q0 q1 q2 : MV} {ds : Ds} {m : Mm} {Q : Ds → Mm → List MV → Prop} : WP 41 27 [q0, q1, q2] [(0, s0), (0, s1)] ds m Q = (WP 41 28 [q0, q1, q2] [(0, w32 (s1 + s0))] ds m Q) := P_nx k41_27 rfl
set_option maxRecDepth 20000 in
theorem k41_28 : mjCode 41 28 = some (.istore_n 1, 1, 0, 0) := by decide +kernel
theorem p41_28 {l0 s0 : Int} {q1 q2 : MV} {ds : Ds} {m : Mm} {Q : Ds → Mm → List MV → Prop} : WP 41 28 [(2, l0), q1, q2] [(0, s0)] ds m Q = (WP 41 29 [(2, l0), (0, s0), q2] [] ds m Q) := P_nx k41_28 rfl
set_option maxRecDepth 20000 in
theorem k41_29 : mjCode 41 29 = some (.iinc 2 1, 3, 0, 0) := by decide +kernel
theorem p41_29 {l2 : Int} {q0 q1 : MV} {ds : Ds} {m : Mm} {Q : Ds → Mm → List MV → Prop} : WP 41 29 [q0, q1, (0, l2)] [] ds m Q = (WP 41 32 [q0, q1, (0, w32 (l2 + 1))] [] ds m Q) := P_nx k41_29 rfl
set_option maxRecDepth 20000 in
theorem k41_32 : mjCode 41 32 = some (.goto (-28), 3, 4, 0) := by decide +kernel
theorem p41_32 {q0 q1 q2 : MV} {ds : Ds} {m : Mm} {Q : Ds → Mm → List MV → Prop} : WP 41 32 [q0, q1, q2] [] ds m Q = (WP 41 4 [q0, q1, q2] [] ds m Q) := P_nx k41_32 rfl
set_option maxRecDepth 20000 in
theorem k41_35 : mjCode 41 35 = some (.iload_n 1, 1, 0, 0) := by decide +kernel
theorem p41_35 {l1 : Int} {q0 q2 : MV} {ds : Ds} {m : Mm} {Q : Ds → Mm → List MV → Prop} : WP 41 35 [q0, (0, l1), q2] [] ds m Q = (WP 41 36 [q0, (0, l1), q2] [(0, l1)] ds m Q) := P_nx k41_35 rfl
set_option maxRecDepth 20000 in
theorem k41_36 : mjCode 41 36 = some (.ireturn, 1, 0, 0) := by decide +kernel
theorem p41_36 {s0 : Int} {q0 q1 q2 : MV} {ds : Ds} {m : Mm} {Q : Ds → Mm → List MV → Prop} : WP 41 36 [q0, q1, q2] [(0, s0)] ds m Q = (Q ds m [(0, s0)]) := P_ri k41_36 rk41
set_option maxRecDepth 20000 in
theorem k42_0 : mjCode 42 0 = some (.iconst 0, 1, 0, 0) := by decide +kernel
theorem p42_0 {q0 q1 q2 : MV} {ds : Ds} {m : Mm} {Q : Ds → Mm → List MV → Prop} : WP 42 0 [q0, q1, q2] [] ds m Q = (WP 42 1 [q0, q1, q2] [(0, 0)] ds m Q) := P_nx k42_0 rfl
set_option maxRecDepth 20000 in
theorem k42_1 : mjCode 42 1 = some (.istore_n 1, 1, 0, 0) := by decide +kernel
theorem p42_1 {l0 s0 : Int} {q1 q2 : MV} {ds : Ds} {m : Mm} {Q : Ds → Mm → List MV → Prop} : WP 42 1 [(2, l0), q1, q2] [(0, s0)] ds m Q = (WP 42 2 [(2, l0), (0, s0), q2] [] ds m Q) := P_nx k42_1 rfl
set_option maxRecDepth 20000 in
theorem k42_2 : mjCode 42 2 = some (.iconst 0, 1, 0, 0) := by decide +kernel
theorem p42_2 {q0 q1 q2 : MV} {ds : Ds} {m : Mm} {Q : Ds → Mm → List MV → Prop} : WP 42 2 [q0, q1, q2] [] ds m Q = (WP 42 3 [q0, q1, q2] [(0, 0)] ds m Q) := P_nx k42_2 rfl
set_option maxRecDepth 20000 in
theorem k42_3 : mjCode 42 3 = some (.istore_n 2, 1, 0, 0) := by decide +kernel
theorem p42_3 {l1 s0 : Int} {q0 q2 : MV} {ds : Ds} {m : Mm} {Q : Ds → Mm → List MV → Prop} : WP 42 3 [q0, (0, l1), q2] [(0, s0)] ds m Q = (WP 42 4 [q0, (0, l1), (0, s0)] [] ds m Q) := P_nx k42_3 rfl
set_option maxRecDepth 20000 in
theorem k42_4 : mjCode 42 4 = some (.iload_n 2, 1, 0, 0) := by decide +kernel
theorem p42_4 {l2 : Int} {q0 q1 : MV} {ds : Ds} {m : Mm} {Q : Ds → Mm → List MV → Prop} : WP 42 4 [q0, q1, (0, l2)] [] ds m Q = (WP 42 5 [q0, q1, (0, l2)] [(0, l2)] ds m Q) := P_nx k42_4 rfl
set_option maxRecDepth 20000 in
theorem k42_5 : mjCode 42 5 = some (.bipush 96, 2, 0, 0) := by decide +kernel
theorem p42_5 {s0 : Int} {q0 q1 q2 : MV} {ds : Ds} {m : Mm} {Q : Ds → Mm → List MV → Prop} : WP 42 5 [q0, q1, q2] [(0, s0)] ds m Q = (WP 42 7 [q0, q1, q2] [(0, 96), (0, s0)] ds m Q) := P_nx k42_5 rfl
set_option maxRecDepth 20000 in
theorem k42_7 : mjCode 42 7 = some (.if_icmp .ge 26, 3, 33, 0) := by decide +kernel
theorem p42_7 {s0 s1 : Int} {q0 q1 q2 : MV} {ds : Ds} {m : Mm} {Q : Ds → Mm → List MV → Prop} : WP 42 7 [q0, q1, q2] [(0, s0), (0, s1)] ds m Q = (if s1 < s0 then WP 42 10 [q0, q1, q2] [] ds m Q else WP 42 33 [q0, q1, q2] [] ds m Q) := P_if k42_7 rfl
set_option maxRecDepth 20000 in
theorem k42_10 : mjCode 42 10 = some (.iload_n 1, 1, 0, 0) := by decide +kernel
theorem p42_10 {l1 : Int} {q0 q2 : MV} {ds : Ds} {m : Mm} {Q : Ds → Mm → List MV → Prop} : WP 42 10 [q0, (0, l1), q2] [] ds m Q = (WP 42 11 [q0, (0, l1), q2] [(0, l1)] ds m Q) := P_nx k42_10 rfl
set_option maxRecDepth 20000 in
theorem k42_11 : mjCode 42 11 = some (.aload_n 0, 1, 0, 0) := by decide +kernel
theorem p42_11 {l0 s0 : Int} {q1 q2 : MV} {ds : Ds} {m : Mm} {Q : Ds → Mm → List MV → Prop} : WP 42 11 [(2, l0), q1, q2] [(0, s0)] ds m Q = (WP 42 12 [(2, l0), q1, q2] [(2, l0), (0, s0)] ds m Q) := P_nx k42_11 rfl
set_option maxRecDepth 20000 in
theorem k42_12 : mjCode 42 12 = some (.getfield 24, 3, 3, 4) := by decide +kernel
theorem p42_12 {s0 s1 : Int} {q0 q1 q2 : MV} {ds : Ds} {m : Mm} {Q : Ds → Mm → List MV → Prop} : WP 42 12 [q0, q1, q2] [(2, s0), (0, s1)] ds m Q = ((dk ds s0 = 3 ∧ WP 42 15 [q0, q1, q2] [(2, m s0 4), (0, s1)] ds m Q)) := P_gd k42_12 rfl
set_option maxRecDepth 20000 in
theorem k42_15 : mjCode 42 15 = some (.iload_n 2, 1, 0, 0) := by decide +kernel
theorem p42_15 {l2 s0 s1 : Int} {q0 q1 : MV} {ds : Ds} {m : Mm} {Q : Ds → Mm → List MV → Prop} : WP 42 15 [q0, q1, (0, l2)] [(2, s0), (0, s1)] ds m Q = (WP 42 16 [q0, q1, (0, l2)] [(0, l2), (2, s0), (0, s1)] ds m Q) := P_nx k42_15 rfl
set_option maxRecDepth 20000 in
theorem k42_16 : mjCode 42 16 = some (.baload, 1, 0, 0) := by decide +kernel
theorem p42_16 {s0 s1 s2 : Int} {q0 q1 q2 : MV} {ds : Ds} {m : Mm} {Q : Ds → Mm → List MV → Prop} : WP 42 16 [q0, q1, q2] [(0, s0), (2, s1), (0, s2)] ds m Q = ((dk ds s1 = 11 ∧ 0 ≤ s0 ∧ s0 < dl ds s1 ∧ WP 42 17 [q0, q1, q2] [(0, m s1 s0), (0, s2)] ds m Q)) := P_g3 k42_16 rfl
set_option maxRecDepth 20000 in
theorem k42_17 : mjCode 42 17 = some (.ifCond .eq 7, 3, 24, 0) := by decide +kernel
theorem p42_17 {s0 s1 : Int} {q0 q1 q2 : MV} {ds : Ds} {m : Mm} {Q : Ds → Mm → List MV → Prop} : WP 42 17 [q0, q1, q2] [(0, s0), (0, s1)] ds m Q = (if s0 = 0 then WP 42 24 [q0, q1, q2] [(0, s1)] ds m Q else WP 42 20 [q0, q1, q2] [(0, s1)] ds m Q) := P_if k42_17 rfl
set_option maxRecDepth 20000 in
theorem k42_20 : mjCode 42 20 = some (.iconst 1, 1, 0, 0) := by decide +kernel
theorem p42_20 {s0 : Int} {q0 q1 q2 : MV} {ds : Ds} {m : Mm} {Q : Ds → Mm → List MV → Prop} : WP 42 20 [q0, q1, q2] [(0, s0)] ds m Q = (WP 42 21 [q0, q1, q2] [(0, 1), (0, s0)] ds m Q) := P_nx k42_20 rfl
set_option maxRecDepth 20000 in
theorem k42_21 : mjCode 42 21 = some (.goto 4, 3, 25, 0) := by decide +kernel
theorem p42_21 {s0 s1 : Int} {q0 q1 q2 : MV} {ds : Ds} {m : Mm} {Q : Ds → Mm → List MV → Prop} : WP 42 21 [q0, q1, q2] [(0, s0), (0, s1)] ds m Q = (WP 42 25 [q0, q1, q2] [(0, s0), (0, s1)] ds m Q) := P_nx k42_21 rfl
set_option maxRecDepth 20000 in
theorem k42_24 : mjCode 42 24 = some (.iconst 0, 1, 0, 0) := by decide +kernel
theorem p42_24 {s0 : Int} {q0 q1 q2 : MV} {ds : Ds} {m : Mm} {Q : Ds → Mm → List MV → Prop} : WP 42 24 [q0, q1, q2] [(0, s0)] ds m Q = (WP 42 25 [q0, q1, q2] [(0, 0), (0, s0)] ds m Q) := P_nx k42_24 rfl
set_option maxRecDepth 20000 in
theorem k42_25 : mjCode 42 25 = some (.iadd, 1, 0, 0) := by decide +kernel
theorem p42_25 {s0 s1 : Int} {q0 q1 q2 : MV} {ds : Ds} {m : Mm} {Q : Ds → Mm → List MV → Prop} : WP 42 25 [q0, q1, q2] [(0, s0), (0, s1)] ds m Q = (WP 42 26 [q0, q1, q2] [(0, w32 (s1 + s0))] ds m Q) := P_nx k42_25 rfl
set_option maxRecDepth 20000 in
theorem k42_26 : mjCode 42 26 = some (.istore_n 1, 1, 0, 0) := by decide +kernel
theorem p42_26 {l0 s0 : Int} {q1 q2 : MV} {ds : Ds} {m : Mm} {Q : Ds → Mm → List MV → Prop} : WP 42 26 [(2, l0), q1, q2] [(0, s0)] ds m Q = (WP 42 27 [(2, l0), (0, s0), q2] [] ds m Q) := P_nx k42_26 rfl
set_option maxRecDepth 20000 in
theorem k42_27 : mjCode 42 27 = some (.iinc 2 1, 3, 0, 0) := by decide +kernel
theorem p42_27 {l2 : Int} {q0 q1 : MV} {ds : Ds} {m : Mm} {Q : Ds → Mm → List MV → Prop} : WP 42 27 [q0, q1, (0, l2)] [] ds m Q = (WP 42 30 [q0, q1, (0, w32 (l2 + 1))] [] ds m Q) := P_nx k42_27 rfl
set_option maxRecDepth 20000 in
theorem k42_30 : mjCode 42 30 = some (.goto (-26), 3, 4, 0) := by decide +kernel
theorem p42_30 {q0 q1 q2 : MV} {ds : Ds} {m : Mm} {Q : Ds → Mm → List MV → Prop} : WP 42 30 [q0, q1, q2] [] ds m Q = (WP 42 4 [q0, q1, q2] [] ds m Q) := P_nx k42_30 rfl
set_option maxRecDepth 20000 in
theorem k42_33 : mjCode 42 33 = some (.iload_n 1, 1, 0, 0) := by decide +kernel
theorem p42_33 {l1 : Int} {q0 q2 : MV} {ds : Ds} {m : Mm} {Q : Ds → Mm → List MV → Prop} : WP 42 33 [q0, (0, l1), q2] [] ds m Q = (WP 42 34 [q0, (0, l1), q2] [(0, l1)] ds m Q) := P_nx k42_33 rfl
set_option maxRecDepth 20000 in
theorem k42_34 : mjCode 42 34 = some (.ireturn, 1, 0, 0) := by decide +kernel
theorem p42_34 {s0 : Int} {q0 q1 q2 : MV} {ds : Ds} {m : Mm} {Q : Ds → Mm → List MV → Prop} : WP 42 34 [q0, q1, q2] [(0, s0)] ds m Q = (Q ds m [(0, s0)]) := P_ri k42_34 rk42
set_option maxRecDepth 20000 in
theorem k43_0 : mjCode 43 0 = some (.aload_n 0, 1, 0, 0) := by decide +kernel
theorem p43_0 {l0 : Int} {q1 q2 : MV} {ds : Ds} {m : Mm} {Q : Ds → Mm → List MV → Prop} : WP 43 0 [(2, l0), q1, q2] [] ds m Q = (WP 43 1 [(2, l0), q1, q2] [(2, l0)] ds m Q) := P_nx k43_0 rfl
set_option maxRecDepth 20000 in
theorem k43_1 : mjCode 43 1 = some (.invokespecial 3, 3, 0, 1) := by decide +kernel
theorem p43_1 {s0 : Int} {q0 q1 q2 : MV} {ds : Ds} {m : Mm} {Q : Ds → Mm → List MV → Prop} : WP 43 1 [q0, q1, q2] [(2, s0)] ds m Q = (((0 ≤ s0 ∧ ([].map cat).sum ≤ 8) ∧ WP 43 4 [q0, q1, q2] [] ds m Q)) := P_gd k43_1 rfl
set_option maxRecDepth 20000 in
theorem k43_4 : mjCode 43 4 = some (.aload_n 0, 1, 0, 0) := by decide +kernel
theorem p43_4 {l0 : Int} {q1 q2 : MV} {ds : Ds} {m : Mm} {Q : Ds → Mm → List MV → Prop} : WP 43 4 [(2, l0), q1, q2] [] ds m Q = (WP 43 5 [(2, l0), q1, q2] [(2, l0)] ds m Q) := P_nx k43_4 rfl
set_option maxRecDepth 20000 in
theorem k43_5 : mjCode 43 5 = some (.iload_n 1, 1, 0, 0) := by decide +kernel
theorem p43_5 {l1 s0 : Int} {q0 q2 : MV} {ds : Ds} {m : Mm} {Q : Ds → Mm → List MV → Prop} : WP 43 5 [q0, (0, l1), q2] [(2, s0)] ds m Q = (WP 43 6 [q0, (0, l1), q2] [(0, l1), (2, s0)] ds m Q) := P_nx k43_5 rfl
set_option maxRecDepth 20000 in
theorem k43_6 : mjCode 43 6 = some (.putfield 9, 3, 4, 0) := by decide +kernel
theorem p43_6 {s0 s1 : Int} {q0 q1 q2 : MV} {ds : Ds} {m : Mm} {Q : Ds → Mm → List MV → Prop} : WP 43 6 [q0, q1, q2] [(0, s0), (2, s1)] ds m Q = ((dk ds s1 = 4 ∧ WP 43 9 [q0, q1, q2] [] ds (up m s1 0 s0) Q)) := P_pf k43_6 rfl
set_option maxRecDepth 20000 in
theorem k43_9 : mjCode 43 9 = some (.aload_n 0, 1, 0, 0) := by decide +kernel
theorem p43_9 {l0 : Int} {q1 q2 : MV} {ds : Ds} {m : Mm} {Q : Ds → Mm → List MV → Prop} : WP 43 9 [(2, l0), q1, q2] [] ds m Q = (WP 43 10 [(2, l0), q1, q2] [(2, l0)] ds m Q) := P_nx k43_9 rfl
set_option maxRecDepth 20000 in
theorem k43_10 : mjCode 43 10 = some (.iload_n 2, 1, 0, 0) := by decide +kernel
theorem p43_10 {l2 s0 : Int} {q0 q1 : MV} {ds : Ds} {m : Mm} {Q : Ds → Mm → List MV → Prop} : WP 43 10 [q0, q1, (0, l2)] [(2, s0)] ds m Q = (WP 43 11 [q0, q1, (0, l2)] [(0, l2), (2, s0)] ds m Q) := P_nx k43_10 rfl
set_option maxRecDepth 20000 in
theorem k43_11 : mjCode 43 11 = some (.ifCond .ge 7, 3, 18, 0) := by decide +kernel
theorem p43_11 {s0 s1 : Int} {q0 q1 q2 : MV} {ds : Ds} {m : Mm} {Q : Ds → Mm → List MV → Prop} : WP 43 11 [q0, q1, q2] [(0, s0), (2, s1)] ds m Q = (if s0 < 0 then WP 43 14 [q0, q1, q2] [(2, s1)] ds m Q else WP 43 18 [q0, q1, q2] [(2, s1)] ds m Q) := P_if k43_11 rfl
set_option maxRecDepth 20000 in
theorem k43_14 : mjCode 43 14 = some (.iconst 0, 1, 0, 0) := by decide +kernel
theorem p43_14 {s0 : Int} {q0 q1 q2 : MV} {ds : Ds} {m : Mm} {Q : Ds → Mm → List MV → Prop} : WP 43 14 [q0, q1, q2] [(2, s0)] ds m Q = (WP 43 15 [q0, q1, q2] [(0, 0), (2, s0)] ds m Q) := P_nx k43_14 rfl
set_option maxRecDepth 20000 in
theorem k43_15 : mjCode 43 15 = some (.goto 4, 3, 19, 0) := by decide +kernel
theorem p43_15 {s0 s1 : Int} {q0 q1 q2 : MV} {ds : Ds} {m : Mm} {Q : Ds → Mm → List MV → Prop} : WP 43 15 [q0, q1, q2] [(0, s0), (2, s1)] ds m Q = (WP 43 19 [q0, q1, q2] [(0, s0), (2, s1)] ds m Q) := P_nx k43_15 rfl
set_option maxRecDepth 20000 in
theorem k43_18 : mjCode 43 18 = some (.iload_n 2, 1, 0, 0) := by decide +kernel
theorem p43_18 {l2 s0 : Int} {q0 q1 : MV} {ds : Ds} {m : Mm} {Q : Ds → Mm → List MV → Prop} : WP 43 18 [q0, q1, (0, l2)] [(2, s0)] ds m Q = (WP 43 19 [q0, q1, (0, l2)] [(0, l2), (2, s0)] ds m Q) := P_nx k43_18 rfl
set_option maxRecDepth 20000 in
theorem k43_19 : mjCode 43 19 = some (.newarray .long, 2, 12, 0) := by decide +kernel
theorem p43_19 {s0 s1 : Int} {q0 q1 q2 : MV} {ds : Ds} {m : Mm} {Q : Ds → Mm → List MV → Prop} : WP 43 19 [q0, q1, q2] [(0, s0), (2, s1)] ds m Q = (((0 ≤ s0 ∧ s0 ≤ 30000) ∧ WP 43 21 [q0, q1, q2] [(2, (ds.length : Int)), (2, s1)] (ds ++ [(12, s0.toNat)]) (al m (ds.length : Int) (dfl 12)) Q)) := P_gd k43_19 rfl
set_option maxRecDepth 20000 in
theorem k43_21 : mjCode 43 21 = some (.putfield 15, 3, 4, 1) := by decide +kernel
theorem p43_21 {s0 s1 : Int} {q0 q1 q2 : MV} {ds : Ds} {m : Mm} {Q : Ds → Mm → List MV → Prop} : WP 43 21 [q0, q1, q2] [(2, s0), (2, s1)] ds m Q = ((dk ds s1 = 4 ∧ WP 43 24 [q0, q1, q2] [] ds (up m s1 1 s0) Q)) := P_pf k43_21 rfl
set_option maxRecDepth 20000 in
theorem k43_24 : mjCode 43 24 = some (.return_, 1, 0, 0) := by decide +kernel
theorem p43_24 {q0 q1 q2 : MV} {ds : Ds} {m : Mm} {Q : Ds → Mm → List MV → Prop} : WP 43 24 [q0, q1, q2] [] ds m Q = (Q ds m []) := P_rv k43_24 rk43
set_option maxRecDepth 20000 in
theorem k44_0 : mjCode 44 0 = some (.aload_n 0, 1, 0, 0) := by decide +kernel
theorem p44_0 {l0 : Int} {ds : Ds} {m : Mm} {Q : Ds → Mm → List MV → Prop} : WP 44 0 [(2, l0)] [] ds m Q = (WP 44 1 [(2, l0)] [(2, l0)] ds m Q) := P_nx k44_0 rfl
set_option maxRecDepth 20000 in
theorem k44_1 : mjCode 44 1 = some (.getfield 15, 3, 4, 1) := by decide +kernel
theorem p44_1 {s0 : Int} {q0 : MV} {ds : Ds} {m : Mm} {Q : Ds → Mm → List MV → Prop} : WP 44 1 [q0] [(2, s0)] ds m Q = ((dk ds s0 = 4 ∧ WP 44 4 [q0] [(2, m s0 1)] ds m Q)) := P_gd k44_1 rfl
set_option maxRecDepth 20000 in
theorem k44_4 : mjCode 44 4 = some (.arraylength, 1, 0, 0) := by decide +kernel
theorem p44_4 {s0 : Int} {q0 : MV} {ds : Ds} {m : Mm} {Q : Ds → Mm → List MV → Prop} : WP 44 4 [q0] [(2, s0)] ds m Q = (((10 ≤ dk ds s0 ∧ dk ds s0 ≤ 14) ∧ WP 44 5 [q0] [(0, (dl ds s0 : Int))] ds m Q)) := P_gd k44_4 rfl
set_option maxRecDepth 20000 in
theorem k44_5 : mjCode 44 5 = some (.ireturn, 1, 0, 0) := by decide +kernel
theorem p44_5 {s0 : Int} {q0 : MV} {ds : Ds} {m : Mm} {Q : Ds → Mm → List MV → Prop} : WP 44 5 [q0] [(0, s0)] ds m Q = (Q ds m [(0, s0)]) := P_ri k44_5 rk44
set_option maxRecDepth 20000 in
theorem k45_0 : mjCode 45 0 = some (.iload_n 1, 1, 0, 0) := by decide +kernel
theorem p45_0 {l1 : Int} {q0 q2 : MV} {ds : Ds} {m : Mm} {Q : Ds → Mm → List MV → Prop} : WP 45 0 [q0, (0, l1), q2] [] ds m Q = (WP 45 1 [q0, (0, l1), q2] [(0, l1)] ds m Q) := P_nx k45_0 rfl
set_option maxRecDepth 20000 in
theorem k45_1 : mjCode 45 1 = some (.ifCond .lt 22, 3, 23, 0) := by decide +kernel
theorem p45_1 {s0 : Int} {q0 q1 q2 : MV} {ds : Ds} {m : Mm} {Q : Ds → Mm → List MV → Prop} : WP 45 1 [q0, q1, q2] [(0, s0)] ds m Q = (if s0 < 0 then WP 45 23 [q0, q1, q2] [] ds m Q else WP 45 4 [q0, q1, q2] [] ds m Q) := P_if k45_1 rfl
set_option maxRecDepth 20000 in
theorem k45_4 : mjCode 45 4 = some (.iload_n 2, 1, 0, 0) := by decide +kernel
theorem p45_4 {l2 : Int} {q0 q1 : MV} {ds : Ds} {m : Mm} {Q : Ds → Mm → List MV → Prop} : WP 45 4 [q0, q1, (0, l2)] [] ds m Q = (WP 45 5 [q0, q1, (0, l2)] [(0, l2)] ds m Q) := P_nx k45_4 rfl
set_option maxRecDepth 20000 in
theorem k45_5 : mjCode 45 5 = some (.ifCond .lt 18, 3, 23, 0) := by decide +kernel
theorem p45_5 {s0 : Int} {q0 q1 q2 : MV} {ds : Ds} {m : Mm} {Q : Ds → Mm → List MV → Prop} : WP 45 5 [q0, q1, q2] [(0, s0)] ds m Q = (if s0 < 0 then WP 45 23 [q0, q1, q2] [] ds m Q else WP 45 8 [q0, q1, q2] [] ds m Q) := P_if k45_5 rfl
set_option maxRecDepth 20000 in
theorem k45_8 : mjCode 45 8 = some (.iload_n 2, 1, 0, 0) := by decide +kernel
theorem p45_8 {l2 : Int} {q0 q1 : MV} {ds : Ds} {m : Mm} {Q : Ds → Mm → List MV → Prop} : WP 45 8 [q0, q1, (0, l2)] [] ds m Q = (WP 45 9 [q0, q1, (0, l2)] [(0, l2)] ds m Q) := P_nx k45_8 rfl
set_option maxRecDepth 20000 in
theorem k45_9 : mjCode 45 9 = some (.aload_n 0, 1, 0, 0) := by decide +kernel
theorem p45_9 {l0 s0 : Int} {q1 q2 : MV} {ds : Ds} {m : Mm} {Q : Ds → Mm → List MV → Prop} : WP 45 9 [(2, l0), q1, q2] [(0, s0)] ds m Q = (WP 45 10 [(2, l0), q1, q2] [(2, l0), (0, s0)] ds m Q) := P_nx k45_9 rfl
set_option maxRecDepth 20000 in
theorem k45_10 : mjCode 45 10 = some (.getfield 15, 3, 4, 1) := by decide +kernel
theorem p45_10 {s0 s1 : Int} {q0 q1 q2 : MV} {ds : Ds} {m : Mm} {Q : Ds → Mm → List MV → Prop} : WP 45 10 [q0, q1, q2] [(2, s0), (0, s1)] ds m Q = ((dk ds s0 = 4 ∧ WP 45 13 [q0, q1, q2] [(2, m s0 1), (0, s1)] ds m Q)) := P_gd k45_10 rfl
set_option maxRecDepth 20000 in
theorem k45_13 : mjCode 45 13 = some (.arraylength, 1, 0, 0) := by decide +kernel
theorem p45_13 {s0 s1 : Int} {q0 q1 q2 : MV} {ds : Ds} {m : Mm} {Q : Ds → Mm → List MV → Prop} : WP 45 13 [q0, q1, q2] [(2, s0), (0, s1)] ds m Q = (((10 ≤ dk ds s0 ∧ dk ds s0 ≤ 14) ∧ WP 45 14 [q0, q1, q2] [(0, (dl ds s0 : Int)), (0, s1)] ds m Q)) := P_gd k45_13 rfl
set_option maxRecDepth 20000 in
theorem k45_14 : mjCode 45 14 = some (.iload_n 1, 1, 0, 0) := by decide +kernel
theorem p45_14 {l1 s0 s1 : Int} {q0 q2 : MV} {ds : Ds} {m : Mm} {Q : Ds → Mm → List MV → Prop} : WP 45 14 [q0, (0, l1), q2] [(0, s0), (0, s1)] ds m Q = (WP 45 15 [q0, (0, l1), q2] [(0, l1), (0, s0), (0, s1)] ds m Q) := P_nx k45_14 rfl
set_option maxRecDepth 20000 in
theorem k45_15 : mjCode 45 15 = some (.isub, 1, 0, 0) := by decide +kernel
theorem p45_15 {s0 s1 s2 : Int} {q0 q1 q2 : MV} {ds : Ds} {m : Mm} {Q : Ds → Mm → List MV → Prop} : WP 45 15 [q0, q1, q2] [(0, s0), (0, s1), (0, s2)] ds m Q = (WP 45 16 [q0, q1, q2] [(0, w32 (s1 - s0)), (0, s2)] ds m Q) := P_nx k45_15 rfl
set_option maxRecDepth 20000 in
theorem k45_16 : mjCode 45 16 = some (.if_icmp .gt 7, 3, 23, 0) := by decide +kernel
theorem p45_16 {s0 s1 : Int} {q0 q1 q2 : MV} {ds : Ds} {m : Mm} {Q : Ds → Mm → List MV → Prop} : WP 45 16 [q0, q1, q2] [(0, s0), (0, s1)] ds m Q = (if s0 < s1 then WP 45 23 [q0, q1, q2] [] ds m Q else WP 45 19 [q0, q1, q2] [] ds m Q) := P_if k45_16 rfl
set_option maxRecDepth 20000 in
theorem k45_19 : mjCode 45 19 = some (.iconst 1, 1, 0, 0) := by decide +kernel
theorem p45_19 {q0 q1 q2 : MV} {ds : Ds} {m : Mm} {Q : Ds → Mm → List MV → Prop} : WP 45 19 [q0, q1, q2] [] ds m Q = (WP 45 20 [q0, q1, q2] [(0, 1)] ds m Q) := P_nx k45_19 rfl
set_option maxRecDepth 20000 in
theorem k45_20 : mjCode 45 20 = some (.goto 4, 3, 24, 0) := by decide +kernel
theorem p45_20 {s0 : Int} {q0 q1 q2 : MV} {ds : Ds} {m : Mm} {Q : Ds → Mm → List MV → Prop} : WP 45 20 [q0, q1, q2] [(0, s0)] ds m Q = (WP 45 24 [q0, q1, q2] [(0, s0)] ds m Q) := P_nx k45_20 rfl
set_option maxRecDepth 20000 in
theorem k45_23 : mjCode 45 23 = some (.iconst 0, 1, 0, 0) := by decide +kernel
theorem p45_23 {q0 q1 q2 : MV} {ds : Ds} {m : Mm} {Q : Ds → Mm → List MV → Prop} : WP 45 23 [q0, q1, q2] [] ds m Q = (WP 45 24 [q0, q1, q2] [(0, 0)] ds m Q) := P_nx k45_23 rfl
set_option maxRecDepth 20000 in
theorem k45_24 : mjCode 45 24 = some (.ireturn, 1, 0, 0) := by decide +kernel
theorem p45_24 {s0 : Int} {q0 q1 q2 : MV} {ds : Ds} {m : Mm} {Q : Ds → Mm → List MV → Prop} : WP 45 24 [q0, q1, q2] [(0, s0)] ds m Q = (((s0 = 0 ∨ s0 = 1) ∧ Q ds m [(0, s0)])) := P_rb k45_24 rk45
set_option maxRecDepth 20000 in
theorem k46_0 : mjCode 46 0 = some (.aload_n 0, 1, 0, 0) := by decide +kernel
theorem p46_0 {l0 : Int} {q1 q2 q3 : MV} {ds : Ds} {m : Mm} {Q : Ds → Mm → List MV → Prop} : WP 46 0 [(2, l0), q1, q2, q3] [] ds m Q = (WP 46 1 [(2, l0), q1, q2, q3] [(2, l0)] ds m Q) := P_nx k46_0 rfl
set_option maxRecDepth 20000 in
theorem k46_1 : mjCode 46 1 = some (.iload_n 1, 1, 0, 0) := by decide +kernel
theorem p46_1 {l1 s0 : Int} {q0 q2 q3 : MV} {ds : Ds} {m : Mm} {Q : Ds → Mm → List MV → Prop} : WP 46 1 [q0, (0, l1), q2, q3] [(2, s0)] ds m Q = (WP 46 2 [q0, (0, l1), q2, q3] [(0, l1), (2, s0)] ds m Q) := P_nx k46_1 rfl
set_option maxRecDepth 20000 in
theorem k46_2 : mjCode 46 2 = some (.iconst 1, 1, 0, 0) := by decide +kernel
theorem p46_2 {s0 s1 : Int} {q0 q1 q2 q3 : MV} {ds : Ds} {m : Mm} {Q : Ds → Mm → List MV → Prop} : WP 46 2 [q0, q1, q2, q3] [(0, s0), (2, s1)] ds m Q = (WP 46 3 [q0, q1, q2, q3] [(0, 1), (0, s0), (2, s1)] ds m Q) := P_nx k46_2 rfl
set_option maxRecDepth 20000 in
theorem k46_3 : mjCode 46 3 = some (.invokevirtual 19, 3, 46, 3) := by decide +kernel
theorem p46_3 {s0 s1 s2 : Int} {q0 q1 q2 q3 : MV} {ds : Ds} {m : Mm} {Q : Ds → Mm → List MV → Prop} : WP 46 3 [q0, q1, q2, q3] [(0, s0), (0, s1), (2, s2)] ds m Q = ((dk ds s2 = 4 ∧ WP 45 0 [(2, s2), (0, s1), (0, s0)] [] ds m (fun d2 m2 r2 => WP 46 6 [q0, q1, q2, q3] (r2 ++ []) d2 m2 Q))) := P_cv k46_3 mx45 mo45 rfl rfl rfl rfl rfl rfl rfl rfl
set_option maxRecDepth 20000 in
theorem k46_6 : mjCode 46 6 = some (.ifCond .eq 14, 3, 20, 0) := by decide +kernel
theorem p46_6 {s0 : Int} {q0 q1 q2 q3 : MV} {ds : Ds} {m : Mm} {Q : Ds → Mm → List MV → Prop} : WP 46 6 [q0, q1, q2, q3] [(0, s0)] ds m Q = (if s0 = 0 then WP 46 20 [q0, q1, q2, q3] [] ds m Q else WP 46 9 [q0, q1, q2, q3] [] ds m Q) := P_if k46_6 rfl
set_option maxRecDepth 20000 in
theorem k46_9 : mjCode 46 9 = some (.aload_n 0, 1, 0, 0) := by decide +kernel
theorem p46_9 {l0 : Int} {q1 q2 q3 : MV} {ds : Ds} {m : Mm} {Q : Ds → Mm → List MV → Prop} : WP 46 9 [(2, l0), q1, q2, q3] [] ds m Q = (WP 46 10 [(2, l0), q1, q2, q3] [(2, l0)] ds m Q) := P_nx k46_9 rfl
set_option maxRecDepth 20000 in
theorem k46_10 : mjCode 46 10 = some (.getfield 15, 3, 4, 1) := by decide +kernel
theorem p46_10 {s0 : Int} {q0 q1 q2 q3 : MV} {ds : Ds} {m : Mm} {Q : Ds → Mm → List MV → Prop} : WP 46 10 [q0, q1, q2, q3] [(2, s0)] ds m Q = ((dk ds s0 = 4 ∧ WP 46 13 [q0, q1, q2, q3] [(2, m s0 1)] ds m Q)) := P_gd k46_10 rfl
set_option maxRecDepth 20000 in
theorem k46_13 : mjCode 46 13 = some (.iload_n 1, 1, 0, 0) := by decide +kernel
theorem p46_13 {l1 s0 : Int} {q0 q2 q3 : MV} {ds : Ds} {m : Mm} {Q : Ds → Mm → List MV → Prop} : WP 46 13 [q0, (0, l1), q2, q3] [(2, s0)] ds m Q = (WP 46 14 [q0, (0, l1), q2, q3] [(0, l1), (2, s0)] ds m Q) := P_nx k46_13 rfl
set_option maxRecDepth 20000 in
theorem k46_14 : mjCode 46 14 = some (.aload_n 0, 1, 0, 0) := by decide +kernel
theorem p46_14 {l0 s0 s1 : Int} {q1 q2 q3 : MV} {ds : Ds} {m : Mm} {Q : Ds → Mm → List MV → Prop} : WP 46 14 [(2, l0), q1, q2, q3] [(0, s0), (2, s1)] ds m Q = (WP 46 15 [(2, l0), q1, q2, q3] [(2, l0), (0, s0), (2, s1)] ds m Q) := P_nx k46_14 rfl
set_option maxRecDepth 20000 in
theorem k46_15 : mjCode 46 15 = some (.lload_n 2, 1, 0, 0) := by decide +kernel
theorem p46_15 {l2 s0 s1 s2 : Int} {q0 q1 q3 : MV} {ds : Ds} {m : Mm} {Q : Ds → Mm → List MV → Prop} : WP 46 15 [q0, q1, (1, l2), q3] [(2, s0), (0, s1), (2, s2)] ds m Q = (WP 46 16 [q0, q1, (1, l2), q3] [(1, l2), (2, s0), (0, s1), (2, s2)] ds m Q) := P_nx k46_15 rfl
set_option maxRecDepth 20000 in
theorem k46_16 : mjCode 46 16 = some (.invokevirtual 23, 3, 50, 2) := by decide +kernel
theorem p46_16 {s0 s1 s2 s3 : Int} {q0 q1 q2 q3 : MV} {ds : Ds} {m : Mm} {Q : Ds → Mm → List MV → Prop} : WP 46 16 [q0, q1, q2, q3] [(1, s0), (2, s1), (0, s2), (2, s3)] ds m Q = ((dk ds s1 = 4 ∧ WP 49 0 [(2, s1), (1, s0), (3, 0)] [] ds m (fun d2 m2 r2 => WP 46 19 [q0, q1, q2, q3] (r2 ++ [(0, s2), (2, s3)]) d2 m2 Q))) := P_cv k46_16 mx49 mo49 rfl rfl rfl rfl rfl rfl rfl rfl
set_option maxRecDepth 20000 in
theorem k46_19 : mjCode 46 19 = some (.lastore, 1, 0, 0) := by decide +kernel
theorem p46_19 {s0 s1 s2 : Int} {q0 q1 q2 q3 : MV} {ds : Ds} {m : Mm} {Q : Ds → Mm → List MV → Prop} : WP 46 19 [q0, q1, q2, q3] [(1, s0), (0, s1), (2, s2)] ds m Q = ((dk ds s2 = 12 ∧ 0 ≤ s1 ∧ s1 < dl ds s2 ∧ WP 46 20 [q0, q1, q2, q3] [] ds (up m s2 s1 s0) Q)) := P_s3 k46_19 rfl
set_option maxRecDepth 20000 in
theorem k46_20 : mjCode 46 20 = some (.return_, 1, 0, 0) := by decide +kernel
theorem p46_20 {q0 q1 q2 q3 : MV} {ds : Ds} {m : Mm} {Q : Ds → Mm → List MV → Prop} : WP 46 20 [q0, q1, q2, q3] [] ds m Q = (Q ds m []) := P_rv k46_20 rk46
set_option maxRecDepth 20000 in
theorem k47_0 : mjCode 47 0 = some (.aload_n 0, 1, 0, 0) := by decide +kernel
theorem p47_0 {l0 : Int} {q1 : MV} {ds : Ds} {m : Mm} {Q : Ds → Mm → List MV → Prop} : WP 47 0 [(2, l0), q1] [] ds m Q = (WP 47 1 [(2, l0), q1] [(2, l0)] ds m Q) := P_nx k47_0 rfl
set_option maxRecDepth 20000 in
theorem k47_1 : mjCode 47 1 = some (.iload_n 1, 1, 0, 0) := by decide +kernel
theorem p47_1 {l1 s0 : Int} {q0 : MV} {ds : Ds} {m : Mm} {Q : Ds → Mm → List MV → Prop} : WP 47 1 [q0, (0, l1)] [(2, s0)] ds m Q = (WP 47 2 [q0, (0, l1)] [(0, l1), (2, s0)] ds m Q) := P_nx k47_1 rfl
set_option maxRecDepth 20000 in
theorem k47_2 : mjCode 47 2 = some (.iconst 1, 1, 0, 0) := by decide +kernel
theorem p47_2 {s0 s1 : Int} {q0 q1 : MV} {ds : Ds} {m : Mm} {Q : Ds → Mm → List MV → Prop} : WP 47 2 [q0, q1] [(0, s0), (2, s1)] ds m Q = (WP 47 3 [q0, q1] [(0, 1), (0, s0), (2, s1)] ds m Q) := P_nx k47_2 rfl
set_option maxRecDepth 20000 in
theorem k47_3 : mjCode 47 3 = some (.invokevirtual 19, 3, 46, 3) := by decide +kernel
theorem p47_3 {s0 s1 s2 : Int} {q0 q1 : MV} {ds : Ds} {m : Mm} {Q : Ds → Mm → List MV → Prop} : WP 47 3 [q0, q1] [(0, s0), (0, s1), (2, s2)] ds m Q = ((dk ds s2 = 4 ∧ WP 45 0 [(2, s2), (0, s1), (0, s0)] [] ds m (fun d2 m2 r2 => WP 47 6 [q0, q1] (r2 ++ []) d2 m2 Q))) := P_cv k47_3 mx45 mo45 rfl rfl rfl rfl rfl rfl rfl rfl
set_option maxRecDepth 20000 in
theorem k47_6 : mjCode 47 6 = some (.ifCond .eq 12, 3, 18, 0) := by decide +kernel
theorem p47_6 {s0 : Int} {q0 q1 : MV} {ds : Ds} {m : Mm} {Q : Ds → Mm → List MV → Prop} : WP 47 6 [q0, q1] [(0, s0)] ds m Q = (if s0 = 0 then WP 47 18 [q0, q1] [] ds m Q else WP 47 9 [q0, q1] [] ds m Q) := P_if k47_6 rfl
set_option maxRecDepth 20000 in
theorem k47_9 : mjCode 47 9 = some (.aload_n 0, 1, 0, 0) := by decide +kernel
theorem p47_9 {l0 : Int} {q1 : MV} {ds : Ds} {m : Mm} {Q : Ds → Mm → List MV → Prop} : WP 47 9 [(2, l0), q1] [] ds m Q = (WP 47 10 [(2, l0), q1] [(2, l0)] ds m Q) := P_nx k47_9 rfl
set_option maxRecDepth 20000 in
theorem k47_10 : mjCode 47 10 = some (.getfield 15, 3, 4, 1) := by decide +kernel
theorem p47_10 {s0 : Int} {q0 q1 : MV} {ds : Ds} {m : Mm} {Q : Ds → Mm → List MV → Prop} : WP 47 10 [q0, q1] [(2, s0)] ds m Q = ((dk ds s0 = 4 ∧ WP 47 13 [q0, q1] [(2, m s0 1)] ds m Q)) := P_gd k47_10 rfl
set_option maxRecDepth 20000 in
theorem k47_13 : mjCode 47 13 = some (.iload_n 1, 1, 0, 0) := by decide +kernel
theorem p47_13 {l1 s0 : Int} {q0 : MV} {ds : Ds} {m : Mm} {Q : Ds → Mm → List MV → Prop} : WP 47 13 [q0, (0, l1)] [(2, s0)] ds m Q = (WP 47 14 [q0, (0, l1)] [(0, l1), (2, s0)] ds m Q) := P_nx k47_13 rfl
set_option maxRecDepth 20000 in
theorem k47_14 : mjCode 47 14 = some (.laload, 1, 0, 0) := by decide +kernel
theorem p47_14 {s0 s1 : Int} {q0 q1 : MV} {ds : Ds} {m : Mm} {Q : Ds → Mm → List MV → Prop} : WP 47 14 [q0, q1] [(0, s0), (2, s1)] ds m Q = ((dk ds s1 = 12 ∧ 0 ≤ s0 ∧ s0 < dl ds s1 ∧ WP 47 15 [q0, q1] [(1, m s1 s0)] ds m Q)) := P_g3 k47_14 rfl
set_option maxRecDepth 20000 in
theorem k47_15 : mjCode 47 15 = some (.goto 4, 3, 19, 0) := by decide +kernel
theorem p47_15 {s0 : Int} {q0 q1 : MV} {ds : Ds} {m : Mm} {Q : Ds → Mm → List MV → Prop} : WP 47 15 [q0, q1] [(1, s0)] ds m Q = (WP 47 19 [q0, q1] [(1, s0)] ds m Q) := P_nx k47_15 rfl
set_option maxRecDepth 20000 in
theorem k47_18 : mjCode 47 18 = some (.lconst 0, 1, 0, 0) := by decide +kernel
theorem p47_18 {q0 q1 : MV} {ds : Ds} {m : Mm} {Q : Ds → Mm → List MV → Prop} : WP 47 18 [q0, q1] [] ds m Q = (WP 47 19 [q0, q1] [(1, 0)] ds m Q) := P_nx k47_18 rfl
set_option maxRecDepth 20000 in
theorem k47_19 : mjCode 47 19 = some (.lreturn, 1, 0, 0) := by decide +kernel
theorem p47_19 {s0 : Int} {q0 q1 : MV} {ds : Ds} {m : Mm} {Q : Ds → Mm → List MV → Prop} : WP 47 19 [q0, q1] [(1, s0)] ds m Q = (Q ds m [(1, s0)]) := P_rl k47_19 rk47
set_option maxRecDepth 20000 in
theorem k48_0 : mjCode 48 0 = some (.aload_n 0, 1, 0, 0) := by decide +kernel
theorem p48_0 {l0 : Int} {q1 : MV} {ds : Ds} {m : Mm} {Q : Ds → Mm → List MV → Prop} : WP 48 0 [(2, l0), q1] [] ds m Q = (WP 48 1 [(2, l0), q1] [(2, l0)] ds m Q) := P_nx k48_0 rfl
set_option maxRecDepth 20000 in
theorem k48_1 : mjCode 48 1 = some (.iload_n 1, 1, 0, 0) := by decide +kernel
theorem p48_1 {l1 s0 : Int} {q0 : MV} {ds : Ds} {m : Mm} {Q : Ds → Mm → List MV → Prop} : WP 48 1 [q0, (0, l1)] [(2, s0)] ds m Q = (WP 48 2 [q0, (0, l1)] [(0, l1), (2, s0)] ds m Q) := P_nx k48_1 rfl
set_option maxRecDepth 20000 in
theorem k48_2 : mjCode 48 2 = some (.invokevirtual 27, 3, 48, 2) := by decide +kernel
theorem p48_2 {s0 s1 : Int} {q0 q1 : MV} {ds : Ds} {m : Mm} {Q : Ds → Mm → List MV → Prop} : WP 48 2 [q0, q1] [(0, s0), (2, s1)] ds m Q = ((dk ds s1 = 4 ∧ WP 47 0 [(2, s1), (0, s0)] [] ds m (fun d2 m2 r2 => WP 48 5 [q0, q1] (r2 ++ []) d2 m2 Q))) := P_cv k48_2 mx47 mo47 rfl rfl rfl rfl rfl rfl rfl rfl
set_option maxRecDepth 20000 in
theorem k48_5 : mjCode 48 5 = some (.l2i, 1, 0, 0) := by decide +kernel
theorem p48_5 {s0 : Int} {q0 q1 : MV} {ds : Ds} {m : Mm} {Q : Ds → Mm → List MV → Prop} : WP 48 5 [q0, q1] [(1, s0)] ds m Q = (WP 48 6 [q0, q1] [(0, ji s0)] ds m Q) := P_nx k48_5 rfl
set_option maxRecDepth 20000 in
theorem k48_6 : mjCode 48 6 = some (.ireturn, 1, 0, 0) := by decide +kernel
theorem p48_6 {s0 : Int} {q0 q1 : MV} {ds : Ds} {m : Mm} {Q : Ds → Mm → List MV → Prop} : WP 48 6 [q0, q1] [(0, s0)] ds m Q = (Q ds m [(0, s0)]) := P_ri k48_6 rk48
set_option maxRecDepth 20000 in
theorem k49_0 : mjCode 49 0 = some (.aload_n 0, 1, 0, 0) := by decide +kernel
theorem p49_0 {l0 : Int} {q1 q2 : MV} {ds : Ds} {m : Mm} {Q : Ds → Mm → List MV → Prop} : WP 49 0 [(2, l0), q1, q2] [] ds m Q = (WP 49 1 [(2, l0), q1, q2] [(2, l0)] ds m Q) := P_nx k49_0 rfl
set_option maxRecDepth 20000 in
theorem k49_1 : mjCode 49 1 = some (.getfield 9, 3, 4, 0) := by decide +kernel
theorem p49_1 {s0 : Int} {q0 q1 q2 : MV} {ds : Ds} {m : Mm} {Q : Ds → Mm → List MV → Prop} : WP 49 1 [q0, q1, q2] [(2, s0)] ds m Q = ((dk ds s0 = 4 ∧ WP 49 4 [q0, q1, q2] [(0, m s0 0)] ds m Q)) := P_gd k49_1 rfl
set_option maxRecDepth 20000 in
theorem k49_4 : mjCode 49 4 = some (.tableswitch 42 0 2 #[28, 33, 38], 28, 0, 0) := by decide +kernel
theorem p49_4 {s0 : Int} {q0 q1 q2 : MV} {ds : Ds} {m : Mm} {Q : Ds → Mm → List MV → Prop} : WP 49 4 [q0, q1, q2] [(0, s0)] ds m Q = (if s0 = 0 then WP 49 32 [q0, q1, q2] [] ds m Q else if s0 = 1 then WP 49 37 [q0, q1, q2] [] ds m Q else if s0 = 2 then WP 49 42 [q0, q1, q2] [] ds m Q else WP 49 46 [q0, q1, q2] [] ds m Q) := by
  by_cases h0 : s0 = 0
  · subst h0
    rw [if_pos rfl]
    exact P_nx k49_4 rfl
  rw [if_neg h0]
  by_cases h1 : s0 = 1
  · subst h1
    rw [if_pos rfl]
    exact P_nx k49_4 rfl
  rw [if_neg h1]
  by_cases h2 : s0 = 2
  · subst h2
    rw [if_pos rfl]
    exact P_nx k49_4 rfl
  rw [if_neg h2]
  exact P_nx k49_4 (by simp only [stpI]; rw [if_pos (by omega)]; rfl)
set_option maxRecDepth 20000 in
theorem k49_32 : mjCode 49 32 = some (.lload_n 1, 1, 0, 0) := by decide +kernel
theorem p49_32 {l1 : Int} {q0 q2 : MV} {ds : Ds} {m : Mm} {Q : Ds → Mm → List MV → Prop} : WP 49 32 [q0, (1, l1), q2] [] ds m Q = (WP 49 33 [q0, (1, l1), q2] [(1, l1)] ds m Q) := P_nx k49_32 rfl
set_option maxRecDepth 20000 in
theorem k49_33 : mjCode 49 33 = some (.l2i, 1, 0, 0) := by decide +kernel
theorem p49_33 {s0 : Int} {q0 q1 q2 : MV} {ds : Ds} {m : Mm} {Q : Ds → Mm → List MV → Prop} : WP 49 33 [q0, q1, q2] [(1, s0)] ds m Q = (WP 49 34 [q0, q1, q2] [(0, ji s0)] ds m Q) := P_nx k49_33 rfl
set_option maxRecDepth 20000 in
theorem k49_34 : mjCode 49 34 = some (.i2b, 1, 0, 0) := by decide +kernel
theorem p49_34 {s0 : Int} {q0 q1 q2 : MV} {ds : Ds} {m : Mm} {Q : Ds → Mm → List MV → Prop} : WP 49 34 [q0, q1, q2] [(0, s0)] ds m Q = (WP 49 35 [q0, q1, q2] [(0, jb s0)] ds m Q) := P_nx k49_34 rfl
set_option maxRecDepth 20000 in
theorem k49_35 : mjCode 49 35 = some (.i2l, 1, 0, 0) := by decide +kernel
theorem p49_35 {s0 : Int} {q0 q1 q2 : MV} {ds : Ds} {m : Mm} {Q : Ds → Mm → List MV → Prop} : WP 49 35 [q0, q1, q2] [(0, s0)] ds m Q = (WP 49 36 [q0, q1, q2] [(1, s0)] ds m Q) := P_nx k49_35 rfl
set_option maxRecDepth 20000 in
theorem k49_36 : mjCode 49 36 = some (.lreturn, 1, 0, 0) := by decide +kernel
theorem p49_36 {s0 : Int} {q0 q1 q2 : MV} {ds : Ds} {m : Mm} {Q : Ds → Mm → List MV → Prop} : WP 49 36 [q0, q1, q2] [(1, s0)] ds m Q = (Q ds m [(1, s0)]) := P_rl k49_36 rk49
set_option maxRecDepth 20000 in
theorem k49_37 : mjCode 49 37 = some (.lload_n 1, 1, 0, 0) := by decide +kernel
theorem p49_37 {l1 : Int} {q0 q2 : MV} {ds : Ds} {m : Mm} {Q : Ds → Mm → List MV → Prop} : WP 49 37 [q0, (1, l1), q2] [] ds m Q = (WP 49 38 [q0, (1, l1), q2] [(1, l1)] ds m Q) := P_nx k49_37 rfl
set_option maxRecDepth 20000 in
theorem k49_38 : mjCode 49 38 = some (.l2i, 1, 0, 0) := by decide +kernel
theorem p49_38 {s0 : Int} {q0 q1 q2 : MV} {ds : Ds} {m : Mm} {Q : Ds → Mm → List MV → Prop} : WP 49 38 [q0, q1, q2] [(1, s0)] ds m Q = (WP 49 39 [q0, q1, q2] [(0, ji s0)] ds m Q) := P_nx k49_38 rfl
set_option maxRecDepth 20000 in
theorem k49_39 : mjCode 49 39 = some (.i2s, 1, 0, 0) := by decide +kernel
theorem p49_39 {s0 : Int} {q0 q1 q2 : MV} {ds : Ds} {m : Mm} {Q : Ds → Mm → List MV → Prop} : WP 49 39 [q0, q1, q2] [(0, s0)] ds m Q = (WP 49 40 [q0, q1, q2] [(0, js s0)] ds m Q) := P_nx k49_39 rfl
set_option maxRecDepth 20000 in
theorem k49_40 : mjCode 49 40 = some (.i2l, 1, 0, 0) := by decide +kernel
theorem p49_40 {s0 : Int} {q0 q1 q2 : MV} {ds : Ds} {m : Mm} {Q : Ds → Mm → List MV → Prop} : WP 49 40 [q0, q1, q2] [(0, s0)] ds m Q = (WP 49 41 [q0, q1, q2] [(1, s0)] ds m Q) := P_nx k49_40 rfl
set_option maxRecDepth 20000 in
theorem k49_41 : mjCode 49 41 = some (.lreturn, 1, 0, 0) := by decide +kernel
theorem p49_41 {s0 : Int} {q0 q1 q2 : MV} {ds : Ds} {m : Mm} {Q : Ds → Mm → List MV → Prop} : WP 49 41 [q0, q1, q2] [(1, s0)] ds m Q = (Q ds m [(1, s0)]) := P_rl k49_41 rk49
set_option maxRecDepth 20000 in
theorem k49_42 : mjCode 49 42 = some (.lload_n 1, 1, 0, 0) := by decide +kernel
theorem p49_42 {l1 : Int} {q0 q2 : MV} {ds : Ds} {m : Mm} {Q : Ds → Mm → List MV → Prop} : WP 49 42 [q0, (1, l1), q2] [] ds m Q = (WP 49 43 [q0, (1, l1), q2] [(1, l1)] ds m Q) := P_nx k49_42 rfl
set_option maxRecDepth 20000 in
theorem k49_43 : mjCode 49 43 = some (.l2i, 1, 0, 0) := by decide +kernel
theorem p49_43 {s0 : Int} {q0 q1 q2 : MV} {ds : Ds} {m : Mm} {Q : Ds → Mm → List MV → Prop} : WP 49 43 [q0, q1, q2] [(1, s0)] ds m Q = (WP 49 44 [q0, q1, q2] [(0, ji s0)] ds m Q) := P_nx k49_43 rfl
set_option maxRecDepth 20000 in
theorem k49_44 : mjCode 49 44 = some (.i2l, 1, 0, 0) := by decide +kernel
theorem p49_44 {s0 : Int} {q0 q1 q2 : MV} {ds : Ds} {m : Mm} {Q : Ds → Mm → List MV → Prop} : WP 49 44 [q0, q1, q2] [(0, s0)] ds m Q = (WP 49 45 [q0, q1, q2] [(1, s0)] ds m Q) := P_nx k49_44 rfl
set_option maxRecDepth 20000 in
theorem k49_45 : mjCode 49 45 = some (.lreturn, 1, 0, 0) := by decide +kernel
theorem p49_45 {s0 : Int} {q0 q1 q2 : MV} {ds : Ds} {m : Mm} {Q : Ds → Mm → List MV → Prop} : WP 49 45 [q0, q1, q2] [(1, s0)] ds m Q = (Q ds m [(1, s0)]) := P_rl k49_45 rk49
set_option maxRecDepth 20000 in
theorem k49_46 : mjCode 49 46 = some (.lload_n 1, 1, 0, 0) := by decide +kernel
theorem p49_46 {l1 : Int} {q0 q2 : MV} {ds : Ds} {m : Mm} {Q : Ds → Mm → List MV → Prop} : WP 49 46 [q0, (1, l1), q2] [] ds m Q = (WP 49 47 [q0, (1, l1), q2] [(1, l1)] ds m Q) := P_nx k49_46 rfl
set_option maxRecDepth 20000 in
theorem k49_47 : mjCode 49 47 = some (.lreturn, 1, 0, 0) := by decide +kernel
theorem p49_47 {s0 : Int} {q0 q1 q2 : MV} {ds : Ds} {m : Mm} {Q : Ds → Mm → List MV → Prop} : WP 49 47 [q0, q1, q2] [(1, s0)] ds m Q = (Q ds m [(1, s0)]) := P_rl k49_47 rk49
set_option maxRecDepth 20000 in
theorem k50_0 : mjCode 50 0 = some (.aload_n 0, 1, 0, 0) := by decide +kernel
theorem p50_0 {l0 : Int} {q1 q2 q3 : MV} {ds : Ds} {m : Mm} {Q : Ds → Mm → List MV → Prop} : WP 50 0 [(2, l0), q1, q2, q3] [] ds m Q = (WP 50 1 [(2, l0), q1, q2, q3] [(2, l0)] ds m Q) := P_nx k50_0 rfl
set_option maxRecDepth 20000 in
theorem k50_1 : mjCode 50 1 = some (.invokespecial 3, 3, 0, 1) := by decide +kernel
theorem p50_1 {s0 : Int} {q0 q1 q2 q3 : MV} {ds : Ds} {m : Mm} {Q : Ds → Mm → List MV → Prop} : WP 50 1 [q0, q1, q2, q3] [(2, s0)] ds m Q = (((0 ≤ s0 ∧ ([].map cat).sum ≤ 8) ∧ WP 50 4 [q0, q1, q2, q3] [] ds m Q)) := P_gd k50_1 rfl
set_option maxRecDepth 20000 in
theorem k50_4 : mjCode 50 4 = some (.aload_n 0, 1, 0, 0) := by decide +kernel
theorem p50_4 {l0 : Int} {q1 q2 q3 : MV} {ds : Ds} {m : Mm} {Q : Ds → Mm → List MV → Prop} : WP 50 4 [(2, l0), q1, q2, q3] [] ds m Q = (WP 50 5 [(2, l0), q1, q2, q3] [(2, l0)] ds m Q) := P_nx k50_4 rfl
set_option maxRecDepth 20000 in
theorem k50_5 : mjCode 50 5 = some (.new 9, 3, 0, 0) := by decide +kernel
theorem p50_5 {s0 : Int} {q0 q1 q2 q3 : MV} {ds : Ds} {m : Mm} {Q : Ds → Mm → List MV → Prop} : WP 50 5 [q0, q1, q2, q3] [(2, s0)] ds m Q = (WP 50 8 [q0, q1, q2, q3] [(2, (ds.length : Int)), (2, s0)] (ds ++ [(0, 9)]) (al m (ds.length : Int) (dfl 0)) Q) := P_nx k50_5 rfl
set_option maxRecDepth 20000 in
theorem k50_8 : mjCode 50 8 = some (.dup, 1, 0, 0) := by decide +kernel
theorem p50_8 {s0 s1 : Int} {q0 q1 q2 q3 : MV} {ds : Ds} {m : Mm} {Q : Ds → Mm → List MV → Prop} : WP 50 8 [q0, q1, q2, q3] [(2, s0), (2, s1)] ds m Q = (WP 50 9 [q0, q1, q2, q3] [(2, s0), (2, s0), (2, s1)] ds m Q) := P_nx k50_8 rfl
set_option maxRecDepth 20000 in
theorem k50_9 : mjCode 50 9 = some (.invokespecial 11, 3, 1, 1) := by decide +kernel
theorem p50_9 {s0 s1 s2 : Int} {q0 q1 q2 q3 : MV} {ds : Ds} {m : Mm} {Q : Ds → Mm → List MV → Prop} : WP 50 9 [q0, q1, q2, q3] [(2, s0), (2, s1), (2, s2)] ds m Q = ((dk ds s0 = 0 ∧ WP 0 0 [(2, s0)] [] ds m (fun d2 m2 r2 => WP 50 12 [q0, q1, q2, q3] (r2 ++ [(2, s1), (2, s2)]) d2 m2 Q))) := P_cv k50_9 mx0 mo0 rfl rfl rfl rfl rfl rfl rfl rfl
set_option maxRecDepth 20000 in
theorem k50_12 : mjCode 50 12 = some (.putfield 12, 3, 5, 2) := by decide +kernel
theorem p50_12 {s0 s1 : Int} {q0 q1 q2 q3 : MV} {ds : Ds} {m : Mm} {Q : Ds → Mm → List MV → Prop} : WP 50 12 [q0, q1, q2, q3] [(2, s0), (2, s1)] ds m Q = ((dk ds s1 = 5 ∧ WP 50 15 [q0, q1, q2, q3] [] ds (up m s1 2 s0) Q)) := P_pf k50_12 rfl
set_option maxRecDepth 20000 in
theorem k50_15 : mjCode 50 15 = some (.aload_n 0, 1, 0, 0) := by decide +kernel
theorem p50_15 {l0 : Int} {q1 q2 q3 : MV} {ds : Ds} {m : Mm} {Q : Ds → Mm → List MV → Prop} : WP 50 15 [(2, l0), q1, q2, q3] [] ds m Q = (WP 50 16 [(2, l0), q1, q2, q3] [(2, l0)] ds m Q) := P_nx k50_15 rfl
set_option maxRecDepth 20000 in
theorem k50_16 : mjCode 50 16 = some (.bipush 96, 2, 0, 0) := by decide +kernel
theorem p50_16 {s0 : Int} {q0 q1 q2 q3 : MV} {ds : Ds} {m : Mm} {Q : Ds → Mm → List MV → Prop} : WP 50 16 [q0, q1, q2, q3] [(2, s0)] ds m Q = (WP 50 18 [q0, q1, q2, q3] [(0, 96), (2, s0)] ds m Q) := P_nx k50_16 rfl
set_option maxRecDepth 20000 in
theorem k50_18 : mjCode 50 18 = some (.newarray .int, 2, 10, 0) := by decide +kernel
theorem p50_18 {s0 s1 : Int} {q0 q1 q2 q3 : MV} {ds : Ds} {m : Mm} {Q : Ds → Mm → List MV → Prop} : WP 50 18 [q0, q1, q2, q3] [(0, s0), (2, s1)] ds m Q = (((0 ≤ s0 ∧ s0 ≤ 30000) ∧ WP 50 20 [q0, q1, q2, q3] [(2, (ds.length : Int)), (2, s1)] (ds ++ [(10, s0.toNat)]) (al m (ds.length : Int) (dfl 10)) Q)) := P_gd k50_18 rfl
set_option maxRecDepth 20000 in
theorem k50_20 : mjCode 50 20 = some (.putfield 18, 3, 5, 3) := by decide +kernel
theorem p50_20 {s0 s1 : Int} {q0 q1 q2 q3 : MV} {ds : Ds} {m : Mm} {Q : Ds → Mm → List MV → Prop} : WP 50 20 [q0, q1, q2, q3] [(2, s0), (2, s1)] ds m Q = ((dk ds s1 = 5 ∧ WP 50 23 [q0, q1, q2, q3] [] ds (up m s1 3 s0) Q)) := P_pf k50_20 rfl
set_option maxRecDepth 20000 in
theorem k50_23 : mjCode 50 23 = some (.aload_n 0, 1, 0, 0) := by decide +kernel
theorem p50_23 {l0 : Int} {q1 q2 q3 : MV} {ds : Ds} {m : Mm} {Q : Ds → Mm → List MV → Prop} : WP 50 23 [(2, l0), q1, q2, q3] [] ds m Q = (WP 50 24 [(2, l0), q1, q2, q3] [(2, l0)] ds m Q) := P_nx k50_23 rfl
set_option maxRecDepth 20000 in
theorem k50_24 : mjCode 50 24 = some (.bipush 96, 2, 0, 0) := by decide +kernel
theorem p50_24 {s0 : Int} {q0 q1 q2 q3 : MV} {ds : Ds} {m : Mm} {Q : Ds → Mm → List MV → Prop} : WP 50 24 [q0, q1, q2, q3] [(2, s0)] ds m Q = (WP 50 26 [q0, q1, q2, q3] [(0, 96), (2, s0)] ds m Q) := P_nx k50_24 rfl
set_option maxRecDepth 20000 in
theorem k50_26 : mjCode 50 26 = some (.newarray .int, 2, 10, 0) := by decide +kernel
theorem p50_26 {s0 s1 : Int} {q0 q1 q2 q3 : MV} {ds : Ds} {m : Mm} {Q : Ds → Mm → List MV → Prop} : WP 50 26 [q0, q1, q2, q3] [(0, s0), (2, s1)] ds m Q = (((0 ≤ s0 ∧ s0 ≤ 30000) ∧ WP 50 28 [q0, q1, q2, q3] [(2, (ds.length : Int)), (2, s1)] (ds ++ [(10, s0.toNat)]) (al m (ds.length : Int) (dfl 10)) Q)) := P_gd k50_26 rfl
set_option maxRecDepth 20000 in
theorem k50_28 : mjCode 50 28 = some (.putfield 22, 3, 5, 4) := by decide +kernel
theorem p50_28 {s0 s1 : Int} {q0 q1 q2 q3 : MV} {ds : Ds} {m : Mm} {Q : Ds → Mm → List MV → Prop} : WP 50 28 [q0, q1, q2, q3] [(2, s0), (2, s1)] ds m Q = ((dk ds s1 = 5 ∧ WP 50 31 [q0, q1, q2, q3] [] ds (up m s1 4 s0) Q)) := P_pf k50_28 rfl
set_option maxRecDepth 20000 in
theorem k50_31 : mjCode 50 31 = some (.aload_n 0, 1, 0, 0) := by decide +kernel
theorem p50_31 {l0 : Int} {q1 q2 q3 : MV} {ds : Ds} {m : Mm} {Q : Ds → Mm → List MV → Prop} : WP 50 31 [(2, l0), q1, q2, q3] [] ds m Q = (WP 50 32 [(2, l0), q1, q2, q3] [(2, l0)] ds m Q) := P_nx k50_31 rfl
set_option maxRecDepth 20000 in
theorem k50_32 : mjCode 50 32 = some (.bipush 96, 2, 0, 0) := by decide +kernel
theorem p50_32 {s0 : Int} {q0 q1 q2 q3 : MV} {ds : Ds} {m : Mm} {Q : Ds → Mm → List MV → Prop} : WP 50 32 [q0, q1, q2, q3] [(2, s0)] ds m Q = (WP 50 34 [q0, q1, q2, q3] [(0, 96), (2, s0)] ds m Q) := P_nx k50_32 rfl
set_option maxRecDepth 20000 in
theorem k50_34 : mjCode 50 34 = some (.newarray .int, 2, 10, 0) := by decide +kernel
theorem p50_34 {s0 s1 : Int} {q0 q1 q2 q3 : MV} {ds : Ds} {m : Mm} {Q : Ds → Mm → List MV → Prop} : WP 50 34 [q0, q1, q2, q3] [(0, s0), (2, s1)] ds m Q = (((0 ≤ s0 ∧ s0 ≤ 30000) ∧ WP 50 36 [q0, q1, q2, q3] [(2, (ds.length : Int)), (2, s1)] (ds ++ [(10, s0.toNat)]) (al m (ds.length : Int) (dfl 10)) Q)) := P_gd k50_34 rfl
set_option maxRecDepth 20000 in
theorem k50_36 : mjCode 50 36 = some (.putfield 25, 3, 5, 5) := by decide +kernel
theorem p50_36 {s0 s1 : Int} {q0 q1 q2 q3 : MV} {ds : Ds} {m : Mm} {Q : Ds → Mm → List MV → Prop} : WP 50 36 [q0, q1, q2, q3] [(2, s0), (2, s1)] ds m Q = ((dk ds s1 = 5 ∧ WP 50 39 [q0, q1, q2, q3] [] ds (up m s1 5 s0) Q)) := P_pf k50_36 rfl
set_option maxRecDepth 20000 in
theorem k50_39 : mjCode 50 39 = some (.aload_n 0, 1, 0, 0) := by decide +kernel
theorem p50_39 {l0 : Int} {q1 q2 q3 : MV} {ds : Ds} {m : Mm} {Q : Ds → Mm → List MV → Prop} : WP 50 39 [(2, l0), q1, q2, q3] [] ds m Q = (WP 50 40 [(2, l0), q1, q2, q3] [(2, l0)] ds m Q) := P_nx k50_39 rfl
set_option maxRecDepth 20000 in
theorem k50_40 : mjCode 50 40 = some (.bipush 96, 2, 0, 0) := by decide +kernel
theorem p50_40 {s0 : Int} {q0 q1 q2 q3 : MV} {ds : Ds} {m : Mm} {Q : Ds → Mm → List MV → Prop} : WP 50 40 [q0, q1, q2, q3] [(2, s0)] ds m Q = (WP 50 42 [q0, q1, q2, q3] [(0, 96), (2, s0)] ds m Q) := P_nx k50_40 rfl
set_option maxRecDepth 20000 in
theorem k50_42 : mjCode 50 42 = some (.newarray .boolean, 2, 11, 0) := by decide +kernel
theorem p50_42 {s0 s1 : Int} {q0 q1 q2 q3 : MV} {ds : Ds} {m : Mm} {Q : Ds → Mm → List MV → Prop} : WP 50 42 [q0, q1, q2, q3] [(0, s0), (2, s1)] ds m Q = (((0 ≤ s0 ∧ s0 ≤ 30000) ∧ WP 50 44 [q0, q1, q2, q3] [(2, (ds.length : Int)), (2, s1)] (ds ++ [(11, s0.toNat)]) (al m (ds.length : Int) (dfl 11)) Q)) := P_gd k50_42 rfl
set_option maxRecDepth 20000 in
theorem k50_44 : mjCode 50 44 = some (.putfield 28, 3, 5, 6) := by decide +kernel
theorem p50_44 {s0 s1 : Int} {q0 q1 q2 q3 : MV} {ds : Ds} {m : Mm} {Q : Ds → Mm → List MV → Prop} : WP 50 44 [q0, q1, q2, q3] [(2, s0), (2, s1)] ds m Q = ((dk ds s1 = 5 ∧ WP 50 47 [q0, q1, q2, q3] [] ds (up m s1 6 s0) Q)) := P_pf k50_44 rfl
set_option maxRecDepth 20000 in
theorem k50_47 : mjCode 50 47 = some (.aload_n 0, 1, 0, 0) := by decide +kernel
theorem p50_47 {l0 : Int} {q1 q2 q3 : MV} {ds : Ds} {m : Mm} {Q : Ds → Mm → List MV → Prop} : WP 50 47 [(2, l0), q1, q2, q3] [] ds m Q = (WP 50 48 [(2, l0), q1, q2, q3] [(2, l0)] ds m Q) := P_nx k50_47 rfl
set_option maxRecDepth 20000 in
theorem k50_48 : mjCode 50 48 = some (.bipush 96, 2, 0, 0) := by decide +kernel
theorem p50_48 {s0 : Int} {q0 q1 q2 q3 : MV} {ds : Ds} {m : Mm} {Q : Ds → Mm → List MV → Prop} : WP 50 48 [q0, q1, q2, q3] [(2, s0)] ds m Q = (WP 50 50 [q0, q1, q2, q3] [(0, 96), (2, s0)] ds m Q) := P_nx k50_48 rfl
set_option maxRecDepth 20000 in
theorem k50_50 : mjCode 50 50 = some (.newarray .boolean, 2, 11, 0) := by decide +kernel
theorem p50_50 {s0 s1 : Int} {q0 q1 q2 q3 : MV} {ds : Ds} {m : Mm} {Q : Ds → Mm → List MV → Prop} : WP 50 50 [q0, q1, q2, q3] [(0, s0), (2, s1)] ds m Q = (((0 ≤ s0 ∧ s0 ≤ 30000) ∧ WP 50 52 [q0, q1, q2, q3] [(2, (ds.length : Int)), (2, s1)] (ds ++ [(11, s0.toNat)]) (al m (ds.length : Int) (dfl 11)) Q)) := P_gd k50_50 rfl
set_option maxRecDepth 20000 in
theorem k50_52 : mjCode 50 52 = some (.putfield 32, 3, 5, 7) := by decide +kernel
theorem p50_52 {s0 s1 : Int} {q0 q1 q2 q3 : MV} {ds : Ds} {m : Mm} {Q : Ds → Mm → List MV → Prop} : WP 50 52 [q0, q1, q2, q3] [(2, s0), (2, s1)] ds m Q = ((dk ds s1 = 5 ∧ WP 50 55 [q0, q1, q2, q3] [] ds (up m s1 7 s0) Q)) := P_pf k50_52 rfl
set_option maxRecDepth 20000 in
theorem k50_55 : mjCode 50 55 = some (.aload_n 0, 1, 0, 0) := by decide +kernel
theorem p50_55 {l0 : Int} {q1 q2 q3 : MV} {ds : Ds} {m : Mm} {Q : Ds → Mm → List MV → Prop} : WP 50 55 [(2, l0), q1, q2, q3] [] ds m Q = (WP 50 56 [(2, l0), q1, q2, q3] [(2, l0)] ds m Q) := P_nx k50_55 rfl
set_option maxRecDepth 20000 in
theorem k50_56 : mjCode 50 56 = some (.aload_n 1, 1, 0, 0) := by decide +kernel
theorem p50_56 {l1 s0 : Int} {q0 q2 q3 : MV} {ds : Ds} {m : Mm} {Q : Ds → Mm → List MV → Prop} : WP 50 56 [q0, (2, l1), q2, q3] [(2, s0)] ds m Q = (WP 50 57 [q0, (2, l1), q2, q3] [(2, l1), (2, s0)] ds m Q) := P_nx k50_56 rfl
set_option maxRecDepth 20000 in
theorem k50_57 : mjCode 50 57 = some (.putfield 35, 3, 5, 8) := by decide +kernel
theorem p50_57 {s0 s1 : Int} {q0 q1 q2 q3 : MV} {ds : Ds} {m : Mm} {Q : Ds → Mm → List MV → Prop} : WP 50 57 [q0, q1, q2, q3] [(2, s0), (2, s1)] ds m Q = ((dk ds s1 = 5 ∧ WP 50 60 [q0, q1, q2, q3] [] ds (up m s1 8 s0) Q)) := P_pf k50_57 rfl
set_option maxRecDepth 20000 in
theorem k50_60 : mjCode 50 60 = some (.aload_n 0, 1, 0, 0) := by decide +kernel
theorem p50_60 {l0 : Int} {q1 q2 q3 : MV} {ds : Ds} {m : Mm} {Q : Ds → Mm → List MV → Prop} : WP 50 60 [(2, l0), q1, q2, q3] [] ds m Q = (WP 50 61 [(2, l0), q1, q2, q3] [(2, l0)] ds m Q) := P_nx k50_60 rfl
set_option maxRecDepth 20000 in
theorem k50_61 : mjCode 50 61 = some (.aload_n 2, 1, 0, 0) := by decide +kernel
theorem p50_61 {l2 s0 : Int} {q0 q1 q3 : MV} {ds : Ds} {m : Mm} {Q : Ds → Mm → List MV → Prop} : WP 50 61 [q0, q1, (2, l2), q3] [(2, s0)] ds m Q = (WP 50 62 [q0, q1, (2, l2), q3] [(2, l2), (2, s0)] ds m Q) := P_nx k50_61 rfl
set_option maxRecDepth 20000 in
theorem k50_62 : mjCode 50 62 = some (.putfield 39, 3, 5, 0) := by decide +kernel
theorem p50_62 {s0 s1 : Int} {q0 q1 q2 q3 : MV} {ds : Ds} {m : Mm} {Q : Ds → Mm → List MV → Prop} : WP 50 62 [q0, q1, q2, q3] [(2, s0), (2, s1)] ds m Q = ((dk ds s1 = 5 ∧ WP 50 65 [q0, q1, q2, q3] [] ds (up m s1 0 s0) Q)) := P_pf k50_62 rfl
set_option maxRecDepth 20000 in
theorem k50_65 : mjCode 50 65 = some (.aload_n 0, 1, 0, 0) := by decide +kernel
theorem p50_65 {l0 : Int} {q1 q2 q3 : MV} {ds : Ds} {m : Mm} {Q : Ds → Mm → List MV → Prop} : WP 50 65 [(2, l0), q1, q2, q3] [] ds m Q = (WP 50 66 [(2, l0), q1, q2, q3] [(2, l0)] ds m Q) := P_nx k50_65 rfl
set_option maxRecDepth 20000 in
theorem k50_66 : mjCode 50 66 = some (.aload_n 3, 1, 0, 0) := by decide +kernel
theorem p50_66 {l3 s0 : Int} {q0 q1 q2 : MV} {ds : Ds} {m : Mm} {Q : Ds → Mm → List MV → Prop} : WP 50 66 [q0, q1, q2, (2, l3)] [(2, s0)] ds m Q = (WP 50 67 [q0, q1, q2, (2, l3)] [(2, l3), (2, s0)] ds m Q) := P_nx k50_66 rfl
set_option maxRecDepth 20000 in
theorem k50_67 : mjCode 50 67 = some (.putfield 43, 3, 5, 1) := by decide +kernel
theorem p50_67 {s0 s1 : Int} {q0 q1 q2 q3 : MV} {ds : Ds} {m : Mm} {Q : Ds → Mm → List MV → Prop} : WP 50 67 [q0, q1, q2, q3] [(2, s0), (2, s1)] ds m Q = ((dk ds s1 = 5 ∧ WP 50 70 [q0, q1, q2, q3] [] ds (up m s1 1 s0) Q)) := P_pf k50_67 rfl
set_option maxRecDepth 20000 in
theorem k50_70 : mjCode 50 70 = some (.return_, 1, 0, 0) := by decide +kernel
theorem p50_70 {q0 q1 q2 q3 : MV} {ds : Ds} {m : Mm} {Q : Ds → Mm → List MV → Prop} : WP 50 70 [q0, q1, q2, q3] [] ds m Q = (Q ds m []) := P_rv k50_70 rk50
set_option maxRecDepth 20000 in
theorem k51_0 : mjCode 51 0 = some (.aload_n 0, 1, 0, 0) := by decide +kernel
theorem p51_0 {l0 : Int} {q1 q2 q3 q4 : MV} {ds : Ds} {m : Mm} {Q : Ds → Mm → List MV → Prop} : WP 51 0 [(2, l0), q1, q2, q3, q4] [] ds m Q = (WP 51 1 [(2, l0), q1, q2, q3, q4] [(2, l0)] ds m Q) := P_nx k51_0 rfl
set_option maxRecDepth 20000 in
theorem k51_1 : mjCode 51 1 = some (.aload_n 1, 1, 0, 0) := by decide +kernel
theorem p51_1 {l1 s0 : Int} {q0 q2 q3 q4 : MV} {ds : Ds} {m : Mm} {Q : Ds → Mm → List MV → Prop} : WP 51 1 [q0, (2, l1), q2, q3, q4] [(2, s0)] ds m Q = (WP 51 2 [q0, (2, l1), q2, q3, q4] [(2, l1), (2, s0)] ds m Q) := P_nx k51_1 rfl
set_option maxRecDepth 20000 in
theorem k51_2 : mjCode 51 2 = some (.invokevirtual 47, 3, 54, 2) := by decide +kernel
theorem p51_2 {s0 s1 : Int} {q0 q1 q2 q3 q4 : MV} {ds : Ds} {m : Mm} {Q : Ds → Mm → List MV → Prop} : WP 51 2 [q0, q1, q2, q3, q4] [(2, s0), (2, s1)] ds m Q = ((dk ds s1 = 5 ∧ WP 53 0 [(2, s1), (2, s0), (3, 0), (3, 0)] [] ds m (fun d2 m2 r2 => WP 51 5 [q0, q1, q2, q3, q4] (r2 ++ []) d2 m2 Q))) := P_cv k51_2 mx53 mo53 rfl rfl rfl rfl rfl rfl rfl rfl
set_option maxRecDepth 20000 in
theorem k51_5 : mjCode 51 5 = some (.iconst 0, 1, 0, 0) := by decide +kernel
theorem p51_5 {q0 q1 q2 q3 q4 : MV} {ds : Ds} {m : Mm} {Q : Ds → Mm → List MV → Prop} : WP 51 5 [q0, q1, q2, q3, q4] [] ds m Q = (WP 51 6 [q0, q1, q2, q3, q4] [(0, 0)] ds m Q) := P_nx k51_5 rfl
set_option maxRecDepth 20000 in
theorem k51_6 : mjCode 51 6 = some (.istore 4, 2, 0, 0) := by decide +kernel
theorem p51_6 {l3 s0 : Int} {q0 q1 q2 q4 : MV} {ds : Ds} {m : Mm} {Q : Ds → Mm → List MV → Prop} : WP 51 6 [q0, q1, q2, (0, l3), q4] [(0, s0)] ds m Q = (WP 51 8 [q0, q1, q2, (0, l3), (0, s0)] [] ds m Q) := P_nx k51_6 rfl
set_option maxRecDepth 20000 in
theorem k51_8 : mjCode 51 8 = some (.iload 4, 2, 0, 0) := by decide +kernel
theorem p51_8 {l4 : Int} {q0 q1 q2 q3 : MV} {ds : Ds} {m : Mm} {Q : Ds → Mm → List MV → Prop} : WP 51 8 [q0, q1, q2, q3, (0, l4)] [] ds m Q = (WP 51 10 [q0, q1, q2, q3, (0, l4)] [(0, l4)] ds m Q) := P_nx k51_8 rfl
set_option maxRecDepth 20000 in
theorem k51_10 : mjCode 51 10 = some (.sipush 400, 3, 0, 0) := by decide +kernel
theorem p51_10 {s0 : Int} {q0 q1 q2 q3 q4 : MV} {ds : Ds} {m : Mm} {Q : Ds → Mm → List MV → Prop} : WP 51 10 [q0, q1, q2, q3, q4] [(0, s0)] ds m Q = (WP 51 13 [q0, q1, q2, q3, q4] [(0, 400), (0, s0)] ds m Q) := P_nx k51_10 rfl
set_option maxRecDepth 20000 in
theorem k51_13 : mjCode 51 13 = some (.if_icmp .ge 49, 3, 62, 0) := by decide +kernel
theorem p51_13 {s0 s1 : Int} {q0 q1 q2 q3 q4 : MV} {ds : Ds} {m : Mm} {Q : Ds → Mm → List MV → Prop} : WP 51 13 [q0, q1, q2, q3, q4] [(0, s0), (0, s1)] ds m Q = (if s1 < s0 then WP 51 16 [q0, q1, q2, q3, q4] [] ds m Q else WP 51 62 [q0, q1, q2, q3, q4] [] ds m Q) := P_if k51_13 rfl
set_option maxRecDepth 20000 in
theorem k51_16 : mjCode 51 16 = some (.aload_n 0, 1, 0, 0) := by decide +kernel
theorem p51_16 {l0 : Int} {q1 q2 q3 q4 : MV} {ds : Ds} {m : Mm} {Q : Ds → Mm → List MV → Prop} : WP 51 16 [(2, l0), q1, q2, q3, q4] [] ds m Q = (WP 51 17 [(2, l0), q1, q2, q3, q4] [(2, l0)] ds m Q) := P_nx k51_16 rfl
set_option maxRecDepth 20000 in
theorem k51_17 : mjCode 51 17 = some (.iload 4, 2, 0, 0) := by decide +kernel
theorem p51_17 {l4 s0 : Int} {q0 q1 q2 q3 : MV} {ds : Ds} {m : Mm} {Q : Ds → Mm → List MV → Prop} : WP 51 17 [q0, q1, q2, q3, (0, l4)] [(2, s0)] ds m Q = (WP 51 19 [q0, q1, q2, q3, (0, l4)] [(0, l4), (2, s0)] ds m Q) := P_nx k51_17 rfl
set_option maxRecDepth 20000 in
theorem k51_19 : mjCode 51 19 = some (.putfield 51, 3, 5, 9) := by decide +kernel
theorem p51_19 {s0 s1 : Int} {q0 q1 q2 q3 q4 : MV} {ds : Ds} {m : Mm} {Q : Ds → Mm → List MV → Prop} : WP 51 19 [q0, q1, q2, q3, q4] [(0, s0), (2, s1)] ds m Q = ((dk ds s1 = 5 ∧ WP 51 22 [q0, q1, q2, q3, q4] [] ds (up m s1 9 s0) Q)) := P_pf k51_19 rfl
set_option maxRecDepth 20000 in
theorem k51_22 : mjCode 51 22 = some (.aload_n 0, 1, 0, 0) := by decide +kernel
theorem p51_22 {l0 : Int} {q1 q2 q3 q4 : MV} {ds : Ds} {m : Mm} {Q : Ds → Mm → List MV → Prop} : WP 51 22 [(2, l0), q1, q2, q3, q4] [] ds m Q = (WP 51 23 [(2, l0), q1, q2, q3, q4] [(2, l0)] ds m Q) := P_nx k51_22 rfl
set_option maxRecDepth 20000 in
theorem k51_23 : mjCode 51 23 = some (.getfield 12, 3, 5, 2) := by decide +kernel
theorem p51_23 {s0 : Int} {q0 q1 q2 q3 q4 : MV} {ds : Ds} {m : Mm} {Q : Ds → Mm → List MV → Prop} : WP 51 23 [q0, q1, q2, q3, q4] [(2, s0)] ds m Q = ((dk ds s0 = 5 ∧ WP 51 26 [q0, q1, q2, q3, q4] [(2, m s0 2)] ds m Q)) := P_gd k51_23 rfl
set_option maxRecDepth 20000 in
theorem k51_26 : mjCode 51 26 = some (.invokevirtual 55, 3, 5, 1) := by decide +kernel
theorem p51_26 {s0 : Int} {q0 q1 q2 q3 q4 : MV} {ds : Ds} {m : Mm} {Q : Ds → Mm → List MV → Prop} : WP 51 26 [q0, q1, q2, q3, q4] [(2, s0)] ds m Q = ((dk ds s0 = 0 ∧ WP 4 0 [(2, s0), (3, 0)] [] ds m (fun d2 m2 r2 => WP 51 29 [q0, q1, q2, q3, q4] (r2 ++ []) d2 m2 Q))) := P_cv k51_26 mx4 mo4 rfl rfl rfl rfl rfl rfl rfl rfl
set_option maxRecDepth 20000 in
theorem k51_29 : mjCode 51 29 = some (.aload_n 0, 1, 0, 0) := by decide +kernel
theorem p51_29 {l0 : Int} {q1 q2 q3 q4 : MV} {ds : Ds} {m : Mm} {Q : Ds → Mm → List MV → Prop} : WP 51 29 [(2, l0), q1, q2, q3, q4] [] ds m Q = (WP 51 30 [(2, l0), q1, q2, q3, q4] [(2, l0)] ds m Q) := P_nx k51_29 rfl
set_option maxRecDepth 20000 in
theorem k51_30 : mjCode 51 30 = some (.invokevirtual 58, 3, 57, 1) := by decide +kernel
theorem p51_30 {s0 : Int} {q0 q1 q2 q3 q4 : MV} {ds : Ds} {m : Mm} {Q : Ds → Mm → List MV → Prop} : WP 51 30 [q0, q1, q2, q3, q4] [(2, s0)] ds m Q = ((dk ds s0 = 5 ∧ WP 56 0 [(2, s0), (3, 0), (3, 0), (3, 0), (3, 0), (3, 0)] [] ds m (fun d2 m2 r2 => WP 51 33 [q0, q1, q2, q3, q4] (r2 ++ []) d2 m2 Q))) := P_cv k51_30 mx56 mo56 rfl rfl rfl rfl rfl rfl rfl rfl
set_option maxRecDepth 20000 in
theorem k51_33 : mjCode 51 33 = some (.aload_n 0, 1, 0, 0) := by decide +kernel
theorem p51_33 {l0 : Int} {q1 q2 q3 q4 : MV} {ds : Ds} {m : Mm} {Q : Ds → Mm → List MV → Prop} : WP 51 33 [(2, l0), q1, q2, q3, q4] [] ds m Q = (WP 51 34 [(2, l0), q1, q2, q3, q4] [(2, l0)] ds m Q) := P_nx k51_33 rfl
set_option maxRecDepth 20000 in
theorem k51_34 : mjCode 51 34 = some (.invokevirtual 61, 3, 60, 1) := by decide +kernel
theorem p51_34 {s0 : Int} {q0 q1 q2 q3 q4 : MV} {ds : Ds} {m : Mm} {Q : Ds → Mm → List MV → Prop} : WP 51 34 [q0, q1, q2, q3, q4] [(2, s0)] ds m Q = ((dk ds s0 = 5 ∧ WP 59 0 [(2, s0), (3, 0), (3, 0), (3, 0), (3, 0)] [] ds m (fun d2 m2 r2 => WP 51 37 [q0, q1, q2, q3, q4] (r2 ++ []) d2 m2 Q))) := P_cv k51_34 mx59 mo59 rfl rfl rfl rfl rfl rfl rfl rfl
set_option maxRecDepth 20000 in
theorem k51_37 : mjCode 51 37 = some (.aload_n 0, 1, 0, 0) := by decide +kernel
theorem p51_37 {l0 : Int} {q1 q2 q3 q4 : MV} {ds : Ds} {m : Mm} {Q : Ds → Mm → List MV → Prop} : WP 51 37 [(2, l0), q1, q2, q3, q4] [] ds m Q = (WP 51 38 [(2, l0), q1, q2, q3, q4] [(2, l0)] ds m Q) := P_nx k51_37 rfl
set_option maxRecDepth 20000 in
theorem k51_38 : mjCode 51 38 = some (.invokevirtual 64, 3, 55, 1) := by decide +kernel
theorem p51_38 {s0 : Int} {q0 q1 q2 q3 q4 : MV} {ds : Ds} {m : Mm} {Q : Ds → Mm → List MV → Prop} : WP 51 38 [q0, q1, q2, q3, q4] [(2, s0)] ds m Q = ((dk ds s0 = 5 ∧ WP 54 0 [(2, s0)] [] ds m (fun d2 m2 r2 => WP 51 41 [q0, q1, q2, q3, q4] (r2 ++ []) d2 m2 Q))) := P_cv k51_38 mx54 mo54 rfl rfl rfl rfl rfl rfl rfl rfl
set_option maxRecDepth 20000 in
theorem k51_41 : mjCode 51 41 = some (.ifCond .ne 21, 3, 62, 0) := by decide +kernel
theorem p51_41 {s0 : Int} {q0 q1 q2 q3 q4 : MV} {ds : Ds} {m : Mm} {Q : Ds → Mm → List MV → Prop} : WP 51 41 [q0, q1, q2, q3, q4] [(0, s0)] ds m Q = (if s0 = 0 then WP 51 44 [q0, q1, q2, q3, q4] [] ds m Q else WP 51 62 [q0, q1, q2, q3, q4] [] ds m Q) := P_if k51_41 rfl
set_option maxRecDepth 20000 in
theorem k51_44 : mjCode 51 44 = some (.aload_n 0, 1, 0, 0) := by decide +kernel
theorem p51_44 {l0 : Int} {q1 q2 q3 q4 : MV} {ds : Ds} {m : Mm} {Q : Ds → Mm → List MV → Prop} : WP 51 44 [(2, l0), q1, q2, q3, q4] [] ds m Q = (WP 51 45 [(2, l0), q1, q2, q3, q4] [(2, l0)] ds m Q) := P_nx k51_44 rfl
set_option maxRecDepth 20000 in
theorem k51_45 : mjCode 51 45 = some (.iload_n 2, 1, 0, 0) := by decide +kernel
theorem p51_45 {l2 s0 : Int} {q0 q1 q3 q4 : MV} {ds : Ds} {m : Mm} {Q : Ds → Mm → List MV → Prop} : WP 51 45 [q0, q1, (0, l2), q3, q4] [(2, s0)] ds m Q = (WP 51 46 [q0, q1, (0, l2), q3, q4] [(0, l2), (2, s0)] ds m Q) := P_nx k51_45 rfl
set_option maxRecDepth 20000 in
theorem k51_46 : mjCode 51 46 = some (.iload_n 3, 1, 0, 0) := by decide +kernel
theorem p51_46 {l3 s0 s1 : Int} {q0 q1 q2 q4 : MV} {ds : Ds} {m : Mm} {Q : Ds → Mm → List MV → Prop} : WP 51 46 [q0, q1, q2, (0, l3), q4] [(0, s0), (2, s1)] ds m Q = (WP 51 47 [q0, q1, q2, (0, l3), q4] [(0, l3), (0, s0), (2, s1)] ds m Q) := P_nx k51_46 rfl
set_option maxRecDepth 20000 in
theorem k51_47 : mjCode 51 47 = some (.invokevirtual 68, 3, 56, 3) := by decide +kernel
theorem p51_47 {s0 s1 s2 : Int} {q0 q1 q2 q3 q4 : MV} {ds : Ds} {m : Mm} {Q : Ds → Mm → List MV → Prop} : WP 51 47 [q0, q1, q2, q3, q4] [(0, s0), (0, s1), (2, s2)] ds m Q = ((dk ds s2 = 5 ∧ WP 55 0 [(2, s2), (0, s1), (0, s0)] [] ds m (fun d2 m2 r2 => WP 51 50 [q0, q1, q2, q3, q4] (r2 ++ []) d2 m2 Q))) := P_cv k51_47 mx55 mo55 rfl rfl rfl rfl rfl rfl rfl rfl
set_option maxRecDepth 20000 in
theorem k51_50 : mjCode 51 50 = some (.ifCond .eq 6, 3, 56, 0) := by decide +kernel
theorem p51_50 {s0 : Int} {q0 q1 q2 q3 q4 : MV} {ds : Ds} {m : Mm} {Q : Ds → Mm → List MV → Prop} : WP 51 50 [q0, q1, q2, q3, q4] [(0, s0)] ds m Q = (if s0 = 0 then WP 51 56 [q0, q1, q2, q3, q4] [] ds m Q else WP 51 53 [q0, q1, q2, q3, q4] [] ds m Q) := P_if k51_50 rfl
set_option maxRecDepth 20000 in
theorem k51_53 : mjCode 51 53 = some (.goto 9, 3, 62, 0) := by decide +kernel
theorem p51_53 {q0 q1 q2 q3 q4 : MV} {ds : Ds} {m : Mm} {Q : Ds → Mm → List MV → Prop} : WP 51 53 [q0, q1, q2, q3, q4] [] ds m Q = (WP 51 62 [q0, q1, q2, q3, q4] [] ds m Q) := P_nx k51_53 rfl
set_option maxRecDepth 20000 in
theorem k51_56 : mjCode 51 56 = some (.iinc 4 1, 3, 0, 0) := by decide +kernel
theorem p51_56 {l4 : Int} {q0 q1 q2 q3 : MV} {ds : Ds} {m : Mm} {Q : Ds → Mm → List MV → Prop} : WP 51 56 [q0, q1, q2, q3, (0, l4)] [] ds m Q = (WP 51 59 [q0, q1, q2, q3, (0, w32 (l4 + 1))] [] ds m Q) := P_nx k51_56 rfl
set_option maxRecDepth 20000 in
theorem k51_59 : mjCode 51 59 = some (.goto (-51), 3, 8, 0) := by decide +kernel
theorem p51_59 {q0 q1 q2 q3 q4 : MV} {ds : Ds} {m : Mm} {Q : Ds → Mm → List MV → Prop} : WP 51 59 [q0, q1, q2, q3, q4] [] ds m Q = (WP 51 8 [q0, q1, q2, q3, q4] [] ds m Q) := P_nx k51_59 rfl
set_option maxRecDepth 20000 in
theorem k51_62 : mjCode 51 62 = some (.aload_n 0, 1, 0, 0) := by decide +kernel
theorem p51_62 {l0 : Int} {q1 q2 q3 q4 : MV} {ds : Ds} {m : Mm} {Q : Ds → Mm → List MV → Prop} : WP 51 62 [(2, l0), q1, q2, q3, q4] [] ds m Q = (WP 51 63 [(2, l0), q1, q2, q3, q4] [(2, l0)] ds m Q) := P_nx k51_62 rfl
set_option maxRecDepth 20000 in
theorem k51_63 : mjCode 51 63 = some (.iload_n 2, 1, 0, 0) := by decide +kernel
theorem p51_63 {l2 s0 : Int} {q0 q1 q3 q4 : MV} {ds : Ds} {m : Mm} {Q : Ds → Mm → List MV → Prop} : WP 51 63 [q0, q1, (0, l2), q3, q4] [(2, s0)] ds m Q = (WP 51 64 [q0, q1, (0, l2), q3, q4] [(0, l2), (2, s0)] ds m Q) := P_nx k51_63 rfl
set_option maxRecDepth 20000 in
theorem k51_64 : mjCode 51 64 = some (.iload_n 3, 1, 0, 0) := by decide +kernel
theorem p51_64 {l3 s0 s1 : Int} {q0 q1 q2 q4 : MV} {ds : Ds} {m : Mm} {Q : Ds → Mm → List MV → Prop} : WP 51 64 [q0, q1, q2, (0, l3), q4] [(0, s0), (2, s1)] ds m Q = (WP 51 65 [q0, q1, q2, (0, l3), q4] [(0, l3), (0, s0), (2, s1)] ds m Q) := P_nx k51_64 rfl
set_option maxRecDepth 20000 in
theorem k51_65 : mjCode 51 65 = some (.invokevirtual 72, 3, 53, 3) := by decide +kernel
theorem p51_65 {s0 s1 s2 : Int} {q0 q1 q2 q3 q4 : MV} {ds : Ds} {m : Mm} {Q : Ds → Mm → List MV → Prop} : WP 51 65 [q0, q1, q2, q3, q4] [(0, s0), (0, s1), (2, s2)] ds m Q = ((dk ds s2 = 5 ∧ WP 52 0 [(2, s2), (0, s1), (0, s0)] [] ds m (fun d2 m2 r2 => WP 51 68 [q0, q1, q2, q3, q4] (r2 ++ []) d2 m2 Q))) := P_cv k51_65 mx52 mo52 rfl rfl rfl rfl rfl rfl rfl rfl
set_option maxRecDepth 20000 in
theorem k51_68 : mjCode 51 68 = some (.ireturn, 1, 0, 0) := by decide +kernel
theorem p51_68 {s0 : Int} {q0 q1 q2 q3 q4 : MV} {ds : Ds} {m : Mm} {Q : Ds → Mm → List MV → Prop} : WP 51 68 [q0, q1, q2, q3, q4] [(0, s0)] ds m Q = (((s0 = 0 ∨ s0 = 1) ∧ Q ds m [(0, s0)])) := P_rb k51_68 rk51
set_option maxRecDepth 20000 in
theorem k52_0 : mjCode 52 0 = some (.iload_n 1, 1, 0, 0) := by decide +kernel
theorem p52_0 {l1 : Int} {q0 q2 : MV} {ds : Ds} {m : Mm} {Q : Ds → Mm → List MV → Prop} : WP 52 0 [q0, (0, l1), q2] [] ds m Q = (WP 52 1 [q0, (0, l1), q2] [(0, l1)] ds m Q) := P_nx k52_0 rfl
set_option maxRecDepth 20000 in
theorem k52_1 : mjCode 52 1 = some (.invokestatic 75, 3, 108, 1) := by decide +kernel
theorem p52_1 {s0 : Int} {q0 q1 q2 : MV} {ds : Ds} {m : Mm} {Q : Ds → Mm → List MV → Prop} : WP 52 1 [q0, q1, q2] [(0, s0)] ds m Q = (WP 107 0 [(0, s0)] [] ds m (fun d2 m2 r2 => WP 52 4 [q0, q1, q2] (r2 ++ []) d2 m2 Q)) := P_cs k52_1 mx107 rfl rfl rfl rfl rfl rfl rfl
set_option maxRecDepth 20000 in
theorem k52_4 : mjCode 52 4 = some (.ifCond .eq 13, 3, 17, 0) := by decide +kernel
theorem p52_4 {s0 : Int} {q0 q1 q2 : MV} {ds : Ds} {m : Mm} {Q : Ds → Mm → List MV → Prop} : WP 52 4 [q0, q1, q2] [(0, s0)] ds m Q = (if s0 = 0 then WP 52 17 [q0, q1, q2] [] ds m Q else WP 52 7 [q0, q1, q2] [] ds m Q) := P_if k52_4 rfl
set_option maxRecDepth 20000 in
theorem k52_7 : mjCode 52 7 = some (.aload_n 0, 1, 0, 0) := by decide +kernel
theorem p52_7 {l0 : Int} {q1 q2 : MV} {ds : Ds} {m : Mm} {Q : Ds → Mm → List MV → Prop} : WP 52 7 [(2, l0), q1, q2] [] ds m Q = (WP 52 8 [(2, l0), q1, q2] [(2, l0)] ds m Q) := P_nx k52_7 rfl
set_option maxRecDepth 20000 in
theorem k52_8 : mjCode 52 8 = some (.getfield 25, 3, 5, 5) := by decide +kernel
theorem p52_8 {s0 : Int} {q0 q1 q2 : MV} {ds : Ds} {m : Mm} {Q : Ds → Mm → List MV → Prop} : WP 52 8 [q0, q1, q2] [(2, s0)] ds m Q = ((dk ds s0 = 5 ∧ WP 52 11 [q0, q1, q2] [(2, m s0 5)] ds m Q)) := P_gd k52_8 rfl
set_option maxRecDepth 20000 in
theorem k52_11 : mjCode 52 11 = some (.iload_n 1, 1, 0, 0) := by decide +kernel
theorem p52_11 {l1 s0 : Int} {q0 q2 : MV} {ds : Ds} {m : Mm} {Q : Ds → Mm → List MV → Prop} : WP 52 11 [q0, (0, l1), q2] [(2, s0)] ds m Q = (WP 52 12 [q0, (0, l1), q2] [(0, l1), (2, s0)] ds m Q) := P_nx k52_11 rfl
set_option maxRecDepth 20000 in
theorem k52_12 : mjCode 52 12 = some (.iaload, 1, 0, 0) := by decide +kernel
theorem p52_12 {s0 s1 : Int} {q0 q1 q2 : MV} {ds : Ds} {m : Mm} {Q : Ds → Mm → List MV → Prop} : WP 52 12 [q0, q1, q2] [(0, s0), (2, s1)] ds m Q = ((dk ds s1 = 10 ∧ 0 ≤ s0 ∧ s0 < dl ds s1 ∧ WP 52 13 [q0, q1, q2] [(0, m s1 s0)] ds m Q)) := P_g3 k52_12 rfl
set_option maxRecDepth 20000 in
theorem k52_13 : mjCode 52 13 = some (.iconst (-1), 1, 0, 0) := by decide +kernel
theorem p52_13 {s0 : Int} {q0 q1 q2 : MV} {ds : Ds} {m : Mm} {Q : Ds → Mm → List MV → Prop} : WP 52 13 [q0, q1, q2] [(0, s0)] ds m Q = (WP 52 14 [q0, q1, q2] [(0, (-1)), (0, s0)] ds m Q) := P_nx k52_13 rfl
set_option maxRecDepth 20000 in
theorem k52_14 : mjCode 52 14 = some (.if_icmp .ne 5, 3, 19, 0) := by decide +kernel
theorem p52_14 {s0 s1 : Int} {q0 q1 q2 : MV} {ds : Ds} {m : Mm} {Q : Ds → Mm → List MV → Prop} : WP 52 14 [q0, q1, q2] [(0, s0), (0, s1)] ds m Q = (if s1 = s0 then WP 52 17 [q0, q1, q2] [] ds m Q else WP 52 19 [q0, q1, q2] [] ds m Q) := P_if k52_14 rfl
set_option maxRecDepth 20000 in
theorem k52_17 : mjCode 52 17 = some (.iconst 0, 1, 0, 0) := by decide +kernel
theorem p52_17 {q0 q1 q2 : MV} {ds : Ds} {m : Mm} {Q : Ds → Mm → List MV → Prop} : WP 52 17 [q0, q1, q2] [] ds m Q = (WP 52 18 [q0, q1, q2] [(0, 0)] ds m Q) := P_nx k52_17 rfl
set_option maxRecDepth 20000 in
theorem k52_18 : mjCode 52 18 = some (.ireturn, 1, 0, 0) := by decide +kernel
theorem p52_18 {s0 : Int} {q0 q1 q2 : MV} {ds : Ds} {m : Mm} {Q : Ds → Mm → List MV → Prop} : WP 52 18 [q0, q1, q2] [(0, s0)] ds m Q = (((s0 = 0 ∨ s0 = 1) ∧ Q ds m [(0, s0)])) := P_rb k52_18 rk52
set_option maxRecDepth 20000 in
theorem k52_19 : mjCode 52 19 = some (.iload_n 2, 1, 0, 0) := by decide +kernel
theorem p52_19 {l2 : Int} {q0 q1 : MV} {ds : Ds} {m : Mm} {Q : Ds → Mm → List MV → Prop} : WP 52 19 [q0, q1, (0, l2)] [] ds m Q = (WP 52 20 [q0, q1, (0, l2)] [(0, l2)] ds m Q) := P_nx k52_19 rfl
set_option maxRecDepth 20000 in
theorem k52_20 : mjCode 52 20 = some (.iconst (-1), 1, 0, 0) := by decide +kernel
theorem p52_20 {s0 : Int} {q0 q1 q2 : MV} {ds : Ds} {m : Mm} {Q : Ds → Mm → List MV → Prop} : WP 52 20 [q0, q1, q2] [(0, s0)] ds m Q = (WP 52 21 [q0, q1, q2] [(0, (-1)), (0, s0)] ds m Q) := P_nx k52_20 rfl
set_option maxRecDepth 20000 in
theorem k52_21 : mjCode 52 21 = some (.if_icmp .eq 13, 3, 34, 0) := by decide +kernel
theorem p52_21 {s0 s1 : Int} {q0 q1 q2 : MV} {ds : Ds} {m : Mm} {Q : Ds → Mm → List MV → Prop} : WP 52 21 [q0, q1, q2] [(0, s0), (0, s1)] ds m Q = (if s1 = s0 then WP 52 34 [q0, q1, q2] [] ds m Q else WP 52 24 [q0, q1, q2] [] ds m Q) := P_if k52_21 rfl
set_option maxRecDepth 20000 in
theorem k52_24 : mjCode 52 24 = some (.iload_n 2, 1, 0, 0) := by decide +kernel
theorem p52_24 {l2 : Int} {q0 q1 : MV} {ds : Ds} {m : Mm} {Q : Ds → Mm → List MV → Prop} : WP 52 24 [q0, q1, (0, l2)] [] ds m Q = (WP 52 25 [q0, q1, (0, l2)] [(0, l2)] ds m Q) := P_nx k52_24 rfl
set_option maxRecDepth 20000 in
theorem k52_25 : mjCode 52 25 = some (.aload_n 0, 1, 0, 0) := by decide +kernel
theorem p52_25 {l0 s0 : Int} {q1 q2 : MV} {ds : Ds} {m : Mm} {Q : Ds → Mm → List MV → Prop} : WP 52 25 [(2, l0), q1, q2] [(0, s0)] ds m Q = (WP 52 26 [(2, l0), q1, q2] [(2, l0), (0, s0)] ds m Q) := P_nx k52_25 rfl
set_option maxRecDepth 20000 in
theorem k52_26 : mjCode 52 26 = some (.getfield 25, 3, 5, 5) := by decide +kernel
theorem p52_26 {s0 s1 : Int} {q0 q1 q2 : MV} {ds : Ds} {m : Mm} {Q : Ds → Mm → List MV → Prop} : WP 52 26 [q0, q1, q2] [(2, s0), (0, s1)] ds m Q = ((dk ds s0 = 5 ∧ WP 52 29 [q0, q1, q2] [(2, m s0 5), (0, s1)] ds m Q)) := P_gd k52_26 rfl
set_option maxRecDepth 20000 in
theorem k52_29 : mjCode 52 29 = some (.iload_n 1, 1, 0, 0) := by decide +kernel
theorem p52_29 {l1 s0 s1 : Int} {q0 q2 : MV} {ds : Ds} {m : Mm} {Q : Ds → Mm → List MV → Prop} : WP 52 29 [q0, (0, l1), q2] [(2, s0), (0, s1)] ds m Q = (WP 52 30 [q0, (0, l1), q2] [(0, l1), (2, s0), (0, s1)] ds m Q) := P_nx k52_29 rfl
set_option maxRecDepth 20000 in
theorem k52_30 : mjCode 52 30 = some (.iaload, 1, 0, 0) := by decide +kernel
theorem p52_30 {s0 s1 s2 : Int} {q0 q1 q2 : MV} {ds : Ds} {m : Mm} {Q : Ds → Mm → List MV → Prop} : WP 52 30 [q0, q1, q2] [(0, s0), (2, s1), (0, s2)] ds m Q = ((dk ds s1 = 10 ∧ 0 ≤ s0 ∧ s0 < dl ds s1 ∧ WP 52 31 [q0, q1, q2] [(0, m s1 s0), (0, s2)] ds m Q)) := P_g3 k52_30 rfl
set_option maxRecDepth 20000 in
theorem k52_31 : mjCode 52 31 = some (.if_icmp .ne 7, 3, 38, 0) := by decide +kernel
theorem p52_31 {s0 s1 : Int} {q0 q1 q2 : MV} {ds : Ds} {m : Mm} {Q : Ds → Mm → List MV → Prop} : WP 52 31 [q0, q1, q2] [(0, s0), (0, s1)] ds m Q = (if s1 = s0 then WP 52 34 [q0, q1, q2] [] ds m Q else WP 52 38 [q0, q1, q2] [] ds m Q) := P_if k52_31 rfl
set_option maxRecDepth 20000 in
theorem k52_34 : mjCode 52 34 = some (.iconst 1, 1, 0, 0) := by decide +kernel
theorem p52_34 {q0 q1 q2 : MV} {ds : Ds} {m : Mm} {Q : Ds → Mm → List MV → Prop} : WP 52 34 [q0, q1, q2] [] ds m Q = (WP 52 35 [q0, q1, q2] [(0, 1)] ds m Q) := P_nx k52_34 rfl
set_option maxRecDepth 20000 in
theorem k52_35 : mjCode 52 35 = some (.goto 4, 3, 39, 0) := by decide +kernel
theorem p52_35 {s0 : Int} {q0 q1 q2 : MV} {ds : Ds} {m : Mm} {Q : Ds → Mm → List MV → Prop} : WP 52 35 [q0, q1, q2] [(0, s0)] ds m Q = (WP 52 39 [q0, q1, q2] [(0, s0)] ds m Q) := P_nx k52_35 rfl
set_option maxRecDepth 20000 in
theorem k52_38 : mjCode 52 38 = some (.iconst 0, 1, 0, 0) := by decide +kernel
theorem p52_38 {q0 q1 q2 : MV} {ds : Ds} {m : Mm} {Q : Ds → Mm → List MV → Prop} : WP 52 38 [q0, q1, q2] [] ds m Q = (WP 52 39 [q0, q1, q2] [(0, 0)] ds m Q) := P_nx k52_38 rfl
set_option maxRecDepth 20000 in
theorem k52_39 : mjCode 52 39 = some (.ireturn, 1, 0, 0) := by decide +kernel
theorem p52_39 {s0 : Int} {q0 q1 q2 : MV} {ds : Ds} {m : Mm} {Q : Ds → Mm → List MV → Prop} : WP 52 39 [q0, q1, q2] [(0, s0)] ds m Q = (((s0 = 0 ∨ s0 = 1) ∧ Q ds m [(0, s0)])) := P_rb k52_39 rk52
set_option maxRecDepth 20000 in
theorem k53_0 : mjCode 53 0 = some (.aload_n 0, 1, 0, 0) := by decide +kernel
theorem p53_0 {l0 : Int} {q1 q2 q3 : MV} {ds : Ds} {m : Mm} {Q : Ds → Mm → List MV → Prop} : WP 53 0 [(2, l0), q1, q2, q3] [] ds m Q = (WP 53 1 [(2, l0), q1, q2, q3] [(2, l0)] ds m Q) := P_nx k53_0 rfl
set_option maxRecDepth 20000 in
theorem k53_1 : mjCode 53 1 = some (.aload_n 1, 1, 0, 0) := by decide +kernel
theorem p53_1 {l1 s0 : Int} {q0 q2 q3 : MV} {ds : Ds} {m : Mm} {Q : Ds → Mm → List MV → Prop} : WP 53 1 [q0, (2, l1), q2, q3] [(2, s0)] ds m Q = (WP 53 2 [q0, (2, l1), q2, q3] [(2, l1), (2, s0)] ds m Q) := P_nx k53_1 rfl
set_option maxRecDepth 20000 in
theorem k53_2 : mjCode 53 2 = some (.putfield 35, 3, 5, 8) := by decide +kernel
theorem p53_2 {s0 s1 : Int} {q0 q1 q2 q3 : MV} {ds : Ds} {m : Mm} {Q : Ds → Mm → List MV → Prop} : WP 53 2 [q0, q1, q2, q3] [(2, s0), (2, s1)] ds m Q = ((dk ds s1 = 5 ∧ WP 53 5 [q0, q1, q2, q3] [] ds (up m s1 8 s0) Q)) := P_pf k53_2 rfl
set_option maxRecDepth 20000 in
theorem k53_5 : mjCode 53 5 = some (.aload_n 0, 1, 0, 0) := by decide +kernel
theorem p53_5 {l0 : Int} {q1 q2 q3 : MV} {ds : Ds} {m : Mm} {Q : Ds → Mm → List MV → Prop} : WP 53 5 [(2, l0), q1, q2, q3] [] ds m Q = (WP 53 6 [(2, l0), q1, q2, q3] [(2, l0)] ds m Q) := P_nx k53_5 rfl
set_option maxRecDepth 20000 in
theorem k53_6 : mjCode 53 6 = some (.iconst 1, 1, 0, 0) := by decide +kernel
theorem p53_6 {s0 : Int} {q0 q1 q2 q3 : MV} {ds : Ds} {m : Mm} {Q : Ds → Mm → List MV → Prop} : WP 53 6 [q0, q1, q2, q3] [(2, s0)] ds m Q = (WP 53 7 [q0, q1, q2, q3] [(0, 1), (2, s0)] ds m Q) := P_nx k53_6 rfl
set_option maxRecDepth 20000 in
theorem k53_7 : mjCode 53 7 = some (.putfield 79, 3, 5, 10) := by decide +kernel
theorem p53_7 {s0 s1 : Int} {q0 q1 q2 q3 : MV} {ds : Ds} {m : Mm} {Q : Ds → Mm → List MV → Prop} : WP 53 7 [q0, q1, q2, q3] [(0, s0), (2, s1)] ds m Q = ((dk ds s1 = 5 ∧ WP 53 10 [q0, q1, q2, q3] [] ds (up m s1 10 s0) Q)) := P_pf k53_7 rfl
set_option maxRecDepth 20000 in
theorem k53_10 : mjCode 53 10 = some (.aload_n 0, 1, 0, 0) := by decide +kernel
theorem p53_10 {l0 : Int} {q1 q2 q3 : MV} {ds : Ds} {m : Mm} {Q : Ds → Mm → List MV → Prop} : WP 53 10 [(2, l0), q1, q2, q3] [] ds m Q = (WP 53 11 [(2, l0), q1, q2, q3] [(2, l0)] ds m Q) := P_nx k53_10 rfl
set_option maxRecDepth 20000 in
theorem k53_11 : mjCode 53 11 = some (.iconst 0, 1, 0, 0) := by decide +kernel
theorem p53_11 {s0 : Int} {q0 q1 q2 q3 : MV} {ds : Ds} {m : Mm} {Q : Ds → Mm → List MV → Prop} : WP 53 11 [q0, q1, q2, q3] [(2, s0)] ds m Q = (WP 53 12 [q0, q1, q2, q3] [(0, 0), (2, s0)] ds m Q) := P_nx k53_11 rfl
set_option maxRecDepth 20000 in
theorem k53_12 : mjCode 53 12 = some (.putfield 82, 3, 5, 11) := by decide +kernel
theorem p53_12 {s0 s1 : Int} {q0 q1 q2 q3 : MV} {ds : Ds} {m : Mm} {Q : Ds → Mm → List MV → Prop} : WP 53 12 [q0, q1, q2, q3] [(0, s0), (2, s1)] ds m Q = ((dk ds s1 = 5 ∧ WP 53 15 [q0, q1, q2, q3] [] ds (up m s1 11 s0) Q)) := P_pf k53_12 rfl
set_option maxRecDepth 20000 in
theorem k53_15 : mjCode 53 15 = some (.aload_n 0, 1, 0, 0) := by decide +kernel
theorem p53_15 {l0 : Int} {q1 q2 q3 : MV} {ds : Ds} {m : Mm} {Q : Ds → Mm → List MV → Prop} : WP 53 15 [(2, l0), q1, q2, q3] [] ds m Q = (WP 53 16 [(2, l0), q1, q2, q3] [(2, l0)] ds m Q) := P_nx k53_15 rfl
set_option maxRecDepth 20000 in
theorem k53_16 : mjCode 53 16 = some (.iconst 0, 1, 0, 0) := by decide +kernel
theorem p53_16 {s0 : Int} {q0 q1 q2 q3 : MV} {ds : Ds} {m : Mm} {Q : Ds → Mm → List MV → Prop} : WP 53 16 [q0, q1, q2, q3] [(2, s0)] ds m Q = (WP 53 17 [q0, q1, q2, q3] [(0, 0), (2, s0)] ds m Q) := P_nx k53_16 rfl
set_option maxRecDepth 20000 in
theorem k53_17 : mjCode 53 17 = some (.putfield 85, 3, 5, 12) := by decide +kernel
theorem p53_17 {s0 s1 : Int} {q0 q1 q2 q3 : MV} {ds : Ds} {m : Mm} {Q : Ds → Mm → List MV → Prop} : WP 53 17 [q0, q1, q2, q3] [(0, s0), (2, s1)] ds m Q = ((dk ds s1 = 5 ∧ WP 53 20 [q0, q1, q2, q3] [] ds (up m s1 12 s0) Q)) := P_pf k53_17 rfl
set_option maxRecDepth 20000 in
theorem k53_20 : mjCode 53 20 = some (.aload_n 0, 1, 0, 0) := by decide +kernel
theorem p53_20 {l0 : Int} {q1 q2 q3 : MV} {ds : Ds} {m : Mm} {Q : Ds → Mm → List MV → Prop} : WP 53 20 [(2, l0), q1, q2, q3] [] ds m Q = (WP 53 21 [(2, l0), q1, q2, q3] [(2, l0)] ds m Q) := P_nx k53_20 rfl
set_option maxRecDepth 20000 in
theorem k53_21 : mjCode 53 21 = some (.getfield 43, 3, 5, 1) := by decide +kernel
theorem p53_21 {s0 : Int} {q0 q1 q2 q3 : MV} {ds : Ds} {m : Mm} {Q : Ds → Mm → List MV → Prop} : WP 53 21 [q0, q1, q2, q3] [(2, s0)] ds m Q = ((dk ds s0 = 5 ∧ WP 53 24 [q0, q1, q2, q3] [(2, m s0 1)] ds m Q)) := P_gd k53_21 rfl
set_option maxRecDepth 20000 in
theorem k53_24 : mjCode 53 24 = some (.iconst 0, 1, 0, 0) := by decide +kernel
theorem p53_24 {s0 : Int} {q0 q1 q2 q3 : MV} {ds : Ds} {m : Mm} {Q : Ds → Mm → List MV → Prop} : WP 53 24 [q0, q1, q2, q3] [(2, s0)] ds m Q = (WP 53 25 [q0, q1, q2, q3] [(0, 0), (2, s0)] ds m Q) := P_nx k53_24 rfl
set_option maxRecDepth 20000 in
theorem k53_25 : mjCode 53 25 = some (.putfield 88, 3, 2, 4) := by decide +kernel
theorem p53_25 {s0 s1 : Int} {q0 q1 q2 q3 : MV} {ds : Ds} {m : Mm} {Q : Ds → Mm → List MV → Prop} : WP 53 25 [q0, q1, q2, q3] [(0, s0), (2, s1)] ds m Q = ((dk ds s1 = 2 ∧ WP 53 28 [q0, q1, q2, q3] [] ds (up m s1 4 s0) Q)) := P_pf k53_25 rfl
set_option maxRecDepth 20000 in
theorem k53_28 : mjCode 53 28 = some (.aload_n 0, 1, 0, 0) := by decide +kernel
theorem p53_28 {l0 : Int} {q1 q2 q3 : MV} {ds : Ds} {m : Mm} {Q : Ds → Mm → List MV → Prop} : WP 53 28 [(2, l0), q1, q2, q3] [] ds m Q = (WP 53 29 [(2, l0), q1, q2, q3] [(2, l0)] ds m Q) := P_nx k53_28 rfl
set_option maxRecDepth 20000 in
theorem k53_29 : mjCode 53 29 = some (.getfield 12, 3, 5, 2) := by decide +kernel
theorem p53_29 {s0 : Int} {q0 q1 q2 q3 : MV} {ds : Ds} {m : Mm} {Q : Ds → Mm → List MV → Prop} : WP 53 29 [q0, q1, q2, q3] [(2, s0)] ds m Q = ((dk ds s0 = 5 ∧ WP 53 32 [q0, q1, q2, q3] [(2, m s0 2)] ds m Q)) := P_gd k53_29 rfl
set_option maxRecDepth 20000 in
theorem k53_32 : mjCode 53 32 = some (.aload_n 1, 1, 0, 0) := by decide +kernel
theorem p53_32 {l1 s0 : Int} {q0 q2 q3 : MV} {ds : Ds} {m : Mm} {Q : Ds → Mm → List MV → Prop} : WP 53 32 [q0, (2, l1), q2, q3] [(2, s0)] ds m Q = (WP 53 33 [q0, (2, l1), q2, q3] [(2, l1), (2, s0)] ds m Q) := P_nx k53_32 rfl
set_option maxRecDepth 20000 in
theorem k53_33 : mjCode 53 33 = some (.invokevirtual 93, 3, 2, 2) := by decide +kernel
theorem p53_33 {s0 s1 : Int} {q0 q1 q2 q3 : MV} {ds : Ds} {m : Mm} {Q : Ds → Mm → List MV → Prop} : WP 53 33 [q0, q1, q2, q3] [(2, s0), (2, s1)] ds m Q = ((dk ds s1 = 0 ∧ WP 1 0 [(2, s1), (2, s0), (3, 0)] [] ds m (fun d2 m2 r2 => WP 53 36 [q0, q1, q2, q3] (r2 ++ []) d2 m2 Q))) := P_cv k53_33 mx1 mo1 rfl rfl rfl rfl rfl rfl rfl rfl
set_option maxRecDepth 20000 in
theorem k53_36 : mjCode 53 36 = some (.iconst 0, 1, 0, 0) := by decide +kernel
theorem p53_36 {q0 q1 q2 q3 : MV} {ds : Ds} {m : Mm} {Q : Ds → Mm → List MV → Prop} : WP 53 36 [q0, q1, q2, q3] [] ds m Q = (WP 53 37 [q0, q1, q2, q3] [(0, 0)] ds m Q) := P_nx k53_36 rfl
set_option maxRecDepth 20000 in
theorem k53_37 : mjCode 53 37 = some (.istore_n 2, 1, 0, 0) := by decide +kernel
theorem p53_37 {l1 s0 : Int} {q0 q2 q3 : MV} {ds : Ds} {m : Mm} {Q : Ds → Mm → List MV → Prop} : WP 53 37 [q0, (2, l1), q2, q3] [(0, s0)] ds m Q = (WP 53 38 [q0, (2, l1), (0, s0), q3] [] ds m Q) := P_nx k53_37 rfl
set_option maxRecDepth 20000 in
theorem k53_38 : mjCode 53 38 = some (.iload_n 2, 1, 0, 0) := by decide +kernel
theorem p53_38 {l2 : Int} {q0 q1 q3 : MV} {ds : Ds} {m : Mm} {Q : Ds → Mm → List MV → Prop} : WP 53 38 [q0, q1, (0, l2), q3] [] ds m Q = (WP 53 39 [q0, q1, (0, l2), q3] [(0, l2)] ds m Q) := P_nx k53_38 rfl
set_option maxRecDepth 20000 in
theorem k53_39 : mjCode 53 39 = some (.bipush 96, 2, 0, 0) := by decide +kernel
theorem p53_39 {s0 : Int} {q0 q1 q2 q3 : MV} {ds : Ds} {m : Mm} {Q : Ds → Mm → List MV → Prop} : WP 53 39 [q0, q1, q2, q3] [(0, s0)] ds m Q = (WP 53 41 [q0, q1, q2, q3] [(0, 96), (0, s0)] ds m Q) := P_nx k53_39 rfl
set_option maxRecDepth 20000 in
theorem k53_41 : mjCode 53 41 = some (.if_icmp .ge 44, 3, 85, 0) := by decide +kernel
theorem p53_41 {s0 s1 : Int} {q0 q1 q2 q3 : MV} {ds : Ds} {m : Mm} {Q : Ds → Mm → List MV → Prop} : WP 53 41 [q0, q1, q2, q3] [(0, s0), (0, s1)] ds m Q = (if s1 < s0 then WP 53 44 [q0, q1, q2, q3] [] ds m Q else WP 53 85 [q0, q1, q2, q3] [] ds m Q) := P_if k53_41 rfl
set_option maxRecDepth 20000 in
theorem k53_44 : mjCode 53 44 = some (.aload_n 0, 1, 0, 0) := by decide +kernel
theorem p53_44 {l0 : Int} {q1 q2 q3 : MV} {ds : Ds} {m : Mm} {Q : Ds → Mm → List MV → Prop} : WP 53 44 [(2, l0), q1, q2, q3] [] ds m Q = (WP 53 45 [(2, l0), q1, q2, q3] [(2, l0)] ds m Q) := P_nx k53_44 rfl
set_option maxRecDepth 20000 in
theorem k53_45 : mjCode 53 45 = some (.getfield 18, 3, 5, 3) := by decide +kernel
theorem p53_45 {s0 : Int} {q0 q1 q2 q3 : MV} {ds : Ds} {m : Mm} {Q : Ds → Mm → List MV → Prop} : WP 53 45 [q0, q1, q2, q3] [(2, s0)] ds m Q = ((dk ds s0 = 5 ∧ WP 53 48 [q0, q1, q2, q3] [(2, m s0 3)] ds m Q)) := P_gd k53_45 rfl
set_option maxRecDepth 20000 in
theorem k53_48 : mjCode 53 48 = some (.iload_n 2, 1, 0, 0) := by decide +kernel
theorem p53_48 {l2 s0 : Int} {q0 q1 q3 : MV} {ds : Ds} {m : Mm} {Q : Ds → Mm → List MV → Prop} : WP 53 48 [q0, q1, (0, l2), q3] [(2, s0)] ds m Q = (WP 53 49 [q0, q1, (0, l2), q3] [(0, l2), (2, s0)] ds m Q) := P_nx k53_48 rfl
set_option maxRecDepth 20000 in
theorem k53_49 : mjCode 53 49 = some (.iconst 0, 1, 0, 0) := by decide +kernel
theorem p53_49 {s0 s1 : Int} {q0 q1 q2 q3 : MV} {ds : Ds} {m : Mm} {Q : Ds → Mm → List MV → Prop} : WP 53 49 [q0, q1, q2, q3] [(0, s0), (2, s1)] ds m Q = (WP 53 50 [q0, q1, q2, q3] [(0, 0), (0, s0), (2, s1)] ds m Q) := P_nx k53_49 rfl
set_option maxRecDepth 20000 in
theorem k53_50 : mjCode 53 50 = some (.iastore, 1, 0, 0) := by decide +kernel
theorem p53_50 {s0 s1 s2 : Int} {q0 q1 q2 q3 : MV} {ds : Ds} {m : Mm} {Q : Ds → Mm → List MV → Prop} : WP 53 50 [q0, q1, q2, q3] [(0, s0), (0, s1), (2, s2)] ds m Q = ((dk ds s2 = 10 ∧ 0 ≤ s1 ∧ s1 < dl ds s2 ∧ WP 53 51 [q0, q1, q2, q3] [] ds (up m s2 s1 s0) Q)) := P_s3 k53_50 rfl
set_option maxRecDepth 20000 in
theorem k53_51 : mjCode 53 51 = some (.aload_n 0, 1, 0, 0) := by decide +kernel
theorem p53_51 {l0 : Int} {q1 q2 q3 : MV} {ds : Ds} {m : Mm} {Q : Ds → Mm → List MV → Prop} : WP 53 51 [(2, l0), q1, q2, q3] [] ds m Q = (WP 53 52 [(2, l0), q1, q2, q3] [(2, l0)] ds m Q) := P_nx k53_51 rfl
set_option maxRecDepth 20000 in
theorem k53_52 : mjCode 53 52 = some (.getfield 22, 3, 5, 4) := by decide +kernel
theorem p53_52 {s0 : Int} {q0 q1 q2 q3 : MV} {ds : Ds} {m : Mm} {Q : Ds → Mm → List MV → Prop} : WP 53 52 [q0, q1, q2, q3] [(2, s0)] ds m Q = ((dk ds s0 = 5 ∧ WP 53 55 [q0, q1, q2, q3] [(2, m s0 4)] ds m Q)) := P_gd k53_52 rfl
set_option maxRecDepth 20000 in
theorem k53_55 : mjCode 53 55 = some (.iload_n 2, 1, 0, 0) := by decide +kernel
theorem p53_55 {l2 s0 : Int} {q0 q1 q3 : MV} {ds : Ds} {m : Mm} {Q : Ds → Mm → List MV → Prop} : WP 53 55 [q0, q1, (0, l2), q3] [(2, s0)] ds m Q = (WP 53 56 [q0, q1, (0, l2), q3] [(0, l2), (2, s0)] ds m Q) := P_nx k53_55 rfl
set_option maxRecDepth 20000 in
theorem k53_56 : mjCode 53 56 = some (.iconst 0, 1, 0, 0) := by decide +kernel
theorem p53_56 {s0 s1 : Int} {q0 q1 q2 q3 : MV} {ds : Ds} {m : Mm} {Q : Ds → Mm → List MV → Prop} : WP 53 56 [q0, q1, q2, q3] [(0, s0), (2, s1)] ds m Q = (WP 53 57 [q0, q1, q2, q3] [(0, 0), (0, s0), (2, s1)] ds m Q) := P_nx k53_56 rfl
set_option maxRecDepth 20000 in
theorem k53_57 : mjCode 53 57 = some (.iastore, 1, 0, 0) := by decide +kernel
theorem p53_57 {s0 s1 s2 : Int} {q0 q1 q2 q3 : MV} {ds : Ds} {m : Mm} {Q : Ds → Mm → List MV → Prop} : WP 53 57 [q0, q1, q2, q3] [(0, s0), (0, s1), (2, s2)] ds m Q = ((dk ds s2 = 10 ∧ 0 ≤ s1 ∧ s1 < dl ds s2 ∧ WP 53 58 [q0, q1, q2, q3] [] ds (up m s2 s1 s0) Q)) := P_s3 k53_57 rfl
set_option maxRecDepth 20000 in
theorem k53_58 : mjCode 53 58 = some (.aload_n 0, 1, 0, 0) := by decide +kernel
theorem p53_58 {l0 : Int} {q1 q2 q3 : MV} {ds : Ds} {m : Mm} {Q : Ds → Mm → List MV → Prop} : WP 53 58 [(2, l0), q1, q2, q3] [] ds m Q = (WP 53 59 [(2, l0), q1, q2, q3] [(2, l0)] ds m Q) := P_nx k53_58 rfl
set_option maxRecDepth 20000 in
theorem k53_59 : mjCode 53 59 = some (.getfield 25, 3, 5, 5) := by decide +kernel
theorem p53_59 {s0 : Int} {q0 q1 q2 q3 : MV} {ds : Ds} {m : Mm} {Q : Ds → Mm → List MV → Prop} : WP 53 59 [q0, q1, q2, q3] [(2, s0)] ds m Q = ((dk ds s0 = 5 ∧ WP 53 62 [q0, q1, q2, q3] [(2, m s0 5)] ds m Q)) := P_gd k53_59 rfl
set_option maxRecDepth 20000 in
theorem k53_62 : mjCode 53 62 = some (.iload_n 2, 1, 0, 0) := by decide +kernel
theorem p53_62 {l2 s0 : Int} {q0 q1 q3 : MV} {ds : Ds} {m : Mm} {Q : Ds → Mm → List MV → Prop} : WP 53 62 [q0, q1, (0, l2), q3] [(2, s0)] ds m Q = (WP 53 63 [q0, q1, (0, l2), q3] [(0, l2), (2, s0)] ds m Q) := P_nx k53_62 rfl
set_option maxRecDepth 20000 in
theorem k53_63 : mjCode 53 63 = some (.iconst (-1), 1, 0, 0) := by decide +kernel
theorem p53_63 {s0 s1 : Int} {q0 q1 q2 q3 : MV} {ds : Ds} {m : Mm} {Q : Ds → Mm → List MV → Prop} : WP 53 63 [q0, q1, q2, q3] [(0, s0), (2, s1)] ds m Q = (WP 53 64 [q0, q1, q2, q3] [(0, (-1)), (0, s0), (2, s1)] ds m Q) := P_nx k53_63 rfl
set_option maxRecDepth 20000 in
theorem k53_64 : mjCode 53 64 = some (.iastore, 1, 0, 0) := by decide +kernel
theorem p53_64 {s0 s1 s2 : Int} {q0 q1 q2 q3 : MV} {ds : Ds} {m : Mm} {Q : Ds → Mm → List MV → Prop} : WP 53 64 [q0, q1, q2, q3] [(0, s0), (0, s1), (2, s2)] ds m Q = ((dk ds s2 = 10 ∧ 0 ≤ s1 ∧ s1 < dl ds s2 ∧ WP 53 65 [q0, q1, q2, q3] [] ds (up m s2 s1 s0) Q)) := P_s3 k53_64 rfl
set_option maxRecDepth 20000 in
theorem k53_65 : mjCode 53 65 = some (.aload_n 0, 1, 0, 0) := by decide +kernel
theorem p53_65 {l0 : Int} {q1 q2 q3 : MV} {ds : Ds} {m : Mm} {Q : Ds → Mm → List MV → Prop} : WP 53 65 [(2, l0), q1, q2, q3] [] ds m Q = (WP 53 66 [(2, l0), q1, q2, q3] [(2, l0)] ds m Q) := P_nx k53_65 rfl
set_option maxRecDepth 20000 in
theorem k53_66 : mjCode 53 66 = some (.getfield 28, 3, 5, 6) := by decide +kernel
theorem p53_66 {s0 : Int} {q0 q1 q2 q3 : MV} {ds : Ds} {m : Mm} {Q : Ds → Mm → List MV → Prop} : WP 53 66 [q0, q1, q2, q3] [(2, s0)] ds m Q = ((dk ds s0 = 5 ∧ WP 53 69 [q0, q1, q2, q3] [(2, m s0 6)] ds m Q)) := P_gd k53_66 rfl
set_option maxRecDepth 20000 in
theorem k53_69 : mjCode 53 69 = some (.iload_n 2, 1, 0, 0) := by decide +kernel
theorem p53_69 {l2 s0 : Int} {q0 q1 q3 : MV} {ds : Ds} {m : Mm} {Q : Ds → Mm → List MV → Prop} : WP 53 69 [q0, q1, (0, l2), q3] [(2, s0)] ds m Q = (WP 53 70 [q0, q1, (0, l2), q3] [(0, l2), (2, s0)] ds m Q) := P_nx k53_69 rfl
set_option maxRecDepth 20000 in
theorem k53_70 : mjCode 53 70 = some (.iconst 0, 1, 0, 0) := by decide +kernel
theorem p53_70 {s0 s1 : Int} {q0 q1 q2 q3 : MV} {ds : Ds} {m : Mm} {Q : Ds → Mm → List MV → Prop} : WP 53 70 [q0, q1, q2, q3] [(0, s0), (2, s1)] ds m Q = (WP 53 71 [q0, q1, q2, q3] [(0, 0), (0, s0), (2, s1)] ds m Q) := P_nx k53_70 rfl
set_option maxRecDepth 20000 in
theorem k53_71 : mjCode 53 71 = some (.bastore, 1, 0, 0) := by decide +kernel
theorem p53_71 {s0 s1 s2 : Int} {q0 q1 q2 q3 : MV} {ds : Ds} {m : Mm} {Q : Ds → Mm → List MV → Prop} : WP 53 71 [q0, q1, q2, q3] [(0, s0), (0, s1), (2, s2)] ds m Q = (((s0 = 0 ∨ s0 = 1) ∧ dk ds s2 = 11 ∧ 0 ≤ s1 ∧ s1 < dl ds s2 ∧ WP 53 72 [q0, q1, q2, q3] [] ds (up m s2 s1 s0) Q)) := P_s4 k53_71 rfl
set_option maxRecDepth 20000 in
theorem k53_72 : mjCode 53 72 = some (.aload_n 0, 1, 0, 0) := by decide +kernel
theorem p53_72 {l0 : Int} {q1 q2 q3 : MV} {ds : Ds} {m : Mm} {Q : Ds → Mm → List MV → Prop} : WP 53 72 [(2, l0), q1, q2, q3] [] ds m Q = (WP 53 73 [(2, l0), q1, q2, q3] [(2, l0)] ds m Q) := P_nx k53_72 rfl
set_option maxRecDepth 20000 in
theorem k53_73 : mjCode 53 73 = some (.getfield 32, 3, 5, 7) := by decide +kernel
theorem p53_73 {s0 : Int} {q0 q1 q2 q3 : MV} {ds : Ds} {m : Mm} {Q : Ds → Mm → List MV → Prop} : WP 53 73 [q0, q1, q2, q3] [(2, s0)] ds m Q = ((dk ds s0 = 5 ∧ WP 53 76 [q0, q1, q2, q3] [(2, m s0 7)] ds m Q)) := P_gd k53_73 rfl
set_option maxRecDepth 20000 in
theorem k53_76 : mjCode 53 76 = some (.iload_n 2, 1, 0, 0) := by decide +kernel
theorem p53_76 {l2 s0 : Int} {q0 q1 q3 : MV} {ds : Ds} {m : Mm} {Q : Ds → Mm → List MV → Prop} : WP 53 76 [q0, q1, (0, l2), q3] [(2, s0)] ds m Q = (WP 53 77 [q0, q1, (0, l2), q3] [(0, l2), (2, s0)] ds m Q) := P_nx k53_76 rfl
set_option maxRecDepth 20000 in
theorem k53_77 : mjCode 53 77 = some (.iconst 0, 1, 0, 0) := by decide +kernel
theorem p53_77 {s0 s1 : Int} {q0 q1 q2 q3 : MV} {ds : Ds} {m : Mm} {Q : Ds → Mm → List MV → Prop} : WP 53 77 [q0, q1, q2, q3] [(0, s0), (2, s1)] ds m Q = (WP 53 78 [q0, q1, q2, q3] [(0, 0), (0, s0), (2, s1)] ds m Q) := P_nx k53_77 rfl
set_option maxRecDepth 20000 in
theorem k53_78 : mjCode 53 78 = some (.bastore, 1, 0, 0) := by decide +kernel
theorem p53_78 {s0 s1 s2 : Int} {q0 q1 q2 q3 : MV} {ds : Ds} {m : Mm} {Q : Ds → Mm → List MV → Prop} : WP 53 78 [q0, q1, q2, q3] [(0, s0), (0, s1), (2, s2)] ds m Q = (((s0 = 0 ∨ s0 = 1) ∧ dk ds s2 = 11 ∧ 0 ≤ s1 ∧ s1 < dl ds s2 ∧ WP 53 79 [q0, q1, q2, q3] [] ds (up m s2 s1 s0) Q)) := P_s4 k53_78 rfl
set_option maxRecDepth 20000 in
theorem k53_79 : mjCode 53 79 = some (.iinc 2 1, 3, 0, 0) := by decide +kernel
theorem p53_79 {l2 : Int} {q0 q1 q3 : MV} {ds : Ds} {m : Mm} {Q : Ds → Mm → List MV → Prop} : WP 53 79 [q0, q1, (0, l2), q3] [] ds m Q = (WP 53 82 [q0, q1, (0, w32 (l2 + 1)), q3] [] ds m Q) := P_nx k53_79 rfl
set_option maxRecDepth 20000 in
theorem k53_82 : mjCode 53 82 = some (.goto (-44), 3, 38, 0) := by decide +kernel
theorem p53_82 {q0 q1 q2 q3 : MV} {ds : Ds} {m : Mm} {Q : Ds → Mm → List MV → Prop} : WP 53 82 [q0, q1, q2, q3] [] ds m Q = (WP 53 38 [q0, q1, q2, q3] [] ds m Q) := P_nx k53_82 rfl
set_option maxRecDepth 20000 in
theorem k53_85 : mjCode 53 85 = some (.aload_n 0, 1, 0, 0) := by decide +kernel
theorem p53_85 {l0 : Int} {q1 q2 q3 : MV} {ds : Ds} {m : Mm} {Q : Ds → Mm → List MV → Prop} : WP 53 85 [(2, l0), q1, q2, q3] [] ds m Q = (WP 53 86 [(2, l0), q1, q2, q3] [(2, l0)] ds m Q) := P_nx k53_85 rfl
set_option maxRecDepth 20000 in
theorem k53_86 : mjCode 53 86 = some (.getfield 39, 3, 5, 0) := by decide +kernel
theorem p53_86 {s0 : Int} {q0 q1 q2 q3 : MV} {ds : Ds} {m : Mm} {Q : Ds → Mm → List MV → Prop} : WP 53 86 [q0, q1, q2, q3] [(2, s0)] ds m Q = ((dk ds s0 = 5 ∧ WP 53 89 [q0, q1, q2, q3] [(2, m s0 0)] ds m Q)) := P_gd k53_86 rfl
set_option maxRecDepth 20000 in
theorem k53_89 : mjCode 53 89 = some (.invokevirtual 96, 3, 12, 1) := by decide +kernel
theorem p53_89 {s0 : Int} {q0 q1 q2 q3 : MV} {ds : Ds} {m : Mm} {Q : Ds → Mm → List MV → Prop} : WP 53 89 [q0, q1, q2, q3] [(2, s0)] ds m Q = ((dk ds s0 = 1 ∧ WP 11 0 [(2, s0), (3, 0)] [] ds m (fun d2 m2 r2 => WP 53 92 [q0, q1, q2, q3] (r2 ++ []) d2 m2 Q))) := P_cv k53_89 mx11 mo11 rfl rfl rfl rfl rfl rfl rfl rfl
set_option maxRecDepth 20000 in
theorem k53_92 : mjCode 53 92 = some (.iconst 0, 1, 0, 0) := by decide +kernel
theorem p53_92 {q0 q1 q2 q3 : MV} {ds : Ds} {m : Mm} {Q : Ds → Mm → List MV → Prop} : WP 53 92 [q0, q1, q2, q3] [] ds m Q = (WP 53 93 [q0, q1, q2, q3] [(0, 0)] ds m Q) := P_nx k53_92 rfl
set_option maxRecDepth 20000 in
theorem k53_93 : mjCode 53 93 = some (.istore_n 2, 1, 0, 0) := by decide +kernel
theorem p53_93 {l1 s0 : Int} {q0 q2 q3 : MV} {ds : Ds} {m : Mm} {Q : Ds → Mm → List MV → Prop} : WP 53 93 [q0, (2, l1), q2, q3] [(0, s0)] ds m Q = (WP 53 94 [q0, (2, l1), (0, s0), q3] [] ds m Q) := P_nx k53_93 rfl
set_option maxRecDepth 20000 in
theorem k53_94 : mjCode 53 94 = some (.iload_n 2, 1, 0, 0) := by decide +kernel
theorem p53_94 {l2 : Int} {q0 q1 q3 : MV} {ds : Ds} {m : Mm} {Q : Ds → Mm → List MV → Prop} : WP 53 94 [q0, q1, (0, l2), q3] [] ds m Q = (WP 53 95 [q0, q1, (0, l2), q3] [(0, l2)] ds m Q) := P_nx k53_94 rfl
set_option maxRecDepth 20000 in
theorem k53_95 : mjCode 53 95 = some (.aload_n 1, 1, 0, 0) := by decide +kernel
theorem p53_95 {l1 s0 : Int} {q0 q2 q3 : MV} {ds : Ds} {m : Mm} {Q : Ds → Mm → List MV → Prop} : WP 53 95 [q0, (2, l1), q2, q3] [(0, s0)] ds m Q = (WP 53 96 [q0, (2, l1), q2, q3] [(2, l1), (0, s0)] ds m Q) := P_nx k53_95 rfl
set_option maxRecDepth 20000 in
theorem k53_96 : mjCode 53 96 = some (.getfield 101, 3, 3, 8) := by decide +kernel
theorem p53_96 {s0 s1 : Int} {q0 q1 q2 q3 : MV} {ds : Ds} {m : Mm} {Q : Ds → Mm → List MV → Prop} : WP 53 96 [q0, q1, q2, q3] [(2, s0), (0, s1)] ds m Q = ((dk ds s0 = 3 ∧ WP 53 99 [q0, q1, q2, q3] [(0, m s0 8), (0, s1)] ds m Q)) := P_gd k53_96 rfl
set_option maxRecDepth 20000 in
theorem k53_99 : mjCode 53 99 = some (.if_icmp .ge 46, 3, 145, 0) := by decide +kernel
theorem p53_99 {s0 s1 : Int} {q0 q1 q2 q3 : MV} {ds : Ds} {m : Mm} {Q : Ds → Mm → List MV → Prop} : WP 53 99 [q0, q1, q2, q3] [(0, s0), (0, s1)] ds m Q = (if s1 < s0 then WP 53 102 [q0, q1, q2, q3] [] ds m Q else WP 53 145 [q0, q1, q2, q3] [] ds m Q) := P_if k53_99 rfl
set_option maxRecDepth 20000 in
theorem k53_102 : mjCode 53 102 = some (.iload_n 2, 1, 0, 0) := by decide +kernel
theorem p53_102 {l2 : Int} {q0 q1 q3 : MV} {ds : Ds} {m : Mm} {Q : Ds → Mm → List MV → Prop} : WP 53 102 [q0, q1, (0, l2), q3] [] ds m Q = (WP 53 103 [q0, q1, (0, l2), q3] [(0, l2)] ds m Q) := P_nx k53_102 rfl
set_option maxRecDepth 20000 in
theorem k53_103 : mjCode 53 103 = some (.iconst 4, 1, 0, 0) := by decide +kernel
theorem p53_103 {s0 : Int} {q0 q1 q2 q3 : MV} {ds : Ds} {m : Mm} {Q : Ds → Mm → List MV → Prop} : WP 53 103 [q0, q1, q2, q3] [(0, s0)] ds m Q = (WP 53 104 [q0, q1, q2, q3] [(0, 4), (0, s0)] ds m Q) := P_nx k53_103 rfl
set_option maxRecDepth 20000 in
theorem k53_104 : mjCode 53 104 = some (.if_icmp .ge 41, 3, 145, 0) := by decide +kernel
theorem p53_104 {s0 s1 : Int} {q0 q1 q2 q3 : MV} {ds : Ds} {m : Mm} {Q : Ds → Mm → List MV → Prop} : WP 53 104 [q0, q1, q2, q3] [(0, s0), (0, s1)] ds m Q = (if s1 < s0 then WP 53 107 [q0, q1, q2, q3] [] ds m Q else WP 53 145 [q0, q1, q2, q3] [] ds m Q) := P_if k53_104 rfl
set_option maxRecDepth 20000 in
theorem k53_107 : mjCode 53 107 = some (.aload_n 1, 1, 0, 0) := by decide +kernel
theorem p53_107 {l1 : Int} {q0 q2 q3 : MV} {ds : Ds} {m : Mm} {Q : Ds → Mm → List MV → Prop} : WP 53 107 [q0, (2, l1), q2, q3] [] ds m Q = (WP 53 108 [q0, (2, l1), q2, q3] [(2, l1)] ds m Q) := P_nx k53_107 rfl
set_option maxRecDepth 20000 in
theorem k53_108 : mjCode 53 108 = some (.getfield 106, 3, 3, 5) := by decide +kernel
theorem p53_108 {s0 : Int} {q0 q1 q2 q3 : MV} {ds : Ds} {m : Mm} {Q : Ds → Mm → List MV → Prop} : WP 53 108 [q0, q1, q2, q3] [(2, s0)] ds m Q = ((dk ds s0 = 3 ∧ WP 53 111 [q0, q1, q2, q3] [(2, m s0 5)] ds m Q)) := P_gd k53_108 rfl
set_option maxRecDepth 20000 in
theorem k53_111 : mjCode 53 111 = some (.iload_n 2, 1, 0, 0) := by decide +kernel
theorem p53_111 {l2 s0 : Int} {q0 q1 q3 : MV} {ds : Ds} {m : Mm} {Q : Ds → Mm → List MV → Prop} : WP 53 111 [q0, q1, (0, l2), q3] [(2, s0)] ds m Q = (WP 53 112 [q0, q1, (0, l2), q3] [(0, l2), (2, s0)] ds m Q) := P_nx k53_111 rfl
set_option maxRecDepth 20000 in
theorem k53_112 : mjCode 53 112 = some (.iaload, 1, 0, 0) := by decide +kernel
theorem p53_112 {s0 s1 : Int} {q0 q1 q2 q3 : MV} {ds : Ds} {m : Mm} {Q : Ds → Mm → List MV → Prop} : WP 53 112 [q0, q1, q2, q3] [(0, s0), (2, s1)] ds m Q = ((dk ds s1 = 10 ∧ 0 ≤ s0 ∧ s0 < dl ds s1 ∧ WP 53 113 [q0, q1, q2, q3] [(0, m s1 s0)] ds m Q)) := P_g3 k53_112 rfl
set_option maxRecDepth 20000 in
theorem k53_113 : mjCode 53 113 = some (.iconst 4, 1, 0, 0) := by decide +kernel
theorem p53_113 {s0 : Int} {q0 q1 q2 q3 : MV} {ds : Ds} {m : Mm} {Q : Ds → Mm → List MV → Prop} : WP 53 113 [q0, q1, q2, q3] [(0, s0)] ds m Q = (WP 53 114 [q0, q1, q2, q3] [(0, 4), (0, s0)] ds m Q) := P_nx k53_113 rfl
set_option maxRecDepth 20000 in
theorem k53_114 : mjCode 53 114 = some (.imul, 1, 0, 0) := by decide +kernel
theorem p53_114 {s0 s1 : Int} {q0 q1 q2 q3 : MV} {ds : Ds} {m : Mm} {Q : Ds → Mm → List MV → Prop} : WP 53 114 [q0, q1, q2, q3] [(0, s0), (0, s1)] ds m Q = (WP 53 115 [q0, q1, q2, q3] [(0, w32 (s1 * s0))] ds m Q) := P_nx k53_114 rfl
set_option maxRecDepth 20000 in
theorem k53_115 : mjCode 53 115 = some (.aload_n 1, 1, 0, 0) := by decide +kernel
theorem p53_115 {l1 s0 : Int} {q0 q2 q3 : MV} {ds : Ds} {m : Mm} {Q : Ds → Mm → List MV → Prop} : WP 53 115 [q0, (2, l1), q2, q3] [(0, s0)] ds m Q = (WP 53 116 [q0, (2, l1), q2, q3] [(2, l1), (0, s0)] ds m Q) := P_nx k53_115 rfl
set_option maxRecDepth 20000 in
theorem k53_116 : mjCode 53 116 = some (.getfield 109, 3, 3, 6) := by decide +kernel
theorem p53_116 {s0 s1 : Int} {q0 q1 q2 q3 : MV} {ds : Ds} {m : Mm} {Q : Ds → Mm → List MV → Prop} : WP 53 116 [q0, q1, q2, q3] [(2, s0), (0, s1)] ds m Q = ((dk ds s0 = 3 ∧ WP 53 119 [q0, q1, q2, q3] [(2, m s0 6), (0, s1)] ds m Q)) := P_gd k53_116 rfl
set_option maxRecDepth 20000 in
theorem k53_119 : mjCode 53 119 = some (.iload_n 2, 1, 0, 0) := by decide +kernel
theorem p53_119 {l2 s0 s1 : Int} {q0 q1 q3 : MV} {ds : Ds} {m : Mm} {Q : Ds → Mm → List MV → Prop} : WP 53 119 [q0, q1, (0, l2), q3] [(2, s0), (0, s1)] ds m Q = (WP 53 120 [q0, q1, (0, l2), q3] [(0, l2), (2, s0), (0, s1)] ds m Q) := P_nx k53_119 rfl
set_option maxRecDepth 20000 in
theorem k53_120 : mjCode 53 120 = some (.iaload, 1, 0, 0) := by decide +kernel
theorem p53_120 {s0 s1 s2 : Int} {q0 q1 q2 q3 : MV} {ds : Ds} {m : Mm} {Q : Ds → Mm → List MV → Prop} : WP 53 120 [q0, q1, q2, q3] [(0, s0), (2, s1), (0, s2)] ds m Q = ((dk ds s1 = 10 ∧ 0 ≤ s0 ∧ s0 < dl ds s1 ∧ WP 53 121 [q0, q1, q2, q3] [(0, m s1 s0), (0, s2)] ds m Q)) := P_g3 k53_120 rfl
set_option maxRecDepth 20000 in
theorem k53_121 : mjCode 53 121 = some (.iadd, 1, 0, 0) := by decide +kernel
theorem p53_121 {s0 s1 : Int} {q0 q1 q2 q3 : MV} {ds : Ds} {m : Mm} {Q : Ds → Mm → List MV → Prop} : WP 53 121 [q0, q1, q2, q3] [(0, s0), (0, s1)] ds m Q = (WP 53 122 [q0, q1, q2, q3] [(0, w32 (s1 + s0))] ds m Q) := P_nx k53_121 rfl
set_option maxRecDepth 20000 in
theorem k53_122 : mjCode 53 122 = some (.istore_n 3, 1, 0, 0) := by decide +kernel
theorem p53_122 {l2 s0 : Int} {q0 q1 q3 : MV} {ds : Ds} {m : Mm} {Q : Ds → Mm → List MV → Prop} : WP 53 122 [q0, q1, (0, l2), q3] [(0, s0)] ds m Q = (WP 53 123 [q0, q1, (0, l2), (0, s0)] [] ds m Q) := P_nx k53_122 rfl
set_option maxRecDepth 20000 in
theorem k53_123 : mjCode 53 123 = some (.aload_n 0, 1, 0, 0) := by decide +kernel
theorem p53_123 {l0 : Int} {q1 q2 q3 : MV} {ds : Ds} {m : Mm} {Q : Ds → Mm → List MV → Prop} : WP 53 123 [(2, l0), q1, q2, q3] [] ds m Q = (WP 53 124 [(2, l0), q1, q2, q3] [(2, l0)] ds m Q) := P_nx k53_123 rfl
set_option maxRecDepth 20000 in
theorem k53_124 : mjCode 53 124 = some (.getfield 39, 3, 5, 0) := by decide +kernel
theorem p53_124 {s0 : Int} {q0 q1 q2 q3 : MV} {ds : Ds} {m : Mm} {Q : Ds → Mm → List MV → Prop} : WP 53 124 [q0, q1, q2, q3] [(2, s0)] ds m Q = ((dk ds s0 = 5 ∧ WP 53 127 [q0, q1, q2, q3] [(2, m s0 0)] ds m Q)) := P_gd k53_124 rfl
set_option maxRecDepth 20000 in
theorem k53_127 : mjCode 53 127 = some (.aload_n 1, 1, 0, 0) := by decide +kernel
theorem p53_127 {l1 s0 : Int} {q0 q2 q3 : MV} {ds : Ds} {m : Mm} {Q : Ds → Mm → List MV → Prop} : WP 53 127 [q0, (2, l1), q2, q3] [(2, s0)] ds m Q = (WP 53 128 [q0, (2, l1), q2, q3] [(2, l1), (2, s0)] ds m Q) := P_nx k53_127 rfl
set_option maxRecDepth 20000 in
theorem k53_128 : mjCode 53 128 = some (.getfield 112, 3, 3, 7) := by decide +kernel
theorem p53_128 {s0 s1 : Int} {q0 q1 q2 q3 : MV} {ds : Ds} {m : Mm} {Q : Ds → Mm → List MV → Prop} : WP 53 128 [q0, q1, q2, q3] [(2, s0), (2, s1)] ds m Q = ((dk ds s0 = 3 ∧ WP 53 131 [q0, q1, q2, q3] [(2, m s0 7), (2, s1)] ds m Q)) := P_gd k53_128 rfl
set_option maxRecDepth 20000 in
theorem k53_131 : mjCode 53 131 = some (.iload_n 2, 1, 0, 0) := by decide +kernel
theorem p53_131 {l2 s0 s1 : Int} {q0 q1 q3 : MV} {ds : Ds} {m : Mm} {Q : Ds → Mm → List MV → Prop} : WP 53 131 [q0, q1, (0, l2), q3] [(2, s0), (2, s1)] ds m Q = (WP 53 132 [q0, q1, (0, l2), q3] [(0, l2), (2, s0), (2, s1)] ds m Q) := P_nx k53_131 rfl
set_option maxRecDepth 20000 in
theorem k53_132 : mjCode 53 132 = some (.iaload, 1, 0, 0) := by decide +kernel
theorem p53_132 {s0 s1 s2 : Int} {q0 q1 q2 q3 : MV} {ds : Ds} {m : Mm} {Q : Ds → Mm → List MV → Prop} : WP 53 132 [q0, q1, q2, q3] [(0, s0), (2, s1), (2, s2)] ds m Q = ((dk ds s1 = 10 ∧ 0 ≤ s0 ∧ s0 < dl ds s1 ∧ WP 53 133 [q0, q1, q2, q3] [(0, m s1 s0), (2, s2)] ds m Q)) := P_g3 k53_132 rfl
set_option maxRecDepth 20000 in
theorem k53_133 : mjCode 53 133 = some (.iload_n 3, 1, 0, 0) := by decide +kernel
theorem p53_133 {l3 s0 s1 : Int} {q0 q1 q2 : MV} {ds : Ds} {m : Mm} {Q : Ds → Mm → List MV → Prop} : WP 53 133 [q0, q1, q2, (0, l3)] [(0, s0), (2, s1)] ds m Q = (WP 53 134 [q0, q1, q2, (0, l3)] [(0, l3), (0, s0), (2, s1)] ds m Q) := P_nx k53_133 rfl
set_option maxRecDepth 20000 in
theorem k53_134 : mjCode 53 134 = some (.iconst (-1), 1, 0, 0) := by decide +kernel
theorem p53_134 {s0 s1 s2 : Int} {q0 q1 q2 q3 : MV} {ds : Ds} {m : Mm} {Q : Ds → Mm → List MV → Prop} : WP 53 134 [q0, q1, q2, q3] [(0, s0), (0, s1), (2, s2)] ds m Q = (WP 53 135 [q0, q1, q2, q3] [(0, (-1)), (0, s0), (0, s1), (2, s2)] ds m Q) := P_nx k53_134 rfl
set_option maxRecDepth 20000 in
theorem k53_135 : mjCode 53 135 = some (.iconst 0, 1, 0, 0) := by decide +kernel
theorem p53_135 {s0 s1 s2 s3 : Int} {q0 q1 q2 q3 : MV} {ds : Ds} {m : Mm} {Q : Ds → Mm → List MV → Prop} : WP 53 135 [q0, q1, q2, q3] [(0, s0), (0, s1), (0, s2), (2, s3)] ds m Q = (WP 53 136 [q0, q1, q2, q3] [(0, 0), (0, s0), (0, s1), (0, s2), (2, s3)] ds m Q) := P_nx k53_135 rfl
set_option maxRecDepth 20000 in
theorem k53_136 : mjCode 53 136 = some (.invokevirtual 115, 3, 13, 5) := by decide +kernel
theorem p53_136 {s0 s1 s2 s3 s4 : Int} {q0 q1 q2 q3 : MV} {ds : Ds} {m : Mm} {Q : Ds → Mm → List MV → Prop} : WP 53 136 [q0, q1, q2, q3] [(0, s0), (0, s1), (0, s2), (0, s3), (2, s4)] ds m Q = ((dk ds s4 = 1 ∧ WP 12 0 [(2, s4), (0, s3), (0, s2), (0, s1), (0, s0), (3, 0)] [] ds m (fun d2 m2 r2 => WP 53 139 [q0, q1, q2, q3] (r2 ++ []) d2 m2 Q))) := P_cv k53_136 mx12 mo12 rfl rfl rfl rfl rfl rfl rfl rfl
set_option maxRecDepth 20000 in
theorem k53_139 : mjCode 53 139 = some (.iinc 2 1, 3, 0, 0) := by decide +kernel
theorem p53_139 {l2 : Int} {q0 q1 q3 : MV} {ds : Ds} {m : Mm} {Q : Ds → Mm → List MV → Prop} : WP 53 139 [q0, q1, (0, l2), q3] [] ds m Q = (WP 53 142 [q0, q1, (0, w32 (l2 + 1)), q3] [] ds m Q) := P_nx k53_139 rfl
set_option maxRecDepth 20000 in
theorem k53_142 : mjCode 53 142 = some (.goto (-48), 3, 94, 0) := by decide +kernel
theorem p53_142 {q0 q1 q2 q3 : MV} {ds : Ds} {m : Mm} {Q : Ds → Mm → List MV → Prop} : WP 53 142 [q0, q1, q2, q3] [] ds m Q = (WP 53 94 [q0, q1, q2, q3] [] ds m Q) := P_nx k53_142 rfl
set_option maxRecDepth 20000 in
theorem k53_145 : mjCode 53 145 = some (.return_, 1, 0, 0) := by decide +kernel
theorem p53_145 {q0 q1 q2 q3 : MV} {ds : Ds} {m : Mm} {Q : Ds → Mm → List MV → Prop} : WP 53 145 [q0, q1, q2, q3] [] ds m Q = (Q ds m []) := P_rv k53_145 rk53
set_option maxRecDepth 20000 in
theorem k54_0 : mjCode 54 0 = some (.aload_n 0, 1, 0, 0) := by decide +kernel
theorem p54_0 {l0 : Int} {ds : Ds} {m : Mm} {Q : Ds → Mm → List MV → Prop} : WP 54 0 [(2, l0)] [] ds m Q = (WP 54 1 [(2, l0)] [(2, l0)] ds m Q) := P_nx k54_0 rfl
set_option maxRecDepth 20000 in
theorem k54_1 : mjCode 54 1 = some (.getfield 43, 3, 5, 1) := by decide +kernel
theorem p54_1 {s0 : Int} {q0 : MV} {ds : Ds} {m : Mm} {Q : Ds → Mm → List MV → Prop} : WP 54 1 [q0] [(2, s0)] ds m Q = ((dk ds s0 = 5 ∧ WP 54 4 [q0] [(2, m s0 1)] ds m Q)) := P_gd k54_1 rfl
set_option maxRecDepth 20000 in
theorem k54_4 : mjCode 54 4 = some (.getfield 88, 3, 2, 4) := by decide +kernel
theorem p54_4 {s0 : Int} {q0 : MV} {ds : Ds} {m : Mm} {Q : Ds → Mm → List MV → Prop} : WP 54 4 [q0] [(2, s0)] ds m Q = ((dk ds s0 = 2 ∧ WP 54 7 [q0] [(0, m s0 4)] ds m Q)) := P_gd k54_4 rfl
set_option maxRecDepth 20000 in
theorem k54_7 : mjCode 54 7 = some (.sipush 1000, 3, 0, 0) := by decide +kernel
theorem p54_7 {s0 : Int} {q0 : MV} {ds : Ds} {m : Mm} {Q : Ds → Mm → List MV → Prop} : WP 54 7 [q0] [(0, s0)] ds m Q = (WP 54 10 [q0] [(0, 1000), (0, s0)] ds m Q) := P_nx k54_7 rfl
set_option maxRecDepth 20000 in
theorem k54_10 : mjCode 54 10 = some (.if_icmp .lt 10, 3, 20, 0) := by decide +kernel
theorem p54_10 {s0 s1 : Int} {q0 : MV} {ds : Ds} {m : Mm} {Q : Ds → Mm → List MV → Prop} : WP 54 10 [q0] [(0, s0), (0, s1)] ds m Q = (if s1 < s0 then WP 54 20 [q0] [] ds m Q else WP 54 13 [q0] [] ds m Q) := P_if k54_10 rfl
set_option maxRecDepth 20000 in
theorem k54_13 : mjCode 54 13 = some (.aload_n 0, 1, 0, 0) := by decide +kernel
theorem p54_13 {l0 : Int} {ds : Ds} {m : Mm} {Q : Ds → Mm → List MV → Prop} : WP 54 13 [(2, l0)] [] ds m Q = (WP 54 14 [(2, l0)] [(2, l0)] ds m Q) := P_nx k54_13 rfl
set_option maxRecDepth 20000 in
theorem k54_14 : mjCode 54 14 = some (.iconst 2, 1, 0, 0) := by decide +kernel
theorem p54_14 {s0 : Int} {q0 : MV} {ds : Ds} {m : Mm} {Q : Ds → Mm → List MV → Prop} : WP 54 14 [q0] [(2, s0)] ds m Q = (WP 54 15 [q0] [(0, 2), (2, s0)] ds m Q) := P_nx k54_14 rfl
set_option maxRecDepth 20000 in
theorem k54_15 : mjCode 54 15 = some (.putfield 79, 3, 5, 10) := by decide +kernel
theorem p54_15 {s0 s1 : Int} {q0 : MV} {ds : Ds} {m : Mm} {Q : Ds → Mm → List MV → Prop} : WP 54 15 [q0] [(0, s0), (2, s1)] ds m Q = ((dk ds s1 = 5 ∧ WP 54 18 [q0] [] ds (up m s1 10 s0) Q)) := P_pf k54_15 rfl
set_option maxRecDepth 20000 in
theorem k54_18 : mjCode 54 18 = some (.iconst 1, 1, 0, 0) := by decide +kernel
theorem p54_18 {q0 : MV} {ds : Ds} {m : Mm} {Q : Ds → Mm → List MV → Prop} : WP 54 18 [q0] [] ds m Q = (WP 54 19 [q0] [(0, 1)] ds m Q) := P_nx k54_18 rfl
set_option maxRecDepth 20000 in
theorem k54_19 : mjCode 54 19 = some (.ireturn, 1, 0, 0) := by decide +kernel
theorem p54_19 {s0 : Int} {q0 : MV} {ds : Ds} {m : Mm} {Q : Ds → Mm → List MV → Prop} : WP 54 19 [q0] [(0, s0)] ds m Q = (((s0 = 0 ∨ s0 = 1) ∧ Q ds m [(0, s0)])) := P_rb k54_19 rk54
set_option maxRecDepth 20000 in
theorem k54_20 : mjCode 54 20 = some (.aload_n 0, 1, 0, 0) := by decide +kernel
theorem p54_20 {l0 : Int} {ds : Ds} {m : Mm} {Q : Ds → Mm → List MV → Prop} : WP 54 20 [(2, l0)] [] ds m Q = (WP 54 21 [(2, l0)] [(2, l0)] ds m Q) := P_nx k54_20 rfl
set_option maxRecDepth 20000 in
theorem k54_21 : mjCode 54 21 = some (.getfield 39, 3, 5, 0) := by decide +kernel
theorem p54_21 {s0 : Int} {q0 : MV} {ds : Ds} {m : Mm} {Q : Ds → Mm → List MV → Prop} : WP 54 21 [q0] [(2, s0)] ds m Q = ((dk ds s0 = 5 ∧ WP 54 24 [q0] [(2, m s0 0)] ds m Q)) := P_gd k54_21 rfl
set_option maxRecDepth 20000 in
theorem k54_24 : mjCode 54 24 = some (.getfield 119, 3, 1, 7) := by decide +kernel
theorem p54_24 {s0 : Int} {q0 : MV} {ds : Ds} {m : Mm} {Q : Ds → Mm → List MV → Prop} : WP 54 24 [q0] [(2, s0)] ds m Q = ((dk ds s0 = 1 ∧ WP 54 27 [q0] [(0, m s0 7)] ds m Q)) := P_gd k54_24 rfl
set_option maxRecDepth 20000 in
theorem k54_27 : mjCode 54 27 = some (.ifCond .ne 20, 3, 47, 0) := by decide +kernel
theorem p54_27 {s0 : Int} {q0 : MV} {ds : Ds} {m : Mm} {Q : Ds → Mm → List MV → Prop} : WP 54 27 [q0] [(0, s0)] ds m Q = (if s0 = 0 then WP 54 30 [q0] [] ds m Q else WP 54 47 [q0] [] ds m Q) := P_if k54_27 rfl
set_option maxRecDepth 20000 in
theorem k54_30 : mjCode 54 30 = some (.aload_n 0, 1, 0, 0) := by decide +kernel
theorem p54_30 {l0 : Int} {ds : Ds} {m : Mm} {Q : Ds → Mm → List MV → Prop} : WP 54 30 [(2, l0)] [] ds m Q = (WP 54 31 [(2, l0)] [(2, l0)] ds m Q) := P_nx k54_30 rfl
set_option maxRecDepth 20000 in
theorem k54_31 : mjCode 54 31 = some (.getfield 12, 3, 5, 2) := by decide +kernel
theorem p54_31 {s0 : Int} {q0 : MV} {ds : Ds} {m : Mm} {Q : Ds → Mm → List MV → Prop} : WP 54 31 [q0] [(2, s0)] ds m Q = ((dk ds s0 = 5 ∧ WP 54 34 [q0] [(2, m s0 2)] ds m Q)) := P_gd k54_31 rfl
set_option maxRecDepth 20000 in
theorem k54_34 : mjCode 54 34 = some (.getfield 122, 3, 0, 7) := by decide +kernel
theorem p54_34 {s0 : Int} {q0 : MV} {ds : Ds} {m : Mm} {Q : Ds → Mm → List MV → Prop} : WP 54 34 [q0] [(2, s0)] ds m Q = ((dk ds s0 = 0 ∧ WP 54 37 [q0] [(0, m s0 7)] ds m Q)) := P_gd k54_34 rfl
set_option maxRecDepth 20000 in
theorem k54_37 : mjCode 54 37 = some (.ifCond .ne 10, 3, 47, 0) := by decide +kernel
theorem p54_37 {s0 : Int} {q0 : MV} {ds : Ds} {m : Mm} {Q : Ds → Mm → List MV → Prop} : WP 54 37 [q0] [(0, s0)] ds m Q = (if s0 = 0 then WP 54 40 [q0] [] ds m Q else WP 54 47 [q0] [] ds m Q) := P_if k54_37 rfl
set_option maxRecDepth 20000 in
theorem k54_40 : mjCode 54 40 = some (.aload_n 0, 1, 0, 0) := by decide +kernel
theorem p54_40 {l0 : Int} {ds : Ds} {m : Mm} {Q : Ds → Mm → List MV → Prop} : WP 54 40 [(2, l0)] [] ds m Q = (WP 54 41 [(2, l0)] [(2, l0)] ds m Q) := P_nx k54_40 rfl
set_option maxRecDepth 20000 in
theorem k54_41 : mjCode 54 41 = some (.iconst 0, 1, 0, 0) := by decide +kernel
theorem p54_41 {s0 : Int} {q0 : MV} {ds : Ds} {m : Mm} {Q : Ds → Mm → List MV → Prop} : WP 54 41 [q0] [(2, s0)] ds m Q = (WP 54 42 [q0] [(0, 0), (2, s0)] ds m Q) := P_nx k54_41 rfl
set_option maxRecDepth 20000 in
theorem k54_42 : mjCode 54 42 = some (.putfield 79, 3, 5, 10) := by decide +kernel
theorem p54_42 {s0 s1 : Int} {q0 : MV} {ds : Ds} {m : Mm} {Q : Ds → Mm → List MV → Prop} : WP 54 42 [q0] [(0, s0), (2, s1)] ds m Q = ((dk ds s1 = 5 ∧ WP 54 45 [q0] [] ds (up m s1 10 s0) Q)) := P_pf k54_42 rfl
set_option maxRecDepth 20000 in
theorem k54_45 : mjCode 54 45 = some (.iconst 1, 1, 0, 0) := by decide +kernel
theorem p54_45 {q0 : MV} {ds : Ds} {m : Mm} {Q : Ds → Mm → List MV → Prop} : WP 54 45 [q0] [] ds m Q = (WP 54 46 [q0] [(0, 1)] ds m Q) := P_nx k54_45 rfl
set_option maxRecDepth 20000 in
theorem k54_46 : mjCode 54 46 = some (.ireturn, 1, 0, 0) := by decide +kernel
theorem p54_46 {s0 : Int} {q0 : MV} {ds : Ds} {m : Mm} {Q : Ds → Mm → List MV → Prop} : WP 54 46 [q0] [(0, s0)] ds m Q = (((s0 = 0 ∨ s0 = 1) ∧ Q ds m [(0, s0)])) := P_rb k54_46 rk54
set_option maxRecDepth 20000 in
theorem k54_47 : mjCode 54 47 = some (.iconst 0, 1, 0, 0) := by decide +kernel
theorem p54_47 {q0 : MV} {ds : Ds} {m : Mm} {Q : Ds → Mm → List MV → Prop} : WP 54 47 [q0] [] ds m Q = (WP 54 48 [q0] [(0, 0)] ds m Q) := P_nx k54_47 rfl
set_option maxRecDepth 20000 in
theorem k54_48 : mjCode 54 48 = some (.ireturn, 1, 0, 0) := by decide +kernel
theorem p54_48 {s0 : Int} {q0 : MV} {ds : Ds} {m : Mm} {Q : Ds → Mm → List MV → Prop} : WP 54 48 [q0] [(0, s0)] ds m Q = (((s0 = 0 ∨ s0 = 1) ∧ Q ds m [(0, s0)])) := P_rb k54_48 rk54
set_option maxRecDepth 20000 in
theorem k55_0 : mjCode 55 0 = some (.iload_n 1, 1, 0, 0) := by decide +kernel
theorem p55_0 {l1 : Int} {q0 q2 : MV} {ds : Ds} {m : Mm} {Q : Ds → Mm → List MV → Prop} : WP 55 0 [q0, (0, l1), q2] [] ds m Q = (WP 55 1 [q0, (0, l1), q2] [(0, l1)] ds m Q) := P_nx k55_0 rfl
set_option maxRecDepth 20000 in
theorem k55_1 : mjCode 55 1 = some (.invokestatic 75, 3, 108, 1) := by decide +kernel
theorem p55_1 {s0 : Int} {q0 q1 q2 : MV} {ds : Ds} {m : Mm} {Q : Ds → Mm → List MV → Prop} : WP 55 1 [q0, q1, q2] [(0, s0)] ds m Q = (WP 107 0 [(0, s0)] [] ds m (fun d2 m2 r2 => WP 55 4 [q0, q1, q2] (r2 ++ []) d2 m2 Q)) := P_cs k55_1 mx107 rfl rfl rfl rfl rfl rfl rfl
set_option maxRecDepth 20000 in
theorem k55_4 : mjCode 55 4 = some (.ifCond .ne 5, 3, 9, 0) := by decide +kernel
theorem p55_4 {s0 : Int} {q0 q1 q2 : MV} {ds : Ds} {m : Mm} {Q : Ds → Mm → List MV → Prop} : WP 55 4 [q0, q1, q2] [(0, s0)] ds m Q = (if s0 = 0 then WP 55 7 [q0, q1, q2] [] ds m Q else WP 55 9 [q0, q1, q2] [] ds m Q) := P_if k55_4 rfl
set_option maxRecDepth 20000 in
theorem k55_7 : mjCode 55 7 = some (.iconst 0, 1, 0, 0) := by decide +kernel
theorem p55_7 {q0 q1 q2 : MV} {ds : Ds} {m : Mm} {Q : Ds → Mm → List MV → Prop} : WP 55 7 [q0, q1, q2] [] ds m Q = (WP 55 8 [q0, q1, q2] [(0, 0)] ds m Q) := P_nx k55_7 rfl
set_option maxRecDepth 20000 in
theorem k55_8 : mjCode 55 8 = some (.ireturn, 1, 0, 0) := by decide +kernel
theorem p55_8 {s0 : Int} {q0 q1 q2 : MV} {ds : Ds} {m : Mm} {Q : Ds → Mm → List MV → Prop} : WP 55 8 [q0, q1, q2] [(0, s0)] ds m Q = (((s0 = 0 ∨ s0 = 1) ∧ Q ds m [(0, s0)])) := P_rb k55_8 rk55
set_option maxRecDepth 20000 in
theorem k55_9 : mjCode 55 9 = some (.aload_n 0, 1, 0, 0) := by decide +kernel
theorem p55_9 {l0 : Int} {q1 q2 : MV} {ds : Ds} {m : Mm} {Q : Ds → Mm → List MV → Prop} : WP 55 9 [(2, l0), q1, q2] [] ds m Q = (WP 55 10 [(2, l0), q1, q2] [(2, l0)] ds m Q) := P_nx k55_9 rfl
set_option maxRecDepth 20000 in
theorem k55_10 : mjCode 55 10 = some (.getfield 25, 3, 5, 5) := by decide +kernel
theorem p55_10 {s0 : Int} {q0 q1 q2 : MV} {ds : Ds} {m : Mm} {Q : Ds → Mm → List MV → Prop} : WP 55 10 [q0, q1, q2] [(2, s0)] ds m Q = ((dk ds s0 = 5 ∧ WP 55 13 [q0, q1, q2] [(2, m s0 5)] ds m Q)) := P_gd k55_10 rfl
set_option maxRecDepth 20000 in
theorem k55_13 : mjCode 55 13 = some (.iload_n 1, 1, 0, 0) := by decide +kernel
theorem p55_13 {l1 s0 : Int} {q0 q2 : MV} {ds : Ds} {m : Mm} {Q : Ds → Mm → List MV → Prop} : WP 55 13 [q0, (0, l1), q2] [(2, s0)] ds m Q = (WP 55 14 [q0, (0, l1), q2] [(0, l1), (2, s0)] ds m Q) := P_nx k55_13 rfl
set_option maxRecDepth 20000 in
theorem k55_14 : mjCode 55 14 = some (.iaload, 1, 0, 0) := by decide +kernel
theorem p55_14 {s0 s1 : Int} {q0 q1 q2 : MV} {ds : Ds} {m : Mm} {Q : Ds → Mm → List MV → Prop} : WP 55 14 [q0, q1, q2] [(0, s0), (2, s1)] ds m Q = ((dk ds s1 = 10 ∧ 0 ≤ s0 ∧ s0 < dl ds s1 ∧ WP 55 15 [q0, q1, q2] [(0, m s1 s0)] ds m Q)) := P_g3 k55_14 rfl
set_option maxRecDepth 20000 in
theorem k55_15 : mjCode 55 15 = some (.iconst (-1), 1, 0, 0) := by decide +kernel
theorem p55_15 {s0 : Int} {q0 q1 q2 : MV} {ds : Ds} {m : Mm} {Q : Ds → Mm → List MV → Prop} : WP 55 15 [q0, q1, q2] [(0, s0)] ds m Q = (WP 55 16 [q0, q1, q2] [(0, (-1)), (0, s0)] ds m Q) := P_nx k55_15 rfl
set_option maxRecDepth 20000 in
theorem k55_16 : mjCode 55 16 = some (.if_icmp .ne 16, 3, 32, 0) := by decide +kernel
theorem p55_16 {s0 s1 : Int} {q0 q1 q2 : MV} {ds : Ds} {m : Mm} {Q : Ds → Mm → List MV → Prop} : WP 55 16 [q0, q1, q2] [(0, s0), (0, s1)] ds m Q = (if s1 = s0 then WP 55 19 [q0, q1, q2] [] ds m Q else WP 55 32 [q0, q1, q2] [] ds m Q) := P_if k55_16 rfl
set_option maxRecDepth 20000 in
theorem k55_19 : mjCode 55 19 = some (.iload_n 2, 1, 0, 0) := by decide +kernel
theorem p55_19 {l2 : Int} {q0 q1 : MV} {ds : Ds} {m : Mm} {Q : Ds → Mm → List MV → Prop} : WP 55 19 [q0, q1, (0, l2)] [] ds m Q = (WP 55 20 [q0, q1, (0, l2)] [(0, l2)] ds m Q) := P_nx k55_19 rfl
set_option maxRecDepth 20000 in
theorem k55_20 : mjCode 55 20 = some (.iconst (-1), 1, 0, 0) := by decide +kernel
theorem p55_20 {s0 : Int} {q0 q1 q2 : MV} {ds : Ds} {m : Mm} {Q : Ds → Mm → List MV → Prop} : WP 55 20 [q0, q1, q2] [(0, s0)] ds m Q = (WP 55 21 [q0, q1, q2] [(0, (-1)), (0, s0)] ds m Q) := P_nx k55_20 rfl
set_option maxRecDepth 20000 in
theorem k55_21 : mjCode 55 21 = some (.if_icmp .eq 15, 3, 36, 0) := by decide +kernel
theorem p55_21 {s0 s1 : Int} {q0 q1 q2 : MV} {ds : Ds} {m : Mm} {Q : Ds → Mm → List MV → Prop} : WP 55 21 [q0, q1, q2] [(0, s0), (0, s1)] ds m Q = (if s1 = s0 then WP 55 36 [q0, q1, q2] [] ds m Q else WP 55 24 [q0, q1, q2] [] ds m Q) := P_if k55_21 rfl
set_option maxRecDepth 20000 in
theorem k55_24 : mjCode 55 24 = some (.iload_n 2, 1, 0, 0) := by decide +kernel
theorem p55_24 {l2 : Int} {q0 q1 : MV} {ds : Ds} {m : Mm} {Q : Ds → Mm → List MV → Prop} : WP 55 24 [q0, q1, (0, l2)] [] ds m Q = (WP 55 25 [q0, q1, (0, l2)] [(0, l2)] ds m Q) := P_nx k55_24 rfl
set_option maxRecDepth 20000 in
theorem k55_25 : mjCode 55 25 = some (.aload_n 0, 1, 0, 0) := by decide +kernel
theorem p55_25 {l0 s0 : Int} {q1 q2 : MV} {ds : Ds} {m : Mm} {Q : Ds → Mm → List MV → Prop} : WP 55 25 [(2, l0), q1, q2] [(0, s0)] ds m Q = (WP 55 26 [(2, l0), q1, q2] [(2, l0), (0, s0)] ds m Q) := P_nx k55_25 rfl
set_option maxRecDepth 20000 in
theorem k55_26 : mjCode 55 26 = some (.getfield 51, 3, 5, 9) := by decide +kernel
theorem p55_26 {s0 s1 : Int} {q0 q1 q2 : MV} {ds : Ds} {m : Mm} {Q : Ds → Mm → List MV → Prop} : WP 55 26 [q0, q1, q2] [(2, s0), (0, s1)] ds m Q = ((dk ds s0 = 5 ∧ WP 55 29 [q0, q1, q2] [(0, m s0 9), (0, s1)] ds m Q)) := P_gd k55_26 rfl
set_option maxRecDepth 20000 in
theorem k55_29 : mjCode 55 29 = some (.if_icmp .gt 7, 3, 36, 0) := by decide +kernel
theorem p55_29 {s0 s1 : Int} {q0 q1 q2 : MV} {ds : Ds} {m : Mm} {Q : Ds → Mm → List MV → Prop} : WP 55 29 [q0, q1, q2] [(0, s0), (0, s1)] ds m Q = (if s0 < s1 then WP 55 36 [q0, q1, q2] [] ds m Q else WP 55 32 [q0, q1, q2] [] ds m Q) := P_if k55_29 rfl
set_option maxRecDepth 20000 in
theorem k55_32 : mjCode 55 32 = some (.iconst 1, 1, 0, 0) := by decide +kernel
theorem p55_32 {q0 q1 q2 : MV} {ds : Ds} {m : Mm} {Q : Ds → Mm → List MV → Prop} : WP 55 32 [q0, q1, q2] [] ds m Q = (WP 55 33 [q0, q1, q2] [(0, 1)] ds m Q) := P_nx k55_32 rfl
set_option maxRecDepth 20000 in
theorem k55_33 : mjCode 55 33 = some (.goto 4, 3, 37, 0) := by decide +kernel
theorem p55_33 {s0 : Int} {q0 q1 q2 : MV} {ds : Ds} {m : Mm} {Q : Ds → Mm → List MV → Prop} : WP 55 33 [q0, q1, q2] [(0, s0)] ds m Q = (WP 55 37 [q0, q1, q2] [(0, s0)] ds m Q) := P_nx k55_33 rfl
set_option maxRecDepth 20000 in
theorem k55_36 : mjCode 55 36 = some (.iconst 0, 1, 0, 0) := by decide +kernel
theorem p55_36 {q0 q1 q2 : MV} {ds : Ds} {m : Mm} {Q : Ds → Mm → List MV → Prop} : WP 55 36 [q0, q1, q2] [] ds m Q = (WP 55 37 [q0, q1, q2] [(0, 0)] ds m Q) := P_nx k55_36 rfl
set_option maxRecDepth 20000 in
theorem k55_37 : mjCode 55 37 = some (.ireturn, 1, 0, 0) := by decide +kernel
theorem p55_37 {s0 : Int} {q0 q1 q2 : MV} {ds : Ds} {m : Mm} {Q : Ds → Mm → List MV → Prop} : WP 55 37 [q0, q1, q2] [(0, s0)] ds m Q = (((s0 = 0 ∨ s0 = 1) ∧ Q ds m [(0, s0)])) := P_rb k55_37 rk55
set_option maxRecDepth 20000 in
theorem k56_0 : mjCode 56 0 = some (.aload_n 0, 1, 0, 0) := by decide +kernel
theorem p56_0 {l0 : Int} {q1 q2 q3 q4 q5 : MV} {ds : Ds} {m : Mm} {Q : Ds → Mm → List MV → Prop} : WP 56 0 [(2, l0), q1, q2, q3, q4, q5] [] ds m Q = (WP 56 1 [(2, l0), q1, q2, q3, q4, q5] [(2, l0)] ds m Q) := P_nx k56_0 rfl
set_option maxRecDepth 20000 in
theorem k56_1 : mjCode 56 1 = some (.getfield 39, 3, 5, 0) := by decide +kernel
theorem p56_1 {s0 : Int} {q0 q1 q2 q3 q4 q5 : MV} {ds : Ds} {m : Mm} {Q : Ds → Mm → List MV → Prop} : WP 56 1 [q0, q1, q2, q3, q4, q5] [(2, s0)] ds m Q = ((dk ds s0 = 5 ∧ WP 56 4 [q0, q1, q2, q3, q4, q5] [(2, m s0 0)] ds m Q)) := P_gd k56_1 rfl
set_option maxRecDepth 20000 in
theorem k56_4 : mjCode 56 4 = some (.aload_n 0, 1, 0, 0) := by decide +kernel
theorem p56_4 {l0 s0 : Int} {q1 q2 q3 q4 q5 : MV} {ds : Ds} {m : Mm} {Q : Ds → Mm → List MV → Prop} : WP 56 4 [(2, l0), q1, q2, q3, q4, q5] [(2, s0)] ds m Q = (WP 56 5 [(2, l0), q1, q2, q3, q4, q5] [(2, l0), (2, s0)] ds m Q) := P_nx k56_4 rfl
set_option maxRecDepth 20000 in
theorem k56_5 : mjCode 56 5 = some (.getfield 51, 3, 5, 9) := by decide +kernel
theorem p56_5 {s0 s1 : Int} {q0 q1 q2 q3 q4 q5 : MV} {ds : Ds} {m : Mm} {Q : Ds → Mm → List MV → Prop} : WP 56 5 [q0, q1, q2, q3, q4, q5] [(2, s0), (2, s1)] ds m Q = ((dk ds s0 = 5 ∧ WP 56 8 [q0, q1, q2, q3, q4, q5] [(0, m s0 9), (2, s1)] ds m Q)) := P_gd k56_5 rfl
set_option maxRecDepth 20000 in
theorem k56_8 : mjCode 56 8 = some (.invokevirtual 125, 3, 14, 2) := by decide +kernel
theorem p56_8 {s0 s1 : Int} {q0 q1 q2 q3 q4 q5 : MV} {ds : Ds} {m : Mm} {Q : Ds → Mm → List MV → Prop} : WP 56 8 [q0, q1, q2, q3, q4, q5] [(0, s0), (2, s1)] ds m Q = ((dk ds s1 = 1 ∧ WP 13 0 [(2, s1), (0, s0)] [] ds m (fun d2 m2 r2 => WP 56 11 [q0, q1, q2, q3, q4, q5] (r2 ++ []) d2 m2 Q))) := P_cv k56_8 mx13 mo13 rfl rfl rfl rfl rfl rfl rfl rfl
set_option maxRecDepth 20000 in
theorem k56_11 : mjCode 56 11 = some (.istore_n 1, 1, 0, 0) := by decide +kernel
theorem p56_11 {l0 s0 : Int} {q1 q2 q3 q4 q5 : MV} {ds : Ds} {m : Mm} {Q : Ds → Mm → List MV → Prop} : WP 56 11 [(2, l0), q1, q2, q3, q4, q5] [(0, s0)] ds m Q = (WP 56 12 [(2, l0), (0, s0), q2, q3, q4, q5] [] ds m Q) := P_nx k56_11 rfl
set_option maxRecDepth 20000 in
theorem k56_12 : mjCode 56 12 = some (.iconst 0, 1, 0, 0) := by decide +kernel
theorem p56_12 {q0 q1 q2 q3 q4 q5 : MV} {ds : Ds} {m : Mm} {Q : Ds → Mm → List MV → Prop} : WP 56 12 [q0, q1, q2, q3, q4, q5] [] ds m Q = (WP 56 13 [q0, q1, q2, q3, q4, q5] [(0, 0)] ds m Q) := P_nx k56_12 rfl
set_option maxRecDepth 20000 in
theorem k56_13 : mjCode 56 13 = some (.istore_n 2, 1, 0, 0) := by decide +kernel
theorem p56_13 {l1 s0 : Int} {q0 q2 q3 q4 q5 : MV} {ds : Ds} {m : Mm} {Q : Ds → Mm → List MV → Prop} : WP 56 13 [q0, (0, l1), q2, q3, q4, q5] [(0, s0)] ds m Q = (WP 56 14 [q0, (0, l1), (0, s0), q3, q4, q5] [] ds m Q) := P_nx k56_13 rfl
set_option maxRecDepth 20000 in
theorem k56_14 : mjCode 56 14 = some (.iload_n 2, 1, 0, 0) := by decide +kernel
theorem p56_14 {l2 : Int} {q0 q1 q3 q4 q5 : MV} {ds : Ds} {m : Mm} {Q : Ds → Mm → List MV → Prop} : WP 56 14 [q0, q1, (0, l2), q3, q4, q5] [] ds m Q = (WP 56 15 [q0, q1, (0, l2), q3, q4, q5] [(0, l2)] ds m Q) := P_nx k56_14 rfl
set_option maxRecDepth 20000 in
theorem k56_15 : mjCode 56 15 = some (.sipush 1196, 3, 0, 0) := by decide +kernel
theorem p56_15 {s0 : Int} {q0 q1 q2 q3 q4 q5 : MV} {ds : Ds} {m : Mm} {Q : Ds → Mm → List MV → Prop} : WP 56 15 [q0, q1, q2, q3, q4, q5] [(0, s0)] ds m Q = (WP 56 18 [q0, q1, q2, q3, q4, q5] [(0, 1196), (0, s0)] ds m Q) := P_nx k56_15 rfl
set_option maxRecDepth 20000 in
theorem k56_18 : mjCode 56 18 = some (.if_icmp .ge 123, 3, 141, 0) := by decide +kernel
theorem p56_18 {s0 s1 : Int} {q0 q1 q2 q3 q4 q5 : MV} {ds : Ds} {m : Mm} {Q : Ds → Mm → List MV → Prop} : WP 56 18 [q0, q1, q2, q3, q4, q5] [(0, s0), (0, s1)] ds m Q = (if s1 < s0 then WP 56 21 [q0, q1, q2, q3, q4, q5] [] ds m Q else WP 56 141 [q0, q1, q2, q3, q4, q5] [] ds m Q) := P_if k56_18 rfl
set_option maxRecDepth 20000 in
theorem k56_21 : mjCode 56 21 = some (.aload_n 0, 1, 0, 0) := by decide +kernel
theorem p56_21 {l0 : Int} {q1 q2 q3 q4 q5 : MV} {ds : Ds} {m : Mm} {Q : Ds → Mm → List MV → Prop} : WP 56 21 [(2, l0), q1, q2, q3, q4, q5] [] ds m Q = (WP 56 22 [(2, l0), q1, q2, q3, q4, q5] [(2, l0)] ds m Q) := P_nx k56_21 rfl
set_option maxRecDepth 20000 in
theorem k56_22 : mjCode 56 22 = some (.getfield 39, 3, 5, 0) := by decide +kernel
theorem p56_22 {s0 : Int} {q0 q1 q2 q3 q4 q5 : MV} {ds : Ds} {m : Mm} {Q : Ds → Mm → List MV → Prop} : WP 56 22 [q0, q1, q2, q3, q4, q5] [(2, s0)] ds m Q = ((dk ds s0 = 5 ∧ WP 56 25 [q0, q1, q2, q3, q4, q5] [(2, m s0 0)] ds m Q)) := P_gd k56_22 rfl
set_option maxRecDepth 20000 in
theorem k56_25 : mjCode 56 25 = some (.iload_n 1, 1, 0, 0) := by decide +kernel
theorem p56_25 {l1 s0 : Int} {q0 q2 q3 q4 q5 : MV} {ds : Ds} {m : Mm} {Q : Ds → Mm → List MV → Prop} : WP 56 25 [q0, (0, l1), q2, q3, q4, q5] [(2, s0)] ds m Q = (WP 56 26 [q0, (0, l1), q2, q3, q4, q5] [(0, l1), (2, s0)] ds m Q) := P_nx k56_25 rfl
set_option maxRecDepth 20000 in
theorem k56_26 : mjCode 56 26 = some (.invokevirtual 129, 3, 15, 2) := by decide +kernel
theorem p56_26 {s0 s1 : Int} {q0 q1 q2 q3 q4 q5 : MV} {ds : Ds} {m : Mm} {Q : Ds → Mm → List MV → Prop} : WP 56 26 [q0, q1, q2, q3, q4, q5] [(0, s0), (2, s1)] ds m Q = ((dk ds s1 = 1 ∧ WP 14 0 [(2, s1), (0, s0)] [] ds m (fun d2 m2 r2 => WP 56 29 [q0, q1, q2, q3, q4, q5] (r2 ++ []) d2 m2 Q))) := P_cv k56_26 mx14 mo14 rfl rfl rfl rfl rfl rfl rfl rfl
set_option maxRecDepth 20000 in
theorem k56_29 : mjCode 56 29 = some (.ifCond .eq 112, 3, 141, 0) := by decide +kernel
theorem p56_29 {s0 : Int} {q0 q1 q2 q3 q4 q5 : MV} {ds : Ds} {m : Mm} {Q : Ds → Mm → List MV → Prop} : WP 56 29 [q0, q1, q2, q3, q4, q5] [(0, s0)] ds m Q = (if s0 = 0 then WP 56 141 [q0, q1, q2, q3, q4, q5] [] ds m Q else WP 56 32 [q0, q1, q2, q3, q4, q5] [] ds m Q) := P_if k56_29 rfl
set_option maxRecDepth 20000 in
theorem k56_32 : mjCode 56 32 = some (.aload_n 0, 1, 0, 0) := by decide +kernel
theorem p56_32 {l0 : Int} {q1 q2 q3 q4 q5 : MV} {ds : Ds} {m : Mm} {Q : Ds → Mm → List MV → Prop} : WP 56 32 [(2, l0), q1, q2, q3, q4, q5] [] ds m Q = (WP 56 33 [(2, l0), q1, q2, q3, q4, q5] [(2, l0)] ds m Q) := P_nx k56_32 rfl
set_option maxRecDepth 20000 in
theorem k56_33 : mjCode 56 33 = some (.getfield 43, 3, 5, 1) := by decide +kernel
theorem p56_33 {s0 : Int} {q0 q1 q2 q3 q4 q5 : MV} {ds : Ds} {m : Mm} {Q : Ds → Mm → List MV → Prop} : WP 56 33 [q0, q1, q2, q3, q4, q5] [(2, s0)] ds m Q = ((dk ds s0 = 5 ∧ WP 56 36 [q0, q1, q2, q3, q4, q5] [(2, m s0 1)] ds m Q)) := P_gd k56_33 rfl
set_option maxRecDepth 20000 in
theorem k56_36 : mjCode 56 36 = some (.getfield 88, 3, 2, 4) := by decide +kernel
theorem p56_36 {s0 : Int} {q0 q1 q2 q3 q4 q5 : MV} {ds : Ds} {m : Mm} {Q : Ds → Mm → List MV → Prop} : WP 56 36 [q0, q1, q2, q3, q4, q5] [(2, s0)] ds m Q = ((dk ds s0 = 2 ∧ WP 56 39 [q0, q1, q2, q3, q4, q5] [(0, m s0 4)] ds m Q)) := P_gd k56_36 rfl
set_option maxRecDepth 20000 in
theorem k56_39 : mjCode 56 39 = some (.sipush 1000, 3, 0, 0) := by decide +kernel
theorem p56_39 {s0 : Int} {q0 q1 q2 q3 q4 q5 : MV} {ds : Ds} {m : Mm} {Q : Ds → Mm → List MV → Prop} : WP 56 39 [q0, q1, q2, q3, q4, q5] [(0, s0)] ds m Q = (WP 56 42 [q0, q1, q2, q3, q4, q5] [(0, 1000), (0, s0)] ds m Q) := P_nx k56_39 rfl
set_option maxRecDepth 20000 in
theorem k56_42 : mjCode 56 42 = some (.if_icmp .ge 99, 3, 141, 0) := by decide +kernel
theorem p56_42 {s0 s1 : Int} {q0 q1 q2 q3 q4 q5 : MV} {ds : Ds} {m : Mm} {Q : Ds → Mm → List MV → Prop} : WP 56 42 [q0, q1, q2, q3, q4, q5] [(0, s0), (0, s1)] ds m Q = (if s1 < s0 then WP 56 45 [q0, q1, q2, q3, q4, q5] [] ds m Q else WP 56 141 [q0, q1, q2, q3, q4, q5] [] ds m Q) := P_if k56_42 rfl
set_option maxRecDepth 20000 in
theorem k56_45 : mjCode 56 45 = some (.aload_n 0, 1, 0, 0) := by decide +kernel
theorem p56_45 {l0 : Int} {q1 q2 q3 q4 q5 : MV} {ds : Ds} {m : Mm} {Q : Ds → Mm → List MV → Prop} : WP 56 45 [(2, l0), q1, q2, q3, q4, q5] [] ds m Q = (WP 56 46 [(2, l0), q1, q2, q3, q4, q5] [(2, l0)] ds m Q) := P_nx k56_45 rfl
set_option maxRecDepth 20000 in
theorem k56_46 : mjCode 56 46 = some (.getfield 39, 3, 5, 0) := by decide +kernel
theorem p56_46 {s0 : Int} {q0 q1 q2 q3 q4 q5 : MV} {ds : Ds} {m : Mm} {Q : Ds → Mm → List MV → Prop} : WP 56 46 [q0, q1, q2, q3, q4, q5] [(2, s0)] ds m Q = ((dk ds s0 = 5 ∧ WP 56 49 [q0, q1, q2, q3, q4, q5] [(2, m s0 0)] ds m Q)) := P_gd k56_46 rfl
set_option maxRecDepth 20000 in
theorem k56_49 : mjCode 56 49 = some (.dup, 1, 0, 0) := by decide +kernel
theorem p56_49 {s0 : Int} {q0 q1 q2 q3 q4 q5 : MV} {ds : Ds} {m : Mm} {Q : Ds → Mm → List MV → Prop} : WP 56 49 [q0, q1, q2, q3, q4, q5] [(2, s0)] ds m Q = (WP 56 50 [q0, q1, q2, q3, q4, q5] [(2, s0), (2, s0)] ds m Q) := P_nx k56_49 rfl
set_option maxRecDepth 20000 in
theorem k56_50 : mjCode 56 50 = some (.getfield 119, 3, 1, 7) := by decide +kernel
theorem p56_50 {s0 s1 : Int} {q0 q1 q2 q3 q4 q5 : MV} {ds : Ds} {m : Mm} {Q : Ds → Mm → List MV → Prop} : WP 56 50 [q0, q1, q2, q3, q4, q5] [(2, s0), (2, s1)] ds m Q = ((dk ds s0 = 1 ∧ WP 56 53 [q0, q1, q2, q3, q4, q5] [(0, m s0 7), (2, s1)] ds m Q)) := P_gd k56_50 rfl
set_option maxRecDepth 20000 in
theorem k56_53 : mjCode 56 53 = some (.iconst 1, 1, 0, 0) := by decide +kernel
theorem p56_53 {s0 s1 : Int} {q0 q1 q2 q3 q4 q5 : MV} {ds : Ds} {m : Mm} {Q : Ds → Mm → List MV → Prop} : WP 56 53 [q0, q1, q2, q3, q4, q5] [(0, s0), (2, s1)] ds m Q = (WP 56 54 [q0, q1, q2, q3, q4, q5] [(0, 1), (0, s0), (2, s1)] ds m Q) := P_nx k56_53 rfl
set_option maxRecDepth 20000 in
theorem k56_54 : mjCode 56 54 = some (.isub, 1, 0, 0) := by decide +kernel
theorem p56_54 {s0 s1 s2 : Int} {q0 q1 q2 q3 q4 q5 : MV} {ds : Ds} {m : Mm} {Q : Ds → Mm → List MV → Prop} : WP 56 54 [q0, q1, q2, q3, q4, q5] [(0, s0), (0, s1), (2, s2)] ds m Q = (WP 56 55 [q0, q1, q2, q3, q4, q5] [(0, w32 (s1 - s0)), (2, s2)] ds m Q) := P_nx k56_54 rfl
set_option maxRecDepth 20000 in
theorem k56_55 : mjCode 56 55 = some (.putfield 119, 3, 1, 7) := by decide +kernel
theorem p56_55 {s0 s1 : Int} {q0 q1 q2 q3 q4 q5 : MV} {ds : Ds} {m : Mm} {Q : Ds → Mm → List MV → Prop} : WP 56 55 [q0, q1, q2, q3, q4, q5] [(0, s0), (2, s1)] ds m Q = ((dk ds s1 = 1 ∧ WP 56 58 [q0, q1, q2, q3, q4, q5] [] ds (up m s1 7 s0) Q)) := P_pf k56_55 rfl
set_option maxRecDepth 20000 in
theorem k56_58 : mjCode 56 58 = some (.aload_n 0, 1, 0, 0) := by decide +kernel
theorem p56_58 {l0 : Int} {q1 q2 q3 q4 q5 : MV} {ds : Ds} {m : Mm} {Q : Ds → Mm → List MV → Prop} : WP 56 58 [(2, l0), q1, q2, q3, q4, q5] [] ds m Q = (WP 56 59 [(2, l0), q1, q2, q3, q4, q5] [(2, l0)] ds m Q) := P_nx k56_58 rfl
set_option maxRecDepth 20000 in
theorem k56_59 : mjCode 56 59 = some (.getfield 39, 3, 5, 0) := by decide +kernel
theorem p56_59 {s0 : Int} {q0 q1 q2 q3 q4 q5 : MV} {ds : Ds} {m : Mm} {Q : Ds → Mm → List MV → Prop} : WP 56 59 [q0, q1, q2, q3, q4, q5] [(2, s0)] ds m Q = ((dk ds s0 = 5 ∧ WP 56 62 [q0, q1, q2, q3, q4, q5] [(2, m s0 0)] ds m Q)) := P_gd k56_59 rfl
set_option maxRecDepth 20000 in
theorem k56_62 : mjCode 56 62 = some (.getfield 132, 3, 1, 3) := by decide +kernel
theorem p56_62 {s0 : Int} {q0 q1 q2 q3 q4 q5 : MV} {ds : Ds} {m : Mm} {Q : Ds → Mm → List MV → Prop} : WP 56 62 [q0, q1, q2, q3, q4, q5] [(2, s0)] ds m Q = ((dk ds s0 = 1 ∧ WP 56 65 [q0, q1, q2, q3, q4, q5] [(2, m s0 3)] ds m Q)) := P_gd k56_62 rfl
set_option maxRecDepth 20000 in
theorem k56_65 : mjCode 56 65 = some (.iload_n 1, 1, 0, 0) := by decide +kernel
theorem p56_65 {l1 s0 : Int} {q0 q2 q3 q4 q5 : MV} {ds : Ds} {m : Mm} {Q : Ds → Mm → List MV → Prop} : WP 56 65 [q0, (0, l1), q2, q3, q4, q5] [(2, s0)] ds m Q = (WP 56 66 [q0, (0, l1), q2, q3, q4, q5] [(0, l1), (2, s0)] ds m Q) := P_nx k56_65 rfl
set_option maxRecDepth 20000 in
theorem k56_66 : mjCode 56 66 = some (.iaload, 1, 0, 0) := by decide +kernel
theorem p56_66 {s0 s1 : Int} {q0 q1 q2 q3 q4 q5 : MV} {ds : Ds} {m : Mm} {Q : Ds → Mm → List MV → Prop} : WP 56 66 [q0, q1, q2, q3, q4, q5] [(0, s0), (2, s1)] ds m Q = ((dk ds s1 = 10 ∧ 0 ≤ s0 ∧ s0 < dl ds s1 ∧ WP 56 67 [q0, q1, q2, q3, q4, q5] [(0, m s1 s0)] ds m Q)) := P_g3 k56_66 rfl
set_option maxRecDepth 20000 in
theorem k56_67 : mjCode 56 67 = some (.iconst 4, 1, 0, 0) := by decide +kernel
theorem p56_67 {s0 : Int} {q0 q1 q2 q3 q4 q5 : MV} {ds : Ds} {m : Mm} {Q : Ds → Mm → List MV → Prop} : WP 56 67 [q0, q1, q2, q3, q4, q5] [(0, s0)] ds m Q = (WP 56 68 [q0, q1, q2, q3, q4, q5] [(0, 4), (0, s0)] ds m Q) := P_nx k56_67 rfl
set_option maxRecDepth 20000 in
theorem k56_68 : mjCode 56 68 = some (.irem, 1, 0, 0) := by decide +kernel
theorem p56_68 {s0 s1 : Int} {q0 q1 q2 q3 q4 q5 : MV} {ds : Ds} {m : Mm} {Q : Ds → Mm → List MV → Prop} : WP 56 68 [q0, q1, q2, q3, q4, q5] [(0, s0), (0, s1)] ds m Q = ((¬ s0 = 0 ∧ WP 56 69 [q0, q1, q2, q3, q4, q5] [(0, jrem s1 s0)] ds m Q)) := P_dv k56_68 rfl
set_option maxRecDepth 20000 in
theorem k56_69 : mjCode 56 69 = some (.istore_n 3, 1, 0, 0) := by decide +kernel
theorem p56_69 {l2 s0 : Int} {q0 q1 q3 q4 q5 : MV} {ds : Ds} {m : Mm} {Q : Ds → Mm → List MV → Prop} : WP 56 69 [q0, q1, (0, l2), q3, q4, q5] [(0, s0)] ds m Q = (WP 56 70 [q0, q1, (0, l2), (0, s0), q4, q5] [] ds m Q) := P_nx k56_69 rfl
set_option maxRecDepth 20000 in
theorem k56_70 : mjCode 56 70 = some (.aload_n 0, 1, 0, 0) := by decide +kernel
theorem p56_70 {l0 : Int} {q1 q2 q3 q4 q5 : MV} {ds : Ds} {m : Mm} {Q : Ds → Mm → List MV → Prop} : WP 56 70 [(2, l0), q1, q2, q3, q4, q5] [] ds m Q = (WP 56 71 [(2, l0), q1, q2, q3, q4, q5] [(2, l0)] ds m Q) := P_nx k56_70 rfl
set_option maxRecDepth 20000 in
theorem k56_71 : mjCode 56 71 = some (.aload_n 0, 1, 0, 0) := by decide +kernel
theorem p56_71 {l0 s0 : Int} {q1 q2 q3 q4 q5 : MV} {ds : Ds} {m : Mm} {Q : Ds → Mm → List MV → Prop} : WP 56 71 [(2, l0), q1, q2, q3, q4, q5] [(2, s0)] ds m Q = (WP 56 72 [(2, l0), q1, q2, q3, q4, q5] [(2, l0), (2, s0)] ds m Q) := P_nx k56_71 rfl
set_option maxRecDepth 20000 in
theorem k56_72 : mjCode 56 72 = some (.getfield 39, 3, 5, 0) := by decide +kernel
theorem p56_72 {s0 s1 : Int} {q0 q1 q2 q3 q4 q5 : MV} {ds : Ds} {m : Mm} {Q : Ds → Mm → List MV → Prop} : WP 56 72 [q0, q1, q2, q3, q4, q5] [(2, s0), (2, s1)] ds m Q = ((dk ds s0 = 5 ∧ WP 56 75 [q0, q1, q2, q3, q4, q5] [(2, m s0 0), (2, s1)] ds m Q)) := P_gd k56_72 rfl
set_option maxRecDepth 20000 in
theorem k56_75 : mjCode 56 75 = some (.getfield 132, 3, 1, 3) := by decide +kernel
theorem p56_75 {s0 s1 : Int} {q0 q1 q2 q3 q4 q5 : MV} {ds : Ds} {m : Mm} {Q : Ds → Mm → List MV → Prop} : WP 56 75 [q0, q1, q2, q3, q4, q5] [(2, s0), (2, s1)] ds m Q = ((dk ds s0 = 1 ∧ WP 56 78 [q0, q1, q2, q3, q4, q5] [(2, m s0 3), (2, s1)] ds m Q)) := P_gd k56_75 rfl
set_option maxRecDepth 20000 in
theorem k56_78 : mjCode 56 78 = some (.iload_n 1, 1, 0, 0) := by decide +kernel
theorem p56_78 {l1 s0 s1 : Int} {q0 q2 q3 q4 q5 : MV} {ds : Ds} {m : Mm} {Q : Ds → Mm → List MV → Prop} : WP 56 78 [q0, (0, l1), q2, q3, q4, q5] [(2, s0), (2, s1)] ds m Q = (WP 56 79 [q0, (0, l1), q2, q3, q4, q5] [(0, l1), (2, s0), (2, s1)] ds m Q) := P_nx k56_78 rfl
set_option maxRecDepth 20000 in
theorem k56_79 : mjCode 56 79 = some (.iaload, 1, 0, 0) := by decide +kernel
theorem p56_79 {s0 s1 s2 : Int} {q0 q1 q2 q3 q4 q5 : MV} {ds : Ds} {m : Mm} {Q : Ds → Mm → List MV → Prop} : WP 56 79 [q0, q1, q2, q3, q4, q5] [(0, s0), (2, s1), (2, s2)] ds m Q = ((dk ds s1 = 10 ∧ 0 ≤ s0 ∧ s0 < dl ds s1 ∧ WP 56 80 [q0, q1, q2, q3, q4, q5] [(0, m s1 s0), (2, s2)] ds m Q)) := P_g3 k56_79 rfl
set_option maxRecDepth 20000 in
theorem k56_80 : mjCode 56 80 = some (.iconst 4, 1, 0, 0) := by decide +kernel
theorem p56_80 {s0 s1 : Int} {q0 q1 q2 q3 q4 q5 : MV} {ds : Ds} {m : Mm} {Q : Ds → Mm → List MV → Prop} : WP 56 80 [q0, q1, q2, q3, q4, q5] [(0, s0), (2, s1)] ds m Q = (WP 56 81 [q0, q1, q2, q3, q4, q5] [(0, 4), (0, s0), (2, s1)] ds m Q) := P_nx k56_80 rfl
set_option maxRecDepth 20000 in
theorem k56_81 : mjCode 56 81 = some (.idiv, 1, 0, 0) := by decide +kernel
theorem p56_81 {s0 s1 s2 : Int} {q0 q1 q2 q3 q4 q5 : MV} {ds : Ds} {m : Mm} {Q : Ds → Mm → List MV → Prop} : WP 56 81 [q0, q1, q2, q3, q4, q5] [(0, s0), (0, s1), (2, s2)] ds m Q = ((¬ s0 = 0 ∧ WP 56 82 [q0, q1, q2, q3, q4, q5] [(0, jdiv s1 s0), (2, s2)] ds m Q)) := P_dv k56_81 rfl
set_option maxRecDepth 20000 in
theorem k56_82 : mjCode 56 82 = some (.iload_n 3, 1, 0, 0) := by decide +kernel
theorem p56_82 {l3 s0 s1 : Int} {q0 q1 q2 q4 q5 : MV} {ds : Ds} {m : Mm} {Q : Ds → Mm → List MV → Prop} : WP 56 82 [q0, q1, q2, (0, l3), q4, q5] [(0, s0), (2, s1)] ds m Q = (WP 56 83 [q0, q1, q2, (0, l3), q4, q5] [(0, l3), (0, s0), (2, s1)] ds m Q) := P_nx k56_82 rfl
set_option maxRecDepth 20000 in
theorem k56_83 : mjCode 56 83 = some (.aload_n 0, 1, 0, 0) := by decide +kernel
theorem p56_83 {l0 s0 s1 s2 : Int} {q1 q2 q3 q4 q5 : MV} {ds : Ds} {m : Mm} {Q : Ds → Mm → List MV → Prop} : WP 56 83 [(2, l0), q1, q2, q3, q4, q5] [(0, s0), (0, s1), (2, s2)] ds m Q = (WP 56 84 [(2, l0), q1, q2, q3, q4, q5] [(2, l0), (0, s0), (0, s1), (2, s2)] ds m Q) := P_nx k56_83 rfl
set_option maxRecDepth 20000 in
theorem k56_84 : mjCode 56 84 = some (.getfield 39, 3, 5, 0) := by decide +kernel
theorem p56_84 {s0 s1 s2 s3 : Int} {q0 q1 q2 q3 q4 q5 : MV} {ds : Ds} {m : Mm} {Q : Ds → Mm → List MV → Prop} : WP 56 84 [q0, q1, q2, q3, q4, q5] [(2, s0), (0, s1), (0, s2), (2, s3)] ds m Q = ((dk ds s0 = 5 ∧ WP 56 87 [q0, q1, q2, q3, q4, q5] [(2, m s0 0), (0, s1), (0, s2), (2, s3)] ds m Q)) := P_gd k56_84 rfl
set_option maxRecDepth 20000 in
theorem k56_87 : mjCode 56 87 = some (.getfield 135, 3, 1, 5) := by decide +kernel
theorem p56_87 {s0 s1 s2 s3 : Int} {q0 q1 q2 q3 q4 q5 : MV} {ds : Ds} {m : Mm} {Q : Ds → Mm → List MV → Prop} : WP 56 87 [q0, q1, q2, q3, q4, q5] [(2, s0), (0, s1), (0, s2), (2, s3)] ds m Q = ((dk ds s0 = 1 ∧ WP 56 90 [q0, q1, q2, q3, q4, q5] [(2, m s0 5), (0, s1), (0, s2), (2, s3)] ds m Q)) := P_gd k56_87 rfl
set_option maxRecDepth 20000 in
theorem k56_90 : mjCode 56 90 = some (.iload_n 1, 1, 0, 0) := by decide +kernel
theorem p56_90 {l1 s0 s1 s2 s3 : Int} {q0 q2 q3 q4 q5 : MV} {ds : Ds} {m : Mm} {Q : Ds → Mm → List MV → Prop} : WP 56 90 [q0, (0, l1), q2, q3, q4, q5] [(2, s0), (0, s1), (0, s2), (2, s3)] ds m Q = (WP 56 91 [q0, (0, l1), q2, q3, q4, q5] [(0, l1), (2, s0), (0, s1), (0, s2), (2, s3)] ds m Q) := P_nx k56_90 rfl
set_option maxRecDepth 20000 in
theorem k56_91 : mjCode 56 91 = some (.baload, 1, 0, 0) := by decide +kernel
theorem p56_91 {s0 s1 s2 s3 s4 : Int} {q0 q1 q2 q3 q4 q5 : MV} {ds : Ds} {m : Mm} {Q : Ds → Mm → List MV → Prop} : WP 56 91 [q0, q1, q2, q3, q4, q5] [(0, s0), (2, s1), (0, s2), (0, s3), (2, s4)] ds m Q = ((dk ds s1 = 11 ∧ 0 ≤ s0 ∧ s0 < dl ds s1 ∧ WP 56 92 [q0, q1, q2, q3, q4, q5] [(0, m s1 s0), (0, s2), (0, s3), (2, s4)] ds m Q)) := P_g3 k56_91 rfl
set_option maxRecDepth 20000 in
theorem k56_92 : mjCode 56 92 = some (.invokevirtual 138, 3, 58, 4) := by decide +kernel
theorem p56_92 {s0 s1 s2 s3 : Int} {q0 q1 q2 q3 q4 q5 : MV} {ds : Ds} {m : Mm} {Q : Ds → Mm → List MV → Prop} : WP 56 92 [q0, q1, q2, q3, q4, q5] [(0, s0), (0, s1), (0, s2), (2, s3)] ds m Q = ((dk ds s3 = 5 ∧ WP 57 0 [(2, s3), (0, s2), (0, s1), (0, s0), (3, 0)] [] ds m (fun d2 m2 r2 => WP 56 95 [q0, q1, q2, q3, q4, q5] (r2 ++ []) d2 m2 Q))) := P_cv k56_92 mx57 mo57 rfl rfl rfl rfl rfl rfl rfl rfl
set_option maxRecDepth 20000 in
theorem k56_95 : mjCode 56 95 = some (.istore 4, 2, 0, 0) := by decide +kernel
theorem p56_95 {l3 s0 : Int} {q0 q1 q2 q4 q5 : MV} {ds : Ds} {m : Mm} {Q : Ds → Mm → List MV → Prop} : WP 56 95 [q0, q1, q2, (0, l3), q4, q5] [(0, s0)] ds m Q = (WP 56 97 [q0, q1, q2, (0, l3), (0, s0), q5] [] ds m Q) := P_nx k56_95 rfl
set_option maxRecDepth 20000 in
theorem k56_97 : mjCode 56 97 = some (.aload_n 0, 1, 0, 0) := by decide +kernel
theorem p56_97 {l0 : Int} {q1 q2 q3 q4 q5 : MV} {ds : Ds} {m : Mm} {Q : Ds → Mm → List MV → Prop} : WP 56 97 [(2, l0), q1, q2, q3, q4, q5] [] ds m Q = (WP 56 98 [(2, l0), q1, q2, q3, q4, q5] [(2, l0)] ds m Q) := P_nx k56_97 rfl
set_option maxRecDepth 20000 in
theorem k56_98 : mjCode 56 98 = some (.iload 4, 2, 0, 0) := by decide +kernel
theorem p56_98 {l4 s0 : Int} {q0 q1 q2 q3 q5 : MV} {ds : Ds} {m : Mm} {Q : Ds → Mm → List MV → Prop} : WP 56 98 [q0, q1, q2, q3, (0, l4), q5] [(2, s0)] ds m Q = (WP 56 100 [q0, q1, q2, q3, (0, l4), q5] [(0, l4), (2, s0)] ds m Q) := P_nx k56_98 rfl
set_option maxRecDepth 20000 in
theorem k56_100 : mjCode 56 100 = some (.iload_n 3, 1, 0, 0) := by decide +kernel
theorem p56_100 {l3 s0 s1 : Int} {q0 q1 q2 q4 q5 : MV} {ds : Ds} {m : Mm} {Q : Ds → Mm → List MV → Prop} : WP 56 100 [q0, q1, q2, (0, l3), q4, q5] [(0, s0), (2, s1)] ds m Q = (WP 56 101 [q0, q1, q2, (0, l3), q4, q5] [(0, l3), (0, s0), (2, s1)] ds m Q) := P_nx k56_100 rfl
set_option maxRecDepth 20000 in
theorem k56_101 : mjCode 56 101 = some (.aload_n 0, 1, 0, 0) := by decide +kernel
theorem p56_101 {l0 s0 s1 s2 : Int} {q1 q2 q3 q4 q5 : MV} {ds : Ds} {m : Mm} {Q : Ds → Mm → List MV → Prop} : WP 56 101 [(2, l0), q1, q2, q3, q4, q5] [(0, s0), (0, s1), (2, s2)] ds m Q = (WP 56 102 [(2, l0), q1, q2, q3, q4, q5] [(2, l0), (0, s0), (0, s1), (2, s2)] ds m Q) := P_nx k56_101 rfl
set_option maxRecDepth 20000 in
theorem k56_102 : mjCode 56 102 = some (.getfield 39, 3, 5, 0) := by decide +kernel
theorem p56_102 {s0 s1 s2 s3 : Int} {q0 q1 q2 q3 q4 q5 : MV} {ds : Ds} {m : Mm} {Q : Ds → Mm → List MV → Prop} : WP 56 102 [q0, q1, q2, q3, q4, q5] [(2, s0), (0, s1), (0, s2), (2, s3)] ds m Q = ((dk ds s0 = 5 ∧ WP 56 105 [q0, q1, q2, q3, q4, q5] [(2, m s0 0), (0, s1), (0, s2), (2, s3)] ds m Q)) := P_gd k56_102 rfl
set_option maxRecDepth 20000 in
theorem k56_105 : mjCode 56 105 = some (.getfield 142, 3, 1, 4) := by decide +kernel
theorem p56_105 {s0 s1 s2 s3 : Int} {q0 q1 q2 q3 q4 q5 : MV} {ds : Ds} {m : Mm} {Q : Ds → Mm → List MV → Prop} : WP 56 105 [q0, q1, q2, q3, q4, q5] [(2, s0), (0, s1), (0, s2), (2, s3)] ds m Q = ((dk ds s0 = 1 ∧ WP 56 108 [q0, q1, q2, q3, q4, q5] [(2, m s0 4), (0, s1), (0, s2), (2, s3)] ds m Q)) := P_gd k56_105 rfl
set_option maxRecDepth 20000 in
theorem k56_108 : mjCode 56 108 = some (.iload_n 1, 1, 0, 0) := by decide +kernel
theorem p56_108 {l1 s0 s1 s2 s3 : Int} {q0 q2 q3 q4 q5 : MV} {ds : Ds} {m : Mm} {Q : Ds → Mm → List MV → Prop} : WP 56 108 [q0, (0, l1), q2, q3, q4, q5] [(2, s0), (0, s1), (0, s2), (2, s3)] ds m Q = (WP 56 109 [q0, (0, l1), q2, q3, q4, q5] [(0, l1), (2, s0), (0, s1), (0, s2), (2, s3)] ds m Q) := P_nx k56_108 rfl
set_option maxRecDepth 20000 in
theorem k56_109 : mjCode 56 109 = some (.iaload, 1, 0, 0) := by decide +kernel
theorem p56_109 {s0 s1 s2 s3 s4 : Int} {q0 q1 q2 q3 q4 q5 : MV} {ds : Ds} {m : Mm} {Q : Ds → Mm → List MV → Prop} : WP 56 109 [q0, q1, q2, q3, q4, q5] [(0, s0), (2, s1), (0, s2), (0, s3), (2, s4)] ds m Q = ((dk ds s1 = 10 ∧ 0 ≤ s0 ∧ s0 < dl ds s1 ∧ WP 56 110 [q0, q1, q2, q3, q4, q5] [(0, m s1 s0), (0, s2), (0, s3), (2, s4)] ds m Q)) := P_g3 k56_109 rfl
set_option maxRecDepth 20000 in
theorem k56_110 : mjCode 56 110 = some (.iconst 0, 1, 0, 0) := by decide +kernel
theorem p56_110 {s0 s1 s2 s3 : Int} {q0 q1 q2 q3 q4 q5 : MV} {ds : Ds} {m : Mm} {Q : Ds → Mm → List MV → Prop} : WP 56 110 [q0, q1, q2, q3, q4, q5] [(0, s0), (0, s1), (0, s2), (2, s3)] ds m Q = (WP 56 111 [q0, q1, q2, q3, q4, q5] [(0, 0), (0, s0), (0, s1), (0, s2), (2, s3)] ds m Q) := P_nx k56_110 rfl
set_option maxRecDepth 20000 in
theorem k56_111 : mjCode 56 111 = some (.invokevirtual 145, 3, 63, 5) := by decide +kernel
theorem p56_111 {s0 s1 s2 s3 s4 : Int} {q0 q1 q2 q3 q4 q5 : MV} {ds : Ds} {m : Mm} {Q : Ds → Mm → List MV → Prop} : WP 56 111 [q0, q1, q2, q3, q4, q5] [(0, s0), (0, s1), (0, s2), (0, s3), (2, s4)] ds m Q = ((dk ds s4 = 5 ∧ WP 62 0 [(2, s4), (0, s3), (0, s2), (0, s1), (0, s0), (3, 0), (3, 0)] [] ds m (fun d2 m2 r2 => WP 56 114 [q0, q1, q2, q3, q4, q5] (r2 ++ []) d2 m2 Q))) := P_cv k56_111 mx62 mo62 rfl rfl rfl rfl rfl rfl rfl rfl
set_option maxRecDepth 20000 in
theorem k56_114 : mjCode 56 114 = some (.istore 5, 2, 0, 0) := by decide +kernel
theorem p56_114 {l4 s0 : Int} {q0 q1 q2 q3 q5 : MV} {ds : Ds} {m : Mm} {Q : Ds → Mm → List MV → Prop} : WP 56 114 [q0, q1, q2, q3, (0, l4), q5] [(0, s0)] ds m Q = (WP 56 116 [q0, q1, q2, q3, (0, l4), (0, s0)] [] ds m Q) := P_nx k56_114 rfl
set_option maxRecDepth 20000 in
theorem k56_116 : mjCode 56 116 = some (.aload_n 0, 1, 0, 0) := by decide +kernel
theorem p56_116 {l0 : Int} {q1 q2 q3 q4 q5 : MV} {ds : Ds} {m : Mm} {Q : Ds → Mm → List MV → Prop} : WP 56 116 [(2, l0), q1, q2, q3, q4, q5] [] ds m Q = (WP 56 117 [(2, l0), q1, q2, q3, q4, q5] [(2, l0)] ds m Q) := P_nx k56_116 rfl
set_option maxRecDepth 20000 in
theorem k56_117 : mjCode 56 117 = some (.iload 4, 2, 0, 0) := by decide +kernel
theorem p56_117 {l4 s0 : Int} {q0 q1 q2 q3 q5 : MV} {ds : Ds} {m : Mm} {Q : Ds → Mm → List MV → Prop} : WP 56 117 [q0, q1, q2, q3, (0, l4), q5] [(2, s0)] ds m Q = (WP 56 119 [q0, q1, q2, q3, (0, l4), q5] [(0, l4), (2, s0)] ds m Q) := P_nx k56_117 rfl
set_option maxRecDepth 20000 in
theorem k56_119 : mjCode 56 119 = some (.iload_n 3, 1, 0, 0) := by decide +kernel
theorem p56_119 {l3 s0 s1 : Int} {q0 q1 q2 q4 q5 : MV} {ds : Ds} {m : Mm} {Q : Ds → Mm → List MV → Prop} : WP 56 119 [q0, q1, q2, (0, l3), q4, q5] [(0, s0), (2, s1)] ds m Q = (WP 56 120 [q0, q1, q2, (0, l3), q4, q5] [(0, l3), (0, s0), (2, s1)] ds m Q) := P_nx k56_119 rfl
set_option maxRecDepth 20000 in
theorem k56_120 : mjCode 56 120 = some (.iload 5, 2, 0, 0) := by decide +kernel
theorem p56_120 {l5 s0 s1 s2 : Int} {q0 q1 q2 q3 q4 : MV} {ds : Ds} {m : Mm} {Q : Ds → Mm → List MV → Prop} : WP 56 120 [q0, q1, q2, q3, q4, (0, l5)] [(0, s0), (0, s1), (2, s2)] ds m Q = (WP 56 122 [q0, q1, q2, q3, q4, (0, l5)] [(0, l5), (0, s0), (0, s1), (2, s2)] ds m Q) := P_nx k56_120 rfl
set_option maxRecDepth 20000 in
theorem k56_122 : mjCode 56 122 = some (.invokevirtual 149, 3, 64, 4) := by decide +kernel
theorem p56_122 {s0 s1 s2 s3 : Int} {q0 q1 q2 q3 q4 q5 : MV} {ds : Ds} {m : Mm} {Q : Ds → Mm → List MV → Prop} : WP 56 122 [q0, q1, q2, q3, q4, q5] [(0, s0), (0, s1), (0, s2), (2, s3)] ds m Q = ((dk ds s3 = 5 ∧ WP 63 0 [(2, s3), (0, s2), (0, s1), (0, s0), (3, 0), (3, 0), (3, 0), (3, 0)] [] ds m (fun d2 m2 r2 => WP 56 125 [q0, q1, q2, q3, q4, q5] (r2 ++ []) d2 m2 Q))) := P_cv k56_122 mx63 mo63 rfl rfl rfl rfl rfl rfl rfl rfl
set_option maxRecDepth 20000 in
theorem k56_125 : mjCode 56 125 = some (.aload_n 0, 1, 0, 0) := by decide +kernel
theorem p56_125 {l0 : Int} {q1 q2 q3 q4 q5 : MV} {ds : Ds} {m : Mm} {Q : Ds → Mm → List MV → Prop} : WP 56 125 [(2, l0), q1, q2, q3, q4, q5] [] ds m Q = (WP 56 126 [(2, l0), q1, q2, q3, q4, q5] [(2, l0)] ds m Q) := P_nx k56_125 rfl
set_option maxRecDepth 20000 in
theorem k56_126 : mjCode 56 126 = some (.getfield 39, 3, 5, 0) := by decide +kernel
theorem p56_126 {s0 : Int} {q0 q1 q2 q3 q4 q5 : MV} {ds : Ds} {m : Mm} {Q : Ds → Mm → List MV → Prop} : WP 56 126 [q0, q1, q2, q3, q4, q5] [(2, s0)] ds m Q = ((dk ds s0 = 5 ∧ WP 56 129 [q0, q1, q2, q3, q4, q5] [(2, m s0 0)] ds m Q)) := P_gd k56_126 rfl
set_option maxRecDepth 20000 in
theorem k56_129 : mjCode 56 129 = some (.getfield 153, 3, 1, 2) := by decide +kernel
theorem p56_129 {s0 : Int} {q0 q1 q2 q3 q4 q5 : MV} {ds : Ds} {m : Mm} {Q : Ds → Mm → List MV → Prop} : WP 56 129 [q0, q1, q2, q3, q4, q5] [(2, s0)] ds m Q = ((dk ds s0 = 1 ∧ WP 56 132 [q0, q1, q2, q3, q4, q5] [(2, m s0 2)] ds m Q)) := P_gd k56_129 rfl
set_option maxRecDepth 20000 in
theorem k56_132 : mjCode 56 132 = some (.iload_n 1, 1, 0, 0) := by decide +kernel
theorem p56_132 {l1 s0 : Int} {q0 q2 q3 q4 q5 : MV} {ds : Ds} {m : Mm} {Q : Ds → Mm → List MV → Prop} : WP 56 132 [q0, (0, l1), q2, q3, q4, q5] [(2, s0)] ds m Q = (WP 56 133 [q0, (0, l1), q2, q3, q4, q5] [(0, l1), (2, s0)] ds m Q) := P_nx k56_132 rfl
set_option maxRecDepth 20000 in
theorem k56_133 : mjCode 56 133 = some (.iaload, 1, 0, 0) := by decide +kernel
theorem p56_133 {s0 s1 : Int} {q0 q1 q2 q3 q4 q5 : MV} {ds : Ds} {m : Mm} {Q : Ds → Mm → List MV → Prop} : WP 56 133 [q0, q1, q2, q3, q4, q5] [(0, s0), (2, s1)] ds m Q = ((dk ds s1 = 10 ∧ 0 ≤ s0 ∧ s0 < dl ds s1 ∧ WP 56 134 [q0, q1, q2, q3, q4, q5] [(0, m s1 s0)] ds m Q)) := P_g3 k56_133 rfl
set_option maxRecDepth 20000 in
theorem k56_134 : mjCode 56 134 = some (.istore_n 1, 1, 0, 0) := by decide +kernel
theorem p56_134 {l0 s0 : Int} {q1 q2 q3 q4 q5 : MV} {ds : Ds} {m : Mm} {Q : Ds → Mm → List MV → Prop} : WP 56 134 [(2, l0), q1, q2, q3, q4, q5] [(0, s0)] ds m Q = (WP 56 135 [(2, l0), (0, s0), q2, q3, q4, q5] [] ds m Q) := P_nx k56_134 rfl
set_option maxRecDepth 20000 in
theorem k56_135 : mjCode 56 135 = some (.iinc 2 1, 3, 0, 0) := by decide +kernel
theorem p56_135 {l2 : Int} {q0 q1 q3 q4 q5 : MV} {ds : Ds} {m : Mm} {Q : Ds → Mm → List MV → Prop} : WP 56 135 [q0, q1, (0, l2), q3, q4, q5] [] ds m Q = (WP 56 138 [q0, q1, (0, w32 (l2 + 1)), q3, q4, q5] [] ds m Q) := P_nx k56_135 rfl
set_option maxRecDepth 20000 in
theorem k56_138 : mjCode 56 138 = some (.goto (-124), 3, 14, 0) := by decide +kernel
theorem p56_138 {q0 q1 q2 q3 q4 q5 : MV} {ds : Ds} {m : Mm} {Q : Ds → Mm → List MV → Prop} : WP 56 138 [q0, q1, q2, q3, q4, q5] [] ds m Q = (WP 56 14 [q0, q1, q2, q3, q4, q5] [] ds m Q) := P_nx k56_138 rfl
set_option maxRecDepth 20000 in
theorem k56_141 : mjCode 56 141 = some (.return_, 1, 0, 0) := by decide +kernel
theorem p56_141 {q0 q1 q2 q3 q4 q5 : MV} {ds : Ds} {m : Mm} {Q : Ds → Mm → List MV → Prop} : WP 56 141 [q0, q1, q2, q3, q4, q5] [] ds m Q = (Q ds m []) := P_rv k56_141 rk56
set_option maxRecDepth 20000 in
theorem k57_0 : mjCode 57 0 = some (.iload_n 3, 1, 0, 0) := by decide +kernel
theorem p57_0 {l3 : Int} {q0 q1 q2 q4 : MV} {ds : Ds} {m : Mm} {Q : Ds → Mm → List MV → Prop} : WP 57 0 [q0, q1, q2, (0, l3), q4] [] ds m Q = (WP 57 1 [q0, q1, q2, (0, l3), q4] [(0, l3)] ds m Q) := P_nx k57_0 rfl
set_option maxRecDepth 20000 in
theorem k57_1 : mjCode 57 1 = some (.ifCond .eq 11, 3, 12, 0) := by decide +kernel
theorem p57_1 {s0 : Int} {q0 q1 q2 q3 q4 : MV} {ds : Ds} {m : Mm} {Q : Ds → Mm → List MV → Prop} : WP 57 1 [q0, q1, q2, q3, q4] [(0, s0)] ds m Q = (if s0 = 0 then WP 57 12 [q0, q1, q2, q3, q4] [] ds m Q else WP 57 4 [q0, q1, q2, q3, q4] [] ds m Q) := P_if k57_1 rfl
set_option maxRecDepth 20000 in
theorem k57_4 : mjCode 57 4 = some (.aload_n 0, 1, 0, 0) := by decide +kernel
theorem p57_4 {l0 : Int} {q1 q2 q3 q4 : MV} {ds : Ds} {m : Mm} {Q : Ds → Mm → List MV → Prop} : WP 57 4 [(2, l0), q1, q2, q3, q4] [] ds m Q = (WP 57 5 [(2, l0), q1, q2, q3, q4] [(2, l0)] ds m Q) := P_nx k57_4 rfl
set_option maxRecDepth 20000 in
theorem k57_5 : mjCode 57 5 = some (.iload_n 1, 1, 0, 0) := by decide +kernel
theorem p57_5 {l1 s0 : Int} {q0 q2 q3 q4 : MV} {ds : Ds} {m : Mm} {Q : Ds → Mm → List MV → Prop} : WP 57 5 [q0, (0, l1), q2, q3, q4] [(2, s0)] ds m Q = (WP 57 6 [q0, (0, l1), q2, q3, q4] [(0, l1), (2, s0)] ds m Q) := P_nx k57_5 rfl
set_option maxRecDepth 20000 in
theorem k57_6 : mjCode 57 6 = some (.invokevirtual 156, 3, 59, 2) := by decide +kernel
theorem p57_6 {s0 s1 : Int} {q0 q1 q2 q3 q4 : MV} {ds : Ds} {m : Mm} {Q : Ds → Mm → List MV → Prop} : WP 57 6 [q0, q1, q2, q3, q4] [(0, s0), (2, s1)] ds m Q = ((dk ds s1 = 5 ∧ WP 58 0 [(2, s1), (0, s0)] [] ds m (fun d2 m2 r2 => WP 57 9 [q0, q1, q2, q3, q4] (r2 ++ []) d2 m2 Q))) := P_cv k57_6 mx58 mo58 rfl rfl rfl rfl rfl rfl rfl rfl
set_option maxRecDepth 20000 in
theorem k57_9 : mjCode 57 9 = some (.ifCond .ne 5, 3, 14, 0) := by decide +kernel
theorem p57_9 {s0 : Int} {q0 q1 q2 q3 q4 : MV} {ds : Ds} {m : Mm} {Q : Ds → Mm → List MV → Prop} : WP 57 9 [q0, q1, q2, q3, q4] [(0, s0)] ds m Q = (if s0 = 0 then WP 57 12 [q0, q1, q2, q3, q4] [] ds m Q else WP 57 14 [q0, q1, q2, q3, q4] [] ds m Q) := P_if k57_9 rfl
set_option maxRecDepth 20000 in
theorem k57_12 : mjCode 57 12 = some (.iload_n 1, 1, 0, 0) := by decide +kernel
theorem p57_12 {l1 : Int} {q0 q2 q3 q4 : MV} {ds : Ds} {m : Mm} {Q : Ds → Mm → List MV → Prop} : WP 57 12 [q0, (0, l1), q2, q3, q4] [] ds m Q = (WP 57 13 [q0, (0, l1), q2, q3, q4] [(0, l1)] ds m Q) := P_nx k57_12 rfl
set_option maxRecDepth 20000 in
theorem k57_13 : mjCode 57 13 = some (.ireturn, 1, 0, 0) := by decide +kernel
theorem p57_13 {s0 : Int} {q0 q1 q2 q3 q4 : MV} {ds : Ds} {m : Mm} {Q : Ds → Mm → List MV → Prop} : WP 57 13 [q0, q1, q2, q3, q4] [(0, s0)] ds m Q = (Q ds m [(0, s0)]) := P_ri k57_13 rk57
set_option maxRecDepth 20000 in
theorem k57_14 : mjCode 57 14 = some (.iload_n 1, 1, 0, 0) := by decide +kernel
theorem p57_14 {l1 : Int} {q0 q2 q3 q4 : MV} {ds : Ds} {m : Mm} {Q : Ds → Mm → List MV → Prop} : WP 57 14 [q0, (0, l1), q2, q3, q4] [] ds m Q = (WP 57 15 [q0, (0, l1), q2, q3, q4] [(0, l1)] ds m Q) := P_nx k57_14 rfl
set_option maxRecDepth 20000 in
theorem k57_15 : mjCode 57 15 = some (.iload_n 2, 1, 0, 0) := by decide +kernel
theorem p57_15 {l2 s0 : Int} {q0 q1 q3 q4 : MV} {ds : Ds} {m : Mm} {Q : Ds → Mm → List MV → Prop} : WP 57 15 [q0, q1, (0, l2), q3, q4] [(0, s0)] ds m Q = (WP 57 16 [q0, q1, (0, l2), q3, q4] [(0, l2), (0, s0)] ds m Q) := P_nx k57_15 rfl
set_option maxRecDepth 20000 in
theorem k57_16 : mjCode 57 16 = some (.invokestatic 159, 3, 111, 1) := by decide +kernel
theorem p57_16 {s0 s1 : Int} {q0 q1 q2 q3 q4 : MV} {ds : Ds} {m : Mm} {Q : Ds → Mm → List MV → Prop} : WP 57 16 [q0, q1, q2, q3, q4] [(0, s0), (0, s1)] ds m Q = (WP 110 0 [(0, s0)] [] ds m (fun d2 m2 r2 => WP 57 19 [q0, q1, q2, q3, q4] (r2 ++ [(0, s1)]) d2 m2 Q)) := P_cs k57_16 mx110 rfl rfl rfl rfl rfl rfl rfl
set_option maxRecDepth 20000 in
theorem k57_19 : mjCode 57 19 = some (.invokestatic 162, 3, 112, 2) := by decide +kernel
theorem p57_19 {s0 s1 : Int} {q0 q1 q2 q3 q4 : MV} {ds : Ds} {m : Mm} {Q : Ds → Mm → List MV → Prop} : WP 57 19 [q0, q1, q2, q3, q4] [(0, s0), (0, s1)] ds m Q = (WP 111 0 [(0, s1), (0, s0), (3, 0), (3, 0)] [] ds m (fun d2 m2 r2 => WP 57 22 [q0, q1, q2, q3, q4] (r2 ++ []) d2 m2 Q)) := P_cs k57_19 mx111 rfl rfl rfl rfl rfl rfl rfl
set_option maxRecDepth 20000 in
theorem k57_22 : mjCode 57 22 = some (.istore 4, 2, 0, 0) := by decide +kernel
theorem p57_22 {l3 s0 : Int} {q0 q1 q2 q4 : MV} {ds : Ds} {m : Mm} {Q : Ds → Mm → List MV → Prop} : WP 57 22 [q0, q1, q2, (0, l3), q4] [(0, s0)] ds m Q = (WP 57 24 [q0, q1, q2, (0, l3), (0, s0)] [] ds m Q) := P_nx k57_22 rfl
set_option maxRecDepth 20000 in
theorem k57_24 : mjCode 57 24 = some (.iload 4, 2, 0, 0) := by decide +kernel
theorem p57_24 {l4 : Int} {q0 q1 q2 q3 : MV} {ds : Ds} {m : Mm} {Q : Ds → Mm → List MV → Prop} : WP 57 24 [q0, q1, q2, q3, (0, l4)] [] ds m Q = (WP 57 26 [q0, q1, q2, q3, (0, l4)] [(0, l4)] ds m Q) := P_nx k57_24 rfl
set_option maxRecDepth 20000 in
theorem k57_26 : mjCode 57 26 = some (.iconst (-1), 1, 0, 0) := by decide +kernel
theorem p57_26 {s0 : Int} {q0 q1 q2 q3 q4 : MV} {ds : Ds} {m : Mm} {Q : Ds → Mm → List MV → Prop} : WP 57 26 [q0, q1, q2, q3, q4] [(0, s0)] ds m Q = (WP 57 27 [q0, q1, q2, q3, q4] [(0, (-1)), (0, s0)] ds m Q) := P_nx k57_26 rfl
set_option maxRecDepth 20000 in
theorem k57_27 : mjCode 57 27 = some (.if_icmp .eq 12, 3, 39, 0) := by decide +kernel
theorem p57_27 {s0 s1 : Int} {q0 q1 q2 q3 q4 : MV} {ds : Ds} {m : Mm} {Q : Ds → Mm → List MV → Prop} : WP 57 27 [q0, q1, q2, q3, q4] [(0, s0), (0, s1)] ds m Q = (if s1 = s0 then WP 57 39 [q0, q1, q2, q3, q4] [] ds m Q else WP 57 30 [q0, q1, q2, q3, q4] [] ds m Q) := P_if k57_27 rfl
set_option maxRecDepth 20000 in
theorem k57_30 : mjCode 57 30 = some (.aload_n 0, 1, 0, 0) := by decide +kernel
theorem p57_30 {l0 : Int} {q1 q2 q3 q4 : MV} {ds : Ds} {m : Mm} {Q : Ds → Mm → List MV → Prop} : WP 57 30 [(2, l0), q1, q2, q3, q4] [] ds m Q = (WP 57 31 [(2, l0), q1, q2, q3, q4] [(2, l0)] ds m Q) := P_nx k57_30 rfl
set_option maxRecDepth 20000 in
theorem k57_31 : mjCode 57 31 = some (.iload 4, 2, 0, 0) := by decide +kernel
theorem p57_31 {l4 s0 : Int} {q0 q1 q2 q3 : MV} {ds : Ds} {m : Mm} {Q : Ds → Mm → List MV → Prop} : WP 57 31 [q0, q1, q2, q3, (0, l4)] [(2, s0)] ds m Q = (WP 57 33 [q0, q1, q2, q3, (0, l4)] [(0, l4), (2, s0)] ds m Q) := P_nx k57_31 rfl
set_option maxRecDepth 20000 in
theorem k57_33 : mjCode 57 33 = some (.invokevirtual 156, 3, 59, 2) := by decide +kernel
theorem p57_33 {s0 s1 : Int} {q0 q1 q2 q3 q4 : MV} {ds : Ds} {m : Mm} {Q : Ds → Mm → List MV → Prop} : WP 57 33 [q0, q1, q2, q3, q4] [(0, s0), (2, s1)] ds m Q = ((dk ds s1 = 5 ∧ WP 58 0 [(2, s1), (0, s0)] [] ds m (fun d2 m2 r2 => WP 57 36 [q0, q1, q2, q3, q4] (r2 ++ []) d2 m2 Q))) := P_cv k57_33 mx58 mo58 rfl rfl rfl rfl rfl rfl rfl rfl
set_option maxRecDepth 20000 in
theorem k57_36 : mjCode 57 36 = some (.ifCond .eq 7, 3, 43, 0) := by decide +kernel
theorem p57_36 {s0 : Int} {q0 q1 q2 q3 q4 : MV} {ds : Ds} {m : Mm} {Q : Ds → Mm → List MV → Prop} : WP 57 36 [q0, q1, q2, q3, q4] [(0, s0)] ds m Q = (if s0 = 0 then WP 57 43 [q0, q1, q2, q3, q4] [] ds m Q else WP 57 39 [q0, q1, q2, q3, q4] [] ds m Q) := P_if k57_36 rfl
set_option maxRecDepth 20000 in
theorem k57_39 : mjCode 57 39 = some (.iload_n 1, 1, 0, 0) := by decide +kernel
theorem p57_39 {l1 : Int} {q0 q2 q3 q4 : MV} {ds : Ds} {m : Mm} {Q : Ds → Mm → List MV → Prop} : WP 57 39 [q0, (0, l1), q2, q3, q4] [] ds m Q = (WP 57 40 [q0, (0, l1), q2, q3, q4] [(0, l1)] ds m Q) := P_nx k57_39 rfl
set_option maxRecDepth 20000 in
theorem k57_40 : mjCode 57 40 = some (.goto 5, 3, 45, 0) := by decide +kernel
theorem p57_40 {s0 : Int} {q0 q1 q2 q3 q4 : MV} {ds : Ds} {m : Mm} {Q : Ds → Mm → List MV → Prop} : WP 57 40 [q0, q1, q2, q3, q4] [(0, s0)] ds m Q = (WP 57 45 [q0, q1, q2, q3, q4] [(0, s0)] ds m Q) := P_nx k57_40 rfl
set_option maxRecDepth 20000 in
theorem k57_43 : mjCode 57 43 = some (.iload 4, 2, 0, 0) := by decide +kernel
theorem p57_43 {l4 : Int} {q0 q1 q2 q3 : MV} {ds : Ds} {m : Mm} {Q : Ds → Mm → List MV → Prop} : WP 57 43 [q0, q1, q2, q3, (0, l4)] [] ds m Q = (WP 57 45 [q0, q1, q2, q3, (0, l4)] [(0, l4)] ds m Q) := P_nx k57_43 rfl
set_option maxRecDepth 20000 in
theorem k57_45 : mjCode 57 45 = some (.ireturn, 1, 0, 0) := by decide +kernel
theorem p57_45 {s0 : Int} {q0 q1 q2 q3 q4 : MV} {ds : Ds} {m : Mm} {Q : Ds → Mm → List MV → Prop} : WP 57 45 [q0, q1, q2, q3, q4] [(0, s0)] ds m Q = (Q ds m [(0, s0)]) := P_ri k57_45 rk57
set_option maxRecDepth 20000 in
theorem k58_0 : mjCode 58 0 = some (.iload_n 1, 1, 0, 0) := by decide +kernel
theorem p58_0 {l1 : Int} {q0 : MV} {ds : Ds} {m : Mm} {Q : Ds → Mm → List MV → Prop} : WP 58 0 [q0, (0, l1)] [] ds m Q = (WP 58 1 [q0, (0, l1)] [(0, l1)] ds m Q) := P_nx k58_0 rfl
set_option maxRecDepth 20000 in
theorem k58_1 : mjCode 58 1 = some (.invokestatic 75, 3, 108, 1) := by decide +kernel
theorem p58_1 {s0 : Int} {q0 q1 : MV} {ds : Ds} {m : Mm} {Q : Ds → Mm → List MV → Prop} : WP 58 1 [q0, q1] [(0, s0)] ds m Q = (WP 107 0 [(0, s0)] [] ds m (fun d2 m2 r2 => WP 58 4 [q0, q1] (r2 ++ []) d2 m2 Q)) := P_cs k58_1 mx107 rfl rfl rfl rfl rfl rfl rfl
set_option maxRecDepth 20000 in
theorem k58_4 : mjCode 58 4 = some (.ifCond .eq 32, 3, 36, 0) := by decide +kernel
theorem p58_4 {s0 : Int} {q0 q1 : MV} {ds : Ds} {m : Mm} {Q : Ds → Mm → List MV → Prop} : WP 58 4 [q0, q1] [(0, s0)] ds m Q = (if s0 = 0 then WP 58 36 [q0, q1] [] ds m Q else WP 58 7 [q0, q1] [] ds m Q) := P_if k58_4 rfl
set_option maxRecDepth 20000 in
theorem k58_7 : mjCode 58 7 = some (.aload_n 0, 1, 0, 0) := by decide +kernel
theorem p58_7 {l0 : Int} {q1 : MV} {ds : Ds} {m : Mm} {Q : Ds → Mm → List MV → Prop} : WP 58 7 [(2, l0), q1] [] ds m Q = (WP 58 8 [(2, l0), q1] [(2, l0)] ds m Q) := P_nx k58_7 rfl
set_option maxRecDepth 20000 in
theorem k58_8 : mjCode 58 8 = some (.getfield 35, 3, 5, 8) := by decide +kernel
theorem p58_8 {s0 : Int} {q0 q1 : MV} {ds : Ds} {m : Mm} {Q : Ds → Mm → List MV → Prop} : WP 58 8 [q0, q1] [(2, s0)] ds m Q = ((dk ds s0 = 5 ∧ WP 58 11 [q0, q1] [(2, m s0 8)] ds m Q)) := P_gd k58_8 rfl
set_option maxRecDepth 20000 in
theorem k58_11 : mjCode 58 11 = some (.getfield 166, 3, 3, 0) := by decide +kernel
theorem p58_11 {s0 : Int} {q0 q1 : MV} {ds : Ds} {m : Mm} {Q : Ds → Mm → List MV → Prop} : WP 58 11 [q0, q1] [(2, s0)] ds m Q = ((dk ds s0 = 3 ∧ WP 58 14 [q0, q1] [(2, m s0 0)] ds m Q)) := P_gd k58_11 rfl
set_option maxRecDepth 20000 in
theorem k58_14 : mjCode 58 14 = some (.iload_n 1, 1, 0, 0) := by decide +kernel
theorem p58_14 {l1 s0 : Int} {q0 : MV} {ds : Ds} {m : Mm} {Q : Ds → Mm → List MV → Prop} : WP 58 14 [q0, (0, l1)] [(2, s0)] ds m Q = (WP 58 15 [q0, (0, l1)] [(0, l1), (2, s0)] ds m Q) := P_nx k58_14 rfl
set_option maxRecDepth 20000 in
theorem k58_15 : mjCode 58 15 = some (.iaload, 1, 0, 0) := by decide +kernel
theorem p58_15 {s0 s1 : Int} {q0 q1 : MV} {ds : Ds} {m : Mm} {Q : Ds → Mm → List MV → Prop} : WP 58 15 [q0, q1] [(0, s0), (2, s1)] ds m Q = ((dk ds s1 = 10 ∧ 0 ≤ s0 ∧ s0 < dl ds s1 ∧ WP 58 16 [q0, q1] [(0, m s1 s0)] ds m Q)) := P_g3 k58_15 rfl
set_option maxRecDepth 20000 in
theorem k58_16 : mjCode 58 16 = some (.ifCond .ne 20, 3, 36, 0) := by decide +kernel
theorem p58_16 {s0 : Int} {q0 q1 : MV} {ds : Ds} {m : Mm} {Q : Ds → Mm → List MV → Prop} : WP 58 16 [q0, q1] [(0, s0)] ds m Q = (if s0 = 0 then WP 58 19 [q0, q1] [] ds m Q else WP 58 36 [q0, q1] [] ds m Q) := P_if k58_16 rfl
set_option maxRecDepth 20000 in
theorem k58_19 : mjCode 58 19 = some (.aload_n 0, 1, 0, 0) := by decide +kernel
theorem p58_19 {l0 : Int} {q1 : MV} {ds : Ds} {m : Mm} {Q : Ds → Mm → List MV → Prop} : WP 58 19 [(2, l0), q1] [] ds m Q = (WP 58 20 [(2, l0), q1] [(2, l0)] ds m Q) := P_nx k58_19 rfl
set_option maxRecDepth 20000 in
theorem k58_20 : mjCode 58 20 = some (.getfield 12, 3, 5, 2) := by decide +kernel
theorem p58_20 {s0 : Int} {q0 q1 : MV} {ds : Ds} {m : Mm} {Q : Ds → Mm → List MV → Prop} : WP 58 20 [q0, q1] [(2, s0)] ds m Q = ((dk ds s0 = 5 ∧ WP 58 23 [q0, q1] [(2, m s0 2)] ds m Q)) := P_gd k58_20 rfl
set_option maxRecDepth 20000 in
theorem k58_23 : mjCode 58 23 = some (.getfield 169, 3, 0, 0) := by decide +kernel
theorem p58_23 {s0 : Int} {q0 q1 : MV} {ds : Ds} {m : Mm} {Q : Ds → Mm → List MV → Prop} : WP 58 23 [q0, q1] [(2, s0)] ds m Q = ((dk ds s0 = 0 ∧ WP 58 26 [q0, q1] [(2, m s0 0)] ds m Q)) := P_gd k58_23 rfl
set_option maxRecDepth 20000 in
theorem k58_26 : mjCode 58 26 = some (.iload_n 1, 1, 0, 0) := by decide +kernel
theorem p58_26 {l1 s0 : Int} {q0 : MV} {ds : Ds} {m : Mm} {Q : Ds → Mm → List MV → Prop} : WP 58 26 [q0, (0, l1)] [(2, s0)] ds m Q = (WP 58 27 [q0, (0, l1)] [(0, l1), (2, s0)] ds m Q) := P_nx k58_26 rfl
set_option maxRecDepth 20000 in
theorem k58_27 : mjCode 58 27 = some (.iaload, 1, 0, 0) := by decide +kernel
theorem p58_27 {s0 s1 : Int} {q0 q1 : MV} {ds : Ds} {m : Mm} {Q : Ds → Mm → List MV → Prop} : WP 58 27 [q0, q1] [(0, s0), (2, s1)] ds m Q = ((dk ds s1 = 10 ∧ 0 ≤ s0 ∧ s0 < dl ds s1 ∧ WP 58 28 [q0, q1] [(0, m s1 s0)] ds m Q)) := P_g3 k58_27 rfl
set_option maxRecDepth 20000 in
theorem k58_28 : mjCode 58 28 = some (.iconst (-1), 1, 0, 0) := by decide +kernel
theorem p58_28 {s0 : Int} {q0 q1 : MV} {ds : Ds} {m : Mm} {Q : Ds → Mm → List MV → Prop} : WP 58 28 [q0, q1] [(0, s0)] ds m Q = (WP 58 29 [q0, q1] [(0, (-1)), (0, s0)] ds m Q) := P_nx k58_28 rfl
set_option maxRecDepth 20000 in
theorem k58_29 : mjCode 58 29 = some (.if_icmp .ne 7, 3, 36, 0) := by decide +kernel
theorem p58_29 {s0 s1 : Int} {q0 q1 : MV} {ds : Ds} {m : Mm} {Q : Ds → Mm → List MV → Prop} : WP 58 29 [q0, q1] [(0, s0), (0, s1)] ds m Q = (if s1 = s0 then WP 58 32 [q0, q1] [] ds m Q else WP 58 36 [q0, q1] [] ds m Q) := P_if k58_29 rfl
set_option maxRecDepth 20000 in
theorem k58_32 : mjCode 58 32 = some (.iconst 1, 1, 0, 0) := by decide +kernel
theorem p58_32 {q0 q1 : MV} {ds : Ds} {m : Mm} {Q : Ds → Mm → List MV → Prop} : WP 58 32 [q0, q1] [] ds m Q = (WP 58 33 [q0, q1] [(0, 1)] ds m Q) := P_nx k58_32 rfl
set_option maxRecDepth 20000 in
theorem k58_33 : mjCode 58 33 = some (.goto 4, 3, 37, 0) := by decide +kernel
theorem p58_33 {s0 : Int} {q0 q1 : MV} {ds : Ds} {m : Mm} {Q : Ds → Mm → List MV → Prop} : WP 58 33 [q0, q1] [(0, s0)] ds m Q = (WP 58 37 [q0, q1] [(0, s0)] ds m Q) := P_nx k58_33 rfl
set_option maxRecDepth 20000 in
theorem k58_36 : mjCode 58 36 = some (.iconst 0, 1, 0, 0) := by decide +kernel
theorem p58_36 {q0 q1 : MV} {ds : Ds} {m : Mm} {Q : Ds → Mm → List MV → Prop} : WP 58 36 [q0, q1] [] ds m Q = (WP 58 37 [q0, q1] [(0, 0)] ds m Q) := P_nx k58_36 rfl
set_option maxRecDepth 20000 in
theorem k58_37 : mjCode 58 37 = some (.ireturn, 1, 0, 0) := by decide +kernel
theorem p58_37 {s0 : Int} {q0 q1 : MV} {ds : Ds} {m : Mm} {Q : Ds → Mm → List MV → Prop} : WP 58 37 [q0, q1] [(0, s0)] ds m Q = (((s0 = 0 ∨ s0 = 1) ∧ Q ds m [(0, s0)])) := P_rb k58_37 rk58
set_option maxRecDepth 20000 in
theorem k59_0 : mjCode 59 0 = some (.iconst 0, 1, 0, 0) := by decide +kernel
theorem p59_0 {q0 q1 q2 q3 q4 : MV} {ds : Ds} {m : Mm} {Q : Ds → Mm → List MV → Prop} : WP 59 0 [q0, q1, q2, q3, q4] [] ds m Q = (WP 59 1 [q0, q1, q2, q3, q4] [(0, 0)] ds m Q) := P_nx k59_0 rfl
set_option maxRecDepth 20000 in
theorem k59_1 : mjCode 59 1 = some (.istore_n 1, 1, 0, 0) := by decide +kernel
theorem p59_1 {l0 s0 : Int} {q1 q2 q3 q4 : MV} {ds : Ds} {m : Mm} {Q : Ds → Mm → List MV → Prop} : WP 59 1 [(2, l0), q1, q2, q3, q4] [(0, s0)] ds m Q = (WP 59 2 [(2, l0), (0, s0), q2, q3, q4] [] ds m Q) := P_nx k59_1 rfl
set_option maxRecDepth 20000 in
theorem k59_2 : mjCode 59 2 = some (.iload_n 1, 1, 0, 0) := by decide +kernel
theorem p59_2 {l1 : Int} {q0 q2 q3 q4 : MV} {ds : Ds} {m : Mm} {Q : Ds → Mm → List MV → Prop} : WP 59 2 [q0, (0, l1), q2, q3, q4] [] ds m Q = (WP 59 3 [q0, (0, l1), q2, q3, q4] [(0, l1)] ds m Q) := P_nx k59_2 rfl
set_option maxRecDepth 20000 in
theorem k59_3 : mjCode 59 3 = some (.aload_n 0, 1, 0, 0) := by decide +kernel
theorem p59_3 {l0 s0 : Int} {q1 q2 q3 q4 : MV} {ds : Ds} {m : Mm} {Q : Ds → Mm → List MV → Prop} : WP 59 3 [(2, l0), q1, q2, q3, q4] [(0, s0)] ds m Q = (WP 59 4 [(2, l0), q1, q2, q3, q4] [(2, l0), (0, s0)] ds m Q) := P_nx k59_3 rfl
set_option maxRecDepth 20000 in
theorem k59_4 : mjCode 59 4 = some (.getfield 12, 3, 5, 2) := by decide +kernel
theorem p59_4 {s0 s1 : Int} {q0 q1 q2 q3 q4 : MV} {ds : Ds} {m : Mm} {Q : Ds → Mm → List MV → Prop} : WP 59 4 [q0, q1, q2, q3, q4] [(2, s0), (0, s1)] ds m Q = ((dk ds s0 = 5 ∧ WP 59 7 [q0, q1, q2, q3, q4] [(2, m s0 2), (0, s1)] ds m Q)) := P_gd k59_4 rfl
set_option maxRecDepth 20000 in
theorem k59_7 : mjCode 59 7 = some (.getfield 172, 3, 0, 6) := by decide +kernel
theorem p59_7 {s0 s1 : Int} {q0 q1 q2 q3 q4 : MV} {ds : Ds} {m : Mm} {Q : Ds → Mm → List MV → Prop} : WP 59 7 [q0, q1, q2, q3, q4] [(2, s0), (0, s1)] ds m Q = ((dk ds s0 = 0 ∧ WP 59 10 [q0, q1, q2, q3, q4] [(0, m s0 6), (0, s1)] ds m Q)) := P_gd k59_7 rfl
set_option maxRecDepth 20000 in
theorem k59_10 : mjCode 59 10 = some (.if_icmp .ge 143, 3, 153, 0) := by decide +kernel
theorem p59_10 {s0 s1 : Int} {q0 q1 q2 q3 q4 : MV} {ds : Ds} {m : Mm} {Q : Ds → Mm → List MV → Prop} : WP 59 10 [q0, q1, q2, q3, q4] [(0, s0), (0, s1)] ds m Q = (if s1 < s0 then WP 59 13 [q0, q1, q2, q3, q4] [] ds m Q else WP 59 153 [q0, q1, q2, q3, q4] [] ds m Q) := P_if k59_10 rfl
set_option maxRecDepth 20000 in
theorem k59_13 : mjCode 59 13 = some (.aload_n 0, 1, 0, 0) := by decide +kernel
theorem p59_13 {l0 : Int} {q1 q2 q3 q4 : MV} {ds : Ds} {m : Mm} {Q : Ds → Mm → List MV → Prop} : WP 59 13 [(2, l0), q1, q2, q3, q4] [] ds m Q = (WP 59 14 [(2, l0), q1, q2, q3, q4] [(2, l0)] ds m Q) := P_nx k59_13 rfl
set_option maxRecDepth 20000 in
theorem k59_14 : mjCode 59 14 = some (.getfield 43, 3, 5, 1) := by decide +kernel
theorem p59_14 {s0 : Int} {q0 q1 q2 q3 q4 : MV} {ds : Ds} {m : Mm} {Q : Ds → Mm → List MV → Prop} : WP 59 14 [q0, q1, q2, q3, q4] [(2, s0)] ds m Q = ((dk ds s0 = 5 ∧ WP 59 17 [q0, q1, q2, q3, q4] [(2, m s0 1)] ds m Q)) := P_gd k59_14 rfl
set_option maxRecDepth 20000 in
theorem k59_17 : mjCode 59 17 = some (.getfield 88, 3, 2, 4) := by decide +kernel
theorem p59_17 {s0 : Int} {q0 q1 q2 q3 q4 : MV} {ds : Ds} {m : Mm} {Q : Ds → Mm → List MV → Prop} : WP 59 17 [q0, q1, q2, q3, q4] [(2, s0)] ds m Q = ((dk ds s0 = 2 ∧ WP 59 20 [q0, q1, q2, q3, q4] [(0, m s0 4)] ds m Q)) := P_gd k59_17 rfl
set_option maxRecDepth 20000 in
theorem k59_20 : mjCode 59 20 = some (.sipush 1000, 3, 0, 0) := by decide +kernel
theorem p59_20 {s0 : Int} {q0 q1 q2 q3 q4 : MV} {ds : Ds} {m : Mm} {Q : Ds → Mm → List MV → Prop} : WP 59 20 [q0, q1, q2, q3, q4] [(0, s0)] ds m Q = (WP 59 23 [q0, q1, q2, q3, q4] [(0, 1000), (0, s0)] ds m Q) := P_nx k59_20 rfl
set_option maxRecDepth 20000 in
theorem k59_23 : mjCode 59 23 = some (.if_icmp .ge 130, 3, 153, 0) := by decide +kernel
theorem p59_23 {s0 s1 : Int} {q0 q1 q2 q3 q4 : MV} {ds : Ds} {m : Mm} {Q : Ds → Mm → List MV → Prop} : WP 59 23 [q0, q1, q2, q3, q4] [(0, s0), (0, s1)] ds m Q = (if s1 < s0 then WP 59 26 [q0, q1, q2, q3, q4] [] ds m Q else WP 59 153 [q0, q1, q2, q3, q4] [] ds m Q) := P_if k59_23 rfl
set_option maxRecDepth 20000 in
theorem k59_26 : mjCode 59 26 = some (.aload_n 0, 1, 0, 0) := by decide +kernel
theorem p59_26 {l0 : Int} {q1 q2 q3 q4 : MV} {ds : Ds} {m : Mm} {Q : Ds → Mm → List MV → Prop} : WP 59 26 [(2, l0), q1, q2, q3, q4] [] ds m Q = (WP 59 27 [(2, l0), q1, q2, q3, q4] [(2, l0)] ds m Q) := P_nx k59_26 rfl
set_option maxRecDepth 20000 in
theorem k59_27 : mjCode 59 27 = some (.getfield 12, 3, 5, 2) := by decide +kernel
theorem p59_27 {s0 : Int} {q0 q1 q2 q3 q4 : MV} {ds : Ds} {m : Mm} {Q : Ds → Mm → List MV → Prop} : WP 59 27 [q0, q1, q2, q3, q4] [(2, s0)] ds m Q = ((dk ds s0 = 5 ∧ WP 59 30 [q0, q1, q2, q3, q4] [(2, m s0 2)] ds m Q)) := P_gd k59_27 rfl
set_option maxRecDepth 20000 in
theorem k59_30 : mjCode 59 30 = some (.iload_n 1, 1, 0, 0) := by decide +kernel
theorem p59_30 {l1 s0 : Int} {q0 q2 q3 q4 : MV} {ds : Ds} {m : Mm} {Q : Ds → Mm → List MV → Prop} : WP 59 30 [q0, (0, l1), q2, q3, q4] [(2, s0)] ds m Q = (WP 59 31 [q0, (0, l1), q2, q3, q4] [(0, l1), (2, s0)] ds m Q) := P_nx k59_30 rfl
set_option maxRecDepth 20000 in
theorem k59_31 : mjCode 59 31 = some (.invokevirtual 173, 3, 6, 2) := by decide +kernel
theorem p59_31 {s0 s1 : Int} {q0 q1 q2 q3 q4 : MV} {ds : Ds} {m : Mm} {Q : Ds → Mm → List MV → Prop} : WP 59 31 [q0, q1, q2, q3, q4] [(0, s0), (2, s1)] ds m Q = ((dk ds s1 = 0 ∧ WP 5 0 [(2, s1), (0, s0)] [] ds m (fun d2 m2 r2 => WP 59 34 [q0, q1, q2, q3, q4] (r2 ++ []) d2 m2 Q))) := P_cv k59_31 mx5 mo5 rfl rfl rfl rfl rfl rfl rfl rfl
set_option maxRecDepth 20000 in
theorem k59_34 : mjCode 59 34 = some (.ifCond .eq 113, 3, 147, 0) := by decide +kernel
theorem p59_34 {s0 : Int} {q0 q1 q2 q3 q4 : MV} {ds : Ds} {m : Mm} {Q : Ds → Mm → List MV → Prop} : WP 59 34 [q0, q1, q2, q3, q4] [(0, s0)] ds m Q = (if s0 = 0 then WP 59 147 [q0, q1, q2, q3, q4] [] ds m Q else WP 59 37 [q0, q1, q2, q3, q4] [] ds m Q) := P_if k59_34 rfl
set_option maxRecDepth 20000 in
theorem k59_37 : mjCode 59 37 = some (.aload_n 0, 1, 0, 0) := by decide +kernel
theorem p59_37 {l0 : Int} {q1 q2 q3 q4 : MV} {ds : Ds} {m : Mm} {Q : Ds → Mm → List MV → Prop} : WP 59 37 [(2, l0), q1, q2, q3, q4] [] ds m Q = (WP 59 38 [(2, l0), q1, q2, q3, q4] [(2, l0)] ds m Q) := P_nx k59_37 rfl
set_option maxRecDepth 20000 in
theorem k59_38 : mjCode 59 38 = some (.getfield 12, 3, 5, 2) := by decide +kernel
theorem p59_38 {s0 : Int} {q0 q1 q2 q3 q4 : MV} {ds : Ds} {m : Mm} {Q : Ds → Mm → List MV → Prop} : WP 59 38 [q0, q1, q2, q3, q4] [(2, s0)] ds m Q = ((dk ds s0 = 5 ∧ WP 59 41 [q0, q1, q2, q3, q4] [(2, m s0 2)] ds m Q)) := P_gd k59_38 rfl
set_option maxRecDepth 20000 in
theorem k59_41 : mjCode 59 41 = some (.getfield 176, 3, 0, 2) := by decide +kernel
theorem p59_41 {s0 : Int} {q0 q1 q2 q3 q4 : MV} {ds : Ds} {m : Mm} {Q : Ds → Mm → List MV → Prop} : WP 59 41 [q0, q1, q2, q3, q4] [(2, s0)] ds m Q = ((dk ds s0 = 0 ∧ WP 59 44 [q0, q1, q2, q3, q4] [(2, m s0 2)] ds m Q)) := P_gd k59_41 rfl
set_option maxRecDepth 20000 in
theorem k59_44 : mjCode 59 44 = some (.iload_n 1, 1, 0, 0) := by decide +kernel
theorem p59_44 {l1 s0 : Int} {q0 q2 q3 q4 : MV} {ds : Ds} {m : Mm} {Q : Ds → Mm → List MV → Prop} : WP 59 44 [q0, (0, l1), q2, q3, q4] [(2, s0)] ds m Q = (WP 59 45 [q0, (0, l1), q2, q3, q4] [(0, l1), (2, s0)] ds m Q) := P_nx k59_44 rfl
set_option maxRecDepth 20000 in
theorem k59_45 : mjCode 59 45 = some (.iaload, 1, 0, 0) := by decide +kernel
theorem p59_45 {s0 s1 : Int} {q0 q1 q2 q3 q4 : MV} {ds : Ds} {m : Mm} {Q : Ds → Mm → List MV → Prop} : WP 59 45 [q0, q1, q2, q3, q4] [(0, s0), (2, s1)] ds m Q = ((dk ds s1 = 10 ∧ 0 ≤ s0 ∧ s0 < dl ds s1 ∧ WP 59 46 [q0, q1, q2, q3, q4] [(0, m s1 s0)] ds m Q)) := P_g3 k59_45 rfl
set_option maxRecDepth 20000 in
theorem k59_46 : mjCode 59 46 = some (.istore_n 2, 1, 0, 0) := by decide +kernel
theorem p59_46 {l1 s0 : Int} {q0 q2 q3 q4 : MV} {ds : Ds} {m : Mm} {Q : Ds → Mm → List MV → Prop} : WP 59 46 [q0, (0, l1), q2, q3, q4] [(0, s0)] ds m Q = (WP 59 47 [q0, (0, l1), (0, s0), q3, q4] [] ds m Q) := P_nx k59_46 rfl
set_option maxRecDepth 20000 in
theorem k59_47 : mjCode 59 47 = some (.aload_n 0, 1, 0, 0) := by decide +kernel
theorem p59_47 {l0 : Int} {q1 q2 q3 q4 : MV} {ds : Ds} {m : Mm} {Q : Ds → Mm → List MV → Prop} : WP 59 47 [(2, l0), q1, q2, q3, q4] [] ds m Q = (WP 59 48 [(2, l0), q1, q2, q3, q4] [(2, l0)] ds m Q) := P_nx k59_47 rfl
set_option maxRecDepth 20000 in
theorem k59_48 : mjCode 59 48 = some (.getfield 12, 3, 5, 2) := by decide +kernel
theorem p59_48 {s0 : Int} {q0 q1 q2 q3 q4 : MV} {ds : Ds} {m : Mm} {Q : Ds → Mm → List MV → Prop} : WP 59 48 [q0, q1, q2, q3, q4] [(2, s0)] ds m Q = ((dk ds s0 = 5 ∧ WP 59 51 [q0, q1, q2, q3, q4] [(2, m s0 2)] ds m Q)) := P_gd k59_48 rfl
set_option maxRecDepth 20000 in
theorem k59_51 : mjCode 59 51 = some (.getfield 179, 3, 0, 1) := by decide +kernel
theorem p59_51 {s0 : Int} {q0 q1 q2 q3 q4 : MV} {ds : Ds} {m : Mm} {Q : Ds → Mm → List MV → Prop} : WP 59 51 [q0, q1, q2, q3, q4] [(2, s0)] ds m Q = ((dk ds s0 = 0 ∧ WP 59 54 [q0, q1, q2, q3, q4] [(2, m s0 1)] ds m Q)) := P_gd k59_51 rfl
set_option maxRecDepth 20000 in
theorem k59_54 : mjCode 59 54 = some (.iload_n 1, 1, 0, 0) := by decide +kernel
theorem p59_54 {l1 s0 : Int} {q0 q2 q3 q4 : MV} {ds : Ds} {m : Mm} {Q : Ds → Mm → List MV → Prop} : WP 59 54 [q0, (0, l1), q2, q3, q4] [(2, s0)] ds m Q = (WP 59 55 [q0, (0, l1), q2, q3, q4] [(0, l1), (2, s0)] ds m Q) := P_nx k59_54 rfl
set_option maxRecDepth 20000 in
theorem k59_55 : mjCode 59 55 = some (.iaload, 1, 0, 0) := by decide +kernel
theorem p59_55 {s0 s1 : Int} {q0 q1 q2 q3 q4 : MV} {ds : Ds} {m : Mm} {Q : Ds → Mm → List MV → Prop} : WP 59 55 [q0, q1, q2, q3, q4] [(0, s0), (2, s1)] ds m Q = ((dk ds s1 = 10 ∧ 0 ≤ s0 ∧ s0 < dl ds s1 ∧ WP 59 56 [q0, q1, q2, q3, q4] [(0, m s1 s0)] ds m Q)) := P_g3 k59_55 rfl
set_option maxRecDepth 20000 in
theorem k59_56 : mjCode 59 56 = some (.iload_n 2, 1, 0, 0) := by decide +kernel
theorem p59_56 {l2 s0 : Int} {q0 q1 q3 q4 : MV} {ds : Ds} {m : Mm} {Q : Ds → Mm → List MV → Prop} : WP 59 56 [q0, q1, (0, l2), q3, q4] [(0, s0)] ds m Q = (WP 59 57 [q0, q1, (0, l2), q3, q4] [(0, l2), (0, s0)] ds m Q) := P_nx k59_56 rfl
set_option maxRecDepth 20000 in
theorem k59_57 : mjCode 59 57 = some (.invokestatic 162, 3, 112, 2) := by decide +kernel
theorem p59_57 {s0 s1 : Int} {q0 q1 q2 q3 q4 : MV} {ds : Ds} {m : Mm} {Q : Ds → Mm → List MV → Prop} : WP 59 57 [q0, q1, q2, q3, q4] [(0, s0), (0, s1)] ds m Q = (WP 111 0 [(0, s1), (0, s0), (3, 0), (3, 0)] [] ds m (fun d2 m2 r2 => WP 59 60 [q0, q1, q2, q3, q4] (r2 ++ []) d2 m2 Q)) := P_cs k59_57 mx111 rfl rfl rfl rfl rfl rfl rfl
set_option maxRecDepth 20000 in
theorem k59_60 : mjCode 59 60 = some (.istore_n 3, 1, 0, 0) := by decide +kernel
theorem p59_60 {l2 s0 : Int} {q0 q1 q3 q4 : MV} {ds : Ds} {m : Mm} {Q : Ds → Mm → List MV → Prop} : WP 59 60 [q0, q1, (0, l2), q3, q4] [(0, s0)] ds m Q = (WP 59 61 [q0, q1, (0, l2), (0, s0), q4] [] ds m Q) := P_nx k59_60 rfl
set_option maxRecDepth 20000 in
theorem k59_61 : mjCode 59 61 = some (.iload_n 3, 1, 0, 0) := by decide +kernel
theorem p59_61 {l3 : Int} {q0 q1 q2 q4 : MV} {ds : Ds} {m : Mm} {Q : Ds → Mm → List MV → Prop} : WP 59 61 [q0, q1, q2, (0, l3), q4] [] ds m Q = (WP 59 62 [q0, q1, q2, (0, l3), q4] [(0, l3)] ds m Q) := P_nx k59_61 rfl
set_option maxRecDepth 20000 in
theorem k59_62 : mjCode 59 62 = some (.iconst (-1), 1, 0, 0) := by decide +kernel
theorem p59_62 {s0 : Int} {q0 q1 q2 q3 q4 : MV} {ds : Ds} {m : Mm} {Q : Ds → Mm → List MV → Prop} : WP 59 62 [q0, q1, q2, q3, q4] [(0, s0)] ds m Q = (WP 59 63 [q0, q1, q2, q3, q4] [(0, (-1)), (0, s0)] ds m Q) := P_nx k59_62 rfl
set_option maxRecDepth 20000 in
theorem k59_63 : mjCode 59 63 = some (.if_icmp .ne 14, 3, 77, 0) := by decide +kernel
theorem p59_63 {s0 s1 : Int} {q0 q1 q2 q3 q4 : MV} {ds : Ds} {m : Mm} {Q : Ds → Mm → List MV → Prop} : WP 59 63 [q0, q1, q2, q3, q4] [(0, s0), (0, s1)] ds m Q = (if s1 = s0 then WP 59 66 [q0, q1, q2, q3, q4] [] ds m Q else WP 59 77 [q0, q1, q2, q3, q4] [] ds m Q) := P_if k59_63 rfl
set_option maxRecDepth 20000 in
theorem k59_66 : mjCode 59 66 = some (.aload_n 0, 1, 0, 0) := by decide +kernel
theorem p59_66 {l0 : Int} {q1 q2 q3 q4 : MV} {ds : Ds} {m : Mm} {Q : Ds → Mm → List MV → Prop} : WP 59 66 [(2, l0), q1, q2, q3, q4] [] ds m Q = (WP 59 67 [(2, l0), q1, q2, q3, q4] [(2, l0)] ds m Q) := P_nx k59_66 rfl
set_option maxRecDepth 20000 in
theorem k59_67 : mjCode 59 67 = some (.getfield 12, 3, 5, 2) := by decide +kernel
theorem p59_67 {s0 : Int} {q0 q1 q2 q3 q4 : MV} {ds : Ds} {m : Mm} {Q : Ds → Mm → List MV → Prop} : WP 59 67 [q0, q1, q2, q3, q4] [(2, s0)] ds m Q = ((dk ds s0 = 5 ∧ WP 59 70 [q0, q1, q2, q3, q4] [(2, m s0 2)] ds m Q)) := P_gd k59_67 rfl
set_option maxRecDepth 20000 in
theorem k59_70 : mjCode 59 70 = some (.iload_n 1, 1, 0, 0) := by decide +kernel
theorem p59_70 {l1 s0 : Int} {q0 q2 q3 q4 : MV} {ds : Ds} {m : Mm} {Q : Ds → Mm → List MV → Prop} : WP 59 70 [q0, (0, l1), q2, q3, q4] [(2, s0)] ds m Q = (WP 59 71 [q0, (0, l1), q2, q3, q4] [(0, l1), (2, s0)] ds m Q) := P_nx k59_70 rfl
set_option maxRecDepth 20000 in
theorem k59_71 : mjCode 59 71 = some (.invokevirtual 182, 3, 9, 2) := by decide +kernel
theorem p59_71 {s0 s1 : Int} {q0 q1 q2 q3 q4 : MV} {ds : Ds} {m : Mm} {Q : Ds → Mm → List MV → Prop} : WP 59 71 [q0, q1, q2, q3, q4] [(0, s0), (2, s1)] ds m Q = ((dk ds s1 = 0 ∧ WP 8 0 [(2, s1), (0, s0)] [] ds m (fun d2 m2 r2 => WP 59 74 [q0, q1, q2, q3, q4] (r2 ++ []) d2 m2 Q))) := P_cv k59_71 mx8 mo8 rfl rfl rfl rfl rfl rfl rfl rfl
set_option maxRecDepth 20000 in
theorem k59_74 : mjCode 59 74 = some (.goto 73, 3, 147, 0) := by decide +kernel
theorem p59_74 {q0 q1 q2 q3 q4 : MV} {ds : Ds} {m : Mm} {Q : Ds → Mm → List MV → Prop} : WP 59 74 [q0, q1, q2, q3, q4] [] ds m Q = (WP 59 147 [q0, q1, q2, q3, q4] [] ds m Q) := P_nx k59_74 rfl
set_option maxRecDepth 20000 in
theorem k59_77 : mjCode 59 77 = some (.aload_n 0, 1, 0, 0) := by decide +kernel
theorem p59_77 {l0 : Int} {q1 q2 q3 q4 : MV} {ds : Ds} {m : Mm} {Q : Ds → Mm → List MV → Prop} : WP 59 77 [(2, l0), q1, q2, q3, q4] [] ds m Q = (WP 59 78 [(2, l0), q1, q2, q3, q4] [(2, l0)] ds m Q) := P_nx k59_77 rfl
set_option maxRecDepth 20000 in
theorem k59_78 : mjCode 59 78 = some (.iload_n 3, 1, 0, 0) := by decide +kernel
theorem p59_78 {l3 s0 : Int} {q0 q1 q2 q4 : MV} {ds : Ds} {m : Mm} {Q : Ds → Mm → List MV → Prop} : WP 59 78 [q0, q1, q2, (0, l3), q4] [(2, s0)] ds m Q = (WP 59 79 [q0, q1, q2, (0, l3), q4] [(0, l3), (2, s0)] ds m Q) := P_nx k59_78 rfl
set_option maxRecDepth 20000 in
theorem k59_79 : mjCode 59 79 = some (.iload_n 2, 1, 0, 0) := by decide +kernel
theorem p59_79 {l2 s0 s1 : Int} {q0 q1 q3 q4 : MV} {ds : Ds} {m : Mm} {Q : Ds → Mm → List MV → Prop} : WP 59 79 [q0, q1, (0, l2), q3, q4] [(0, s0), (2, s1)] ds m Q = (WP 59 80 [q0, q1, (0, l2), q3, q4] [(0, l2), (0, s0), (2, s1)] ds m Q) := P_nx k59_79 rfl
set_option maxRecDepth 20000 in
theorem k59_80 : mjCode 59 80 = some (.invokestatic 159, 3, 111, 1) := by decide +kernel
theorem p59_80 {s0 s1 s2 : Int} {q0 q1 q2 q3 q4 : MV} {ds : Ds} {m : Mm} {Q : Ds → Mm → List MV → Prop} : WP 59 80 [q0, q1, q2, q3, q4] [(0, s0), (0, s1), (2, s2)] ds m Q = (WP 110 0 [(0, s0)] [] ds m (fun d2 m2 r2 => WP 59 83 [q0, q1, q2, q3, q4] (r2 ++ [(0, s1), (2, s2)]) d2 m2 Q)) := P_cs k59_80 mx110 rfl rfl rfl rfl rfl rfl rfl
set_option maxRecDepth 20000 in
theorem k59_83 : mjCode 59 83 = some (.invokevirtual 186, 3, 61, 3) := by decide +kernel
theorem p59_83 {s0 s1 s2 : Int} {q0 q1 q2 q3 q4 : MV} {ds : Ds} {m : Mm} {Q : Ds → Mm → List MV → Prop} : WP 59 83 [q0, q1, q2, q3, q4] [(0, s0), (0, s1), (2, s2)] ds m Q = ((dk ds s2 = 5 ∧ WP 60 0 [(2, s2), (0, s1), (0, s0)] [] ds m (fun d2 m2 r2 => WP 59 86 [q0, q1, q2, q3, q4] (r2 ++ []) d2 m2 Q))) := P_cv k59_83 mx60 mo60 rfl rfl rfl rfl rfl rfl rfl rfl
set_option maxRecDepth 20000 in
theorem k59_86 : mjCode 59 86 = some (.ifCond .eq 21, 3, 107, 0) := by decide +kernel
theorem p59_86 {s0 : Int} {q0 q1 q2 q3 q4 : MV} {ds : Ds} {m : Mm} {Q : Ds → Mm → List MV → Prop} : WP 59 86 [q0, q1, q2, q3, q4] [(0, s0)] ds m Q = (if s0 = 0 then WP 59 107 [q0, q1, q2, q3, q4] [] ds m Q else WP 59 89 [q0, q1, q2, q3, q4] [] ds m Q) := P_if k59_86 rfl
set_option maxRecDepth 20000 in
theorem k59_89 : mjCode 59 89 = some (.aload_n 0, 1, 0, 0) := by decide +kernel
theorem p59_89 {l0 : Int} {q1 q2 q3 q4 : MV} {ds : Ds} {m : Mm} {Q : Ds → Mm → List MV → Prop} : WP 59 89 [(2, l0), q1, q2, q3, q4] [] ds m Q = (WP 59 90 [(2, l0), q1, q2, q3, q4] [(2, l0)] ds m Q) := P_nx k59_89 rfl
set_option maxRecDepth 20000 in
theorem k59_90 : mjCode 59 90 = some (.getfield 12, 3, 5, 2) := by decide +kernel
theorem p59_90 {s0 : Int} {q0 q1 q2 q3 q4 : MV} {ds : Ds} {m : Mm} {Q : Ds → Mm → List MV → Prop} : WP 59 90 [q0, q1, q2, q3, q4] [(2, s0)] ds m Q = ((dk ds s0 = 5 ∧ WP 59 93 [q0, q1, q2, q3, q4] [(2, m s0 2)] ds m Q)) := P_gd k59_90 rfl
set_option maxRecDepth 20000 in
theorem k59_93 : mjCode 59 93 = some (.iload_n 1, 1, 0, 0) := by decide +kernel
theorem p59_93 {l1 s0 : Int} {q0 q2 q3 q4 : MV} {ds : Ds} {m : Mm} {Q : Ds → Mm → List MV → Prop} : WP 59 93 [q0, (0, l1), q2, q3, q4] [(2, s0)] ds m Q = (WP 59 94 [q0, (0, l1), q2, q3, q4] [(0, l1), (2, s0)] ds m Q) := P_nx k59_93 rfl
set_option maxRecDepth 20000 in
theorem k59_94 : mjCode 59 94 = some (.iload_n 3, 1, 0, 0) := by decide +kernel
theorem p59_94 {l3 s0 s1 : Int} {q0 q1 q2 q4 : MV} {ds : Ds} {m : Mm} {Q : Ds → Mm → List MV → Prop} : WP 59 94 [q0, q1, q2, (0, l3), q4] [(0, s0), (2, s1)] ds m Q = (WP 59 95 [q0, q1, q2, (0, l3), q4] [(0, l3), (0, s0), (2, s1)] ds m Q) := P_nx k59_94 rfl
set_option maxRecDepth 20000 in
theorem k59_95 : mjCode 59 95 = some (.aload_n 0, 1, 0, 0) := by decide +kernel
theorem p59_95 {l0 s0 s1 s2 : Int} {q1 q2 q3 q4 : MV} {ds : Ds} {m : Mm} {Q : Ds → Mm → List MV → Prop} : WP 59 95 [(2, l0), q1, q2, q3, q4] [(0, s0), (0, s1), (2, s2)] ds m Q = (WP 59 96 [(2, l0), q1, q2, q3, q4] [(2, l0), (0, s0), (0, s1), (2, s2)] ds m Q) := P_nx k59_95 rfl
set_option maxRecDepth 20000 in
theorem k59_96 : mjCode 59 96 = some (.iload_n 3, 1, 0, 0) := by decide +kernel
theorem p59_96 {l3 s0 s1 s2 s3 : Int} {q0 q1 q2 q4 : MV} {ds : Ds} {m : Mm} {Q : Ds → Mm → List MV → Prop} : WP 59 96 [q0, q1, q2, (0, l3), q4] [(2, s0), (0, s1), (0, s2), (2, s3)] ds m Q = (WP 59 97 [q0, q1, q2, (0, l3), q4] [(0, l3), (2, s0), (0, s1), (0, s2), (2, s3)] ds m Q) := P_nx k59_96 rfl
set_option maxRecDepth 20000 in
theorem k59_97 : mjCode 59 97 = some (.iload_n 2, 1, 0, 0) := by decide +kernel
theorem p59_97 {l2 s0 s1 s2 s3 s4 : Int} {q0 q1 q3 q4 : MV} {ds : Ds} {m : Mm} {Q : Ds → Mm → List MV → Prop} : WP 59 97 [q0, q1, (0, l2), q3, q4] [(0, s0), (2, s1), (0, s2), (0, s3), (2, s4)] ds m Q = (WP 59 98 [q0, q1, (0, l2), q3, q4] [(0, l2), (0, s0), (2, s1), (0, s2), (0, s3), (2, s4)] ds m Q) := P_nx k59_97 rfl
set_option maxRecDepth 20000 in
theorem k59_98 : mjCode 59 98 = some (.invokevirtual 189, 3, 62, 3) := by decide +kernel
theorem p59_98 {s0 s1 s2 s3 s4 s5 : Int} {q0 q1 q2 q3 q4 : MV} {ds : Ds} {m : Mm} {Q : Ds → Mm → List MV → Prop} : WP 59 98 [q0, q1, q2, q3, q4] [(0, s0), (0, s1), (2, s2), (0, s3), (0, s4), (2, s5)] ds m Q = ((dk ds s2 = 5 ∧ WP 61 0 [(2, s2), (0, s1), (0, s0), (3, 0)] [] ds m (fun d2 m2 r2 => WP 59 101 [q0, q1, q2, q3, q4] (r2 ++ [(0, s3), (0, s4), (2, s5)]) d2 m2 Q))) := P_cv k59_98 mx61 mo61 rfl rfl rfl rfl rfl rfl rfl rfl
set_option maxRecDepth 20000 in
theorem k59_101 : mjCode 59 101 = some (.invokevirtual 192, 3, 10, 4) := by decide +kernel
theorem p59_101 {s0 s1 s2 s3 : Int} {q0 q1 q2 q3 q4 : MV} {ds : Ds} {m : Mm} {Q : Ds → Mm → List MV → Prop} : WP 59 101 [q0, q1, q2, q3, q4] [(0, s0), (0, s1), (0, s2), (2, s3)] ds m Q = ((dk ds s3 = 0 ∧ WP 9 0 [(2, s3), (0, s2), (0, s1), (0, s0)] [] ds m (fun d2 m2 r2 => WP 59 104 [q0, q1, q2, q3, q4] (r2 ++ []) d2 m2 Q))) := P_cv k59_101 mx9 mo9 rfl rfl rfl rfl rfl rfl rfl rfl
set_option maxRecDepth 20000 in
theorem k59_104 : mjCode 59 104 = some (.goto 43, 3, 147, 0) := by decide +kernel
theorem p59_104 {q0 q1 q2 q3 q4 : MV} {ds : Ds} {m : Mm} {Q : Ds → Mm → List MV → Prop} : WP 59 104 [q0, q1, q2, q3, q4] [] ds m Q = (WP 59 147 [q0, q1, q2, q3, q4] [] ds m Q) := P_nx k59_104 rfl
set_option maxRecDepth 20000 in
theorem k59_107 : mjCode 59 107 = some (.aload_n 0, 1, 0, 0) := by decide +kernel
theorem p59_107 {l0 : Int} {q1 q2 q3 q4 : MV} {ds : Ds} {m : Mm} {Q : Ds → Mm → List MV → Prop} : WP 59 107 [(2, l0), q1, q2, q3, q4] [] ds m Q = (WP 59 108 [(2, l0), q1, q2, q3, q4] [(2, l0)] ds m Q) := P_nx k59_107 rfl
set_option maxRecDepth 20000 in
theorem k59_108 : mjCode 59 108 = some (.getfield 12, 3, 5, 2) := by decide +kernel
theorem p59_108 {s0 : Int} {q0 q1 q2 q3 q4 : MV} {ds : Ds} {m : Mm} {Q : Ds → Mm → List MV → Prop} : WP 59 108 [q0, q1, q2, q3, q4] [(2, s0)] ds m Q = ((dk ds s0 = 5 ∧ WP 59 111 [q0, q1, q2, q3, q4] [(2, m s0 2)] ds m Q)) := P_gd k59_108 rfl
set_option maxRecDepth 20000 in
theorem k59_111 : mjCode 59 111 = some (.iload_n 1, 1, 0, 0) := by decide +kernel
theorem p59_111 {l1 s0 : Int} {q0 q2 q3 q4 : MV} {ds : Ds} {m : Mm} {Q : Ds → Mm → List MV → Prop} : WP 59 111 [q0, (0, l1), q2, q3, q4] [(2, s0)] ds m Q = (WP 59 112 [q0, (0, l1), q2, q3, q4] [(0, l1), (2, s0)] ds m Q) := P_nx k59_111 rfl
set_option maxRecDepth 20000 in
theorem k59_112 : mjCode 59 112 = some (.invokevirtual 195, 3, 8, 2) := by decide +kernel
theorem p59_112 {s0 s1 : Int} {q0 q1 q2 q3 q4 : MV} {ds : Ds} {m : Mm} {Q : Ds → Mm → List MV → Prop} : WP 59 112 [q0, q1, q2, q3, q4] [(0, s0), (2, s1)] ds m Q = ((dk ds s1 = 0 ∧ WP 7 0 [(2, s1), (0, s0)] [] ds m (fun d2 m2 r2 => WP 59 115 [q0, q1, q2, q3, q4] (r2 ++ []) d2 m2 Q))) := P_cv k59_112 mx7 mo7 rfl rfl rfl rfl rfl rfl rfl rfl
set_option maxRecDepth 20000 in
theorem k59_115 : mjCode 59 115 = some (.aload_n 0, 1, 0, 0) := by decide +kernel
theorem p59_115 {l0 : Int} {q1 q2 q3 q4 : MV} {ds : Ds} {m : Mm} {Q : Ds → Mm → List MV → Prop} : WP 59 115 [(2, l0), q1, q2, q3, q4] [] ds m Q = (WP 59 116 [(2, l0), q1, q2, q3, q4] [(2, l0)] ds m Q) := P_nx k59_115 rfl
set_option maxRecDepth 20000 in
theorem k59_116 : mjCode 59 116 = some (.iload_n 3, 1, 0, 0) := by decide +kernel
theorem p59_116 {l3 s0 : Int} {q0 q1 q2 q4 : MV} {ds : Ds} {m : Mm} {Q : Ds → Mm → List MV → Prop} : WP 59 116 [q0, q1, q2, (0, l3), q4] [(2, s0)] ds m Q = (WP 59 117 [q0, q1, q2, (0, l3), q4] [(0, l3), (2, s0)] ds m Q) := P_nx k59_116 rfl
set_option maxRecDepth 20000 in
theorem k59_117 : mjCode 59 117 = some (.iload_n 2, 1, 0, 0) := by decide +kernel
theorem p59_117 {l2 s0 s1 : Int} {q0 q1 q3 q4 : MV} {ds : Ds} {m : Mm} {Q : Ds → Mm → List MV → Prop} : WP 59 117 [q0, q1, (0, l2), q3, q4] [(0, s0), (2, s1)] ds m Q = (WP 59 118 [q0, q1, (0, l2), q3, q4] [(0, l2), (0, s0), (2, s1)] ds m Q) := P_nx k59_117 rfl
set_option maxRecDepth 20000 in
theorem k59_118 : mjCode 59 118 = some (.invokestatic 159, 3, 111, 1) := by decide +kernel
theorem p59_118 {s0 s1 s2 : Int} {q0 q1 q2 q3 q4 : MV} {ds : Ds} {m : Mm} {Q : Ds → Mm → List MV → Prop} : WP 59 118 [q0, q1, q2, q3, q4] [(0, s0), (0, s1), (2, s2)] ds m Q = (WP 110 0 [(0, s0)] [] ds m (fun d2 m2 r2 => WP 59 121 [q0, q1, q2, q3, q4] (r2 ++ [(0, s1), (2, s2)]) d2 m2 Q)) := P_cs k59_118 mx110 rfl rfl rfl rfl rfl rfl rfl
set_option maxRecDepth 20000 in
theorem k59_121 : mjCode 59 121 = some (.aload_n 0, 1, 0, 0) := by decide +kernel
theorem p59_121 {l0 s0 s1 s2 : Int} {q1 q2 q3 q4 : MV} {ds : Ds} {m : Mm} {Q : Ds → Mm → List MV → Prop} : WP 59 121 [(2, l0), q1, q2, q3, q4] [(0, s0), (0, s1), (2, s2)] ds m Q = (WP 59 122 [(2, l0), q1, q2, q3, q4] [(2, l0), (0, s0), (0, s1), (2, s2)] ds m Q) := P_nx k59_121 rfl
set_option maxRecDepth 20000 in
theorem k59_122 : mjCode 59 122 = some (.getfield 12, 3, 5, 2) := by decide +kernel
theorem p59_122 {s0 s1 s2 s3 : Int} {q0 q1 q2 q3 q4 : MV} {ds : Ds} {m : Mm} {Q : Ds → Mm → List MV → Prop} : WP 59 122 [q0, q1, q2, q3, q4] [(2, s0), (0, s1), (0, s2), (2, s3)] ds m Q = ((dk ds s0 = 5 ∧ WP 59 125 [q0, q1, q2, q3, q4] [(2, m s0 2), (0, s1), (0, s2), (2, s3)] ds m Q)) := P_gd k59_122 rfl
set_option maxRecDepth 20000 in
theorem k59_125 : mjCode 59 125 = some (.getfield 198, 3, 0, 4) := by decide +kernel
theorem p59_125 {s0 s1 s2 s3 : Int} {q0 q1 q2 q3 q4 : MV} {ds : Ds} {m : Mm} {Q : Ds → Mm → List MV → Prop} : WP 59 125 [q0, q1, q2, q3, q4] [(2, s0), (0, s1), (0, s2), (2, s3)] ds m Q = ((dk ds s0 = 0 ∧ WP 59 128 [q0, q1, q2, q3, q4] [(2, m s0 4), (0, s1), (0, s2), (2, s3)] ds m Q)) := P_gd k59_125 rfl
set_option maxRecDepth 20000 in
theorem k59_128 : mjCode 59 128 = some (.iload_n 1, 1, 0, 0) := by decide +kernel
theorem p59_128 {l1 s0 s1 s2 s3 : Int} {q0 q2 q3 q4 : MV} {ds : Ds} {m : Mm} {Q : Ds → Mm → List MV → Prop} : WP 59 128 [q0, (0, l1), q2, q3, q4] [(2, s0), (0, s1), (0, s2), (2, s3)] ds m Q = (WP 59 129 [q0, (0, l1), q2, q3, q4] [(0, l1), (2, s0), (0, s1), (0, s2), (2, s3)] ds m Q) := P_nx k59_128 rfl
set_option maxRecDepth 20000 in
theorem k59_129 : mjCode 59 129 = some (.iaload, 1, 0, 0) := by decide +kernel
theorem p59_129 {s0 s1 s2 s3 s4 : Int} {q0 q1 q2 q3 q4 : MV} {ds : Ds} {m : Mm} {Q : Ds → Mm → List MV → Prop} : WP 59 129 [q0, q1, q2, q3, q4] [(0, s0), (2, s1), (0, s2), (0, s3), (2, s4)] ds m Q = ((dk ds s1 = 10 ∧ 0 ≤ s0 ∧ s0 < dl ds s1 ∧ WP 59 130 [q0, q1, q2, q3, q4] [(0, m s1 s0), (0, s2), (0, s3), (2, s4)] ds m Q)) := P_g3 k59_129 rfl
set_option maxRecDepth 20000 in
theorem k59_130 : mjCode 59 130 = some (.iconst 2, 1, 0, 0) := by decide +kernel
theorem p59_130 {s0 s1 s2 s3 : Int} {q0 q1 q2 q3 q4 : MV} {ds : Ds} {m : Mm} {Q : Ds → Mm → List MV → Prop} : WP 59 130 [q0, q1, q2, q3, q4] [(0, s0), (0, s1), (0, s2), (2, s3)] ds m Q = (WP 59 131 [q0, q1, q2, q3, q4] [(0, 2), (0, s0), (0, s1), (0, s2), (2, s3)] ds m Q) := P_nx k59_130 rfl
set_option maxRecDepth 20000 in
theorem k59_131 : mjCode 59 131 = some (.invokevirtual 145, 3, 63, 5) := by decide +kernel
theorem p59_131 {s0 s1 s2 s3 s4 : Int} {q0 q1 q2 q3 q4 : MV} {ds : Ds} {m : Mm} {Q : Ds → Mm → List MV → Prop} : WP 59 131 [q0, q1, q2, q3, q4] [(0, s0), (0, s1), (0, s2), (0, s3), (2, s4)] ds m Q = ((dk ds s4 = 5 ∧ WP 62 0 [(2, s4), (0, s3), (0, s2), (0, s1), (0, s0), (3, 0), (3, 0)] [] ds m (fun d2 m2 r2 => WP 59 134 [q0, q1, q2, q3, q4] (r2 ++ []) d2 m2 Q))) := P_cv k59_131 mx62 mo62 rfl rfl rfl rfl rfl rfl rfl rfl
set_option maxRecDepth 20000 in
theorem k59_134 : mjCode 59 134 = some (.istore 4, 2, 0, 0) := by decide +kernel
theorem p59_134 {l3 s0 : Int} {q0 q1 q2 q4 : MV} {ds : Ds} {m : Mm} {Q : Ds → Mm → List MV → Prop} : WP 59 134 [q0, q1, q2, (0, l3), q4] [(0, s0)] ds m Q = (WP 59 136 [q0, q1, q2, (0, l3), (0, s0)] [] ds m Q) := P_nx k59_134 rfl
set_option maxRecDepth 20000 in
theorem k59_136 : mjCode 59 136 = some (.aload_n 0, 1, 0, 0) := by decide +kernel
theorem p59_136 {l0 : Int} {q1 q2 q3 q4 : MV} {ds : Ds} {m : Mm} {Q : Ds → Mm → List MV → Prop} : WP 59 136 [(2, l0), q1, q2, q3, q4] [] ds m Q = (WP 59 137 [(2, l0), q1, q2, q3, q4] [(2, l0)] ds m Q) := P_nx k59_136 rfl
set_option maxRecDepth 20000 in
theorem k59_137 : mjCode 59 137 = some (.iload_n 3, 1, 0, 0) := by decide +kernel
theorem p59_137 {l3 s0 : Int} {q0 q1 q2 q4 : MV} {ds : Ds} {m : Mm} {Q : Ds → Mm → List MV → Prop} : WP 59 137 [q0, q1, q2, (0, l3), q4] [(2, s0)] ds m Q = (WP 59 138 [q0, q1, q2, (0, l3), q4] [(0, l3), (2, s0)] ds m Q) := P_nx k59_137 rfl
set_option maxRecDepth 20000 in
theorem k59_138 : mjCode 59 138 = some (.iload_n 2, 1, 0, 0) := by decide +kernel
theorem p59_138 {l2 s0 s1 : Int} {q0 q1 q3 q4 : MV} {ds : Ds} {m : Mm} {Q : Ds → Mm → List MV → Prop} : WP 59 138 [q0, q1, (0, l2), q3, q4] [(0, s0), (2, s1)] ds m Q = (WP 59 139 [q0, q1, (0, l2), q3, q4] [(0, l2), (0, s0), (2, s1)] ds m Q) := P_nx k59_138 rfl
set_option maxRecDepth 20000 in
theorem k59_139 : mjCode 59 139 = some (.invokestatic 159, 3, 111, 1) := by decide +kernel
theorem p59_139 {s0 s1 s2 : Int} {q0 q1 q2 q3 q4 : MV} {ds : Ds} {m : Mm} {Q : Ds → Mm → List MV → Prop} : WP 59 139 [q0, q1, q2, q3, q4] [(0, s0), (0, s1), (2, s2)] ds m Q = (WP 110 0 [(0, s0)] [] ds m (fun d2 m2 r2 => WP 59 142 [q0, q1, q2, q3, q4] (r2 ++ [(0, s1), (2, s2)]) d2 m2 Q)) := P_cs k59_139 mx110 rfl rfl rfl rfl rfl rfl rfl
set_option maxRecDepth 20000 in
theorem k59_142 : mjCode 59 142 = some (.iload 4, 2, 0, 0) := by decide +kernel
theorem p59_142 {l4 s0 s1 s2 : Int} {q0 q1 q2 q3 : MV} {ds : Ds} {m : Mm} {Q : Ds → Mm → List MV → Prop} : WP 59 142 [q0, q1, q2, q3, (0, l4)] [(0, s0), (0, s1), (2, s2)] ds m Q = (WP 59 144 [q0, q1, q2, q3, (0, l4)] [(0, l4), (0, s0), (0, s1), (2, s2)] ds m Q) := P_nx k59_142 rfl
set_option maxRecDepth 20000 in
theorem k59_144 : mjCode 59 144 = some (.invokevirtual 149, 3, 64, 4) := by decide +kernel
theorem p59_144 {s0 s1 s2 s3 : Int} {q0 q1 q2 q3 q4 : MV} {ds : Ds} {m : Mm} {Q : Ds → Mm → List MV → Prop} : WP 59 144 [q0, q1, q2, q3, q4] [(0, s0), (0, s1), (0, s2), (2, s3)] ds m Q = ((dk ds s3 = 5 ∧ WP 63 0 [(2, s3), (0, s2), (0, s1), (0, s0), (3, 0), (3, 0), (3, 0), (3, 0)] [] ds m (fun d2 m2 r2 => WP 59 147 [q0, q1, q2, q3, q4] (r2 ++ []) d2 m2 Q))) := P_cv k59_144 mx63 mo63 rfl rfl rfl rfl rfl rfl rfl rfl
set_option maxRecDepth 20000 in
theorem k59_147 : mjCode 59 147 = some (.iinc 1 1, 3, 0, 0) := by decide +kernel
theorem p59_147 {l1 : Int} {q0 q2 q3 q4 : MV} {ds : Ds} {m : Mm} {Q : Ds → Mm → List MV → Prop} : WP 59 147 [q0, (0, l1), q2, q3, q4] [] ds m Q = (WP 59 150 [q0, (0, w32 (l1 + 1)), q2, q3, q4] [] ds m Q) := P_nx k59_147 rfl
set_option maxRecDepth 20000 in
theorem k59_150 : mjCode 59 150 = some (.goto (-148), 3, 2, 0) := by decide +kernel
theorem p59_150 {q0 q1 q2 q3 q4 : MV} {ds : Ds} {m : Mm} {Q : Ds → Mm → List MV → Prop} : WP 59 150 [q0, q1, q2, q3, q4] [] ds m Q = (WP 59 2 [q0, q1, q2, q3, q4] [] ds m Q) := P_nx k59_150 rfl
set_option maxRecDepth 20000 in
theorem k59_153 : mjCode 59 153 = some (.return_, 1, 0, 0) := by decide +kernel
theorem p59_153 {q0 q1 q2 q3 q4 : MV} {ds : Ds} {m : Mm} {Q : Ds → Mm → List MV → Prop} : WP 59 153 [q0, q1, q2, q3, q4] [] ds m Q = (Q ds m []) := P_rv k59_153 rk59
set_option maxRecDepth 20000 in
theorem k60_0 : mjCode 60 0 = some (.iload_n 1, 1, 0, 0) := by decide +kernel
theorem p60_0 {l1 : Int} {q0 q2 : MV} {ds : Ds} {m : Mm} {Q : Ds → Mm → List MV → Prop} : WP 60 0 [q0, (0, l1), q2] [] ds m Q = (WP 60 1 [q0, (0, l1), q2] [(0, l1)] ds m Q) := P_nx k60_0 rfl
set_option maxRecDepth 20000 in
theorem k60_1 : mjCode 60 1 = some (.invokestatic 75, 3, 108, 1) := by decide +kernel
theorem p60_1 {s0 : Int} {q0 q1 q2 : MV} {ds : Ds} {m : Mm} {Q : Ds → Mm → List MV → Prop} : WP 60 1 [q0, q1, q2] [(0, s0)] ds m Q = (WP 107 0 [(0, s0)] [] ds m (fun d2 m2 r2 => WP 60 4 [q0, q1, q2] (r2 ++ []) d2 m2 Q)) := P_cs k60_1 mx107 rfl rfl rfl rfl rfl rfl rfl
set_option maxRecDepth 20000 in
theorem k60_4 : mjCode 60 4 = some (.ifCond .eq 15, 3, 19, 0) := by decide +kernel
theorem p60_4 {s0 : Int} {q0 q1 q2 : MV} {ds : Ds} {m : Mm} {Q : Ds → Mm → List MV → Prop} : WP 60 4 [q0, q1, q2] [(0, s0)] ds m Q = (if s0 = 0 then WP 60 19 [q0, q1, q2] [] ds m Q else WP 60 7 [q0, q1, q2] [] ds m Q) := P_if k60_4 rfl
set_option maxRecDepth 20000 in
theorem k60_7 : mjCode 60 7 = some (.aload_n 0, 1, 0, 0) := by decide +kernel
theorem p60_7 {l0 : Int} {q1 q2 : MV} {ds : Ds} {m : Mm} {Q : Ds → Mm → List MV → Prop} : WP 60 7 [(2, l0), q1, q2] [] ds m Q = (WP 60 8 [(2, l0), q1, q2] [(2, l0)] ds m Q) := P_nx k60_7 rfl
set_option maxRecDepth 20000 in
theorem k60_8 : mjCode 60 8 = some (.getfield 12, 3, 5, 2) := by decide +kernel
theorem p60_8 {s0 : Int} {q0 q1 q2 : MV} {ds : Ds} {m : Mm} {Q : Ds → Mm → List MV → Prop} : WP 60 8 [q0, q1, q2] [(2, s0)] ds m Q = ((dk ds s0 = 5 ∧ WP 60 11 [q0, q1, q2] [(2, m s0 2)] ds m Q)) := P_gd k60_8 rfl
set_option maxRecDepth 20000 in
theorem k60_11 : mjCode 60 11 = some (.iload_n 1, 1, 0, 0) := by decide +kernel
theorem p60_11 {l1 s0 : Int} {q0 q2 : MV} {ds : Ds} {m : Mm} {Q : Ds → Mm → List MV → Prop} : WP 60 11 [q0, (0, l1), q2] [(2, s0)] ds m Q = (WP 60 12 [q0, (0, l1), q2] [(0, l1), (2, s0)] ds m Q) := P_nx k60_11 rfl
set_option maxRecDepth 20000 in
theorem k60_12 : mjCode 60 12 = some (.invokevirtual 199, 3, 4, 2) := by decide +kernel
theorem p60_12 {s0 s1 : Int} {q0 q1 q2 : MV} {ds : Ds} {m : Mm} {Q : Ds → Mm → List MV → Prop} : WP 60 12 [q0, q1, q2] [(0, s0), (2, s1)] ds m Q = ((dk ds s1 = 0 ∧ WP 3 0 [(2, s1), (0, s0)] [] ds m (fun d2 m2 r2 => WP 60 15 [q0, q1, q2] (r2 ++ []) d2 m2 Q))) := P_cv k60_12 mx3 mo3 rfl rfl rfl rfl rfl rfl rfl rfl
set_option maxRecDepth 20000 in
theorem k60_15 : mjCode 60 15 = some (.iconst (-1), 1, 0, 0) := by decide +kernel
theorem p60_15 {s0 : Int} {q0 q1 q2 : MV} {ds : Ds} {m : Mm} {Q : Ds → Mm → List MV → Prop} : WP 60 15 [q0, q1, q2] [(0, s0)] ds m Q = (WP 60 16 [q0, q1, q2] [(0, (-1)), (0, s0)] ds m Q) := P_nx k60_15 rfl
set_option maxRecDepth 20000 in
theorem k60_16 : mjCode 60 16 = some (.if_icmp .eq 5, 3, 21, 0) := by decide +kernel
theorem p60_16 {s0 s1 : Int} {q0 q1 q2 : MV} {ds : Ds} {m : Mm} {Q : Ds → Mm → List MV → Prop} : WP 60 16 [q0, q1, q2] [(0, s0), (0, s1)] ds m Q = (if s1 = s0 then WP 60 21 [q0, q1, q2] [] ds m Q else WP 60 19 [q0, q1, q2] [] ds m Q) := P_if k60_16 rfl
set_option maxRecDepth 20000 in
theorem k60_19 : mjCode 60 19 = some (.iconst 0, 1, 0, 0) := by decide +kernel
theorem p60_19 {q0 q1 q2 : MV} {ds : Ds} {m : Mm} {Q : Ds → Mm → List MV → Prop} : WP 60 19 [q0, q1, q2] [] ds m Q = (WP 60 20 [q0, q1, q2] [(0, 0)] ds m Q) := P_nx k60_19 rfl
set_option maxRecDepth 20000 in
theorem k60_20 : mjCode 60 20 = some (.ireturn, 1, 0, 0) := by decide +kernel
theorem p60_20 {s0 : Int} {q0 q1 q2 : MV} {ds : Ds} {m : Mm} {Q : Ds → Mm → List MV → Prop} : WP 60 20 [q0, q1, q2] [(0, s0)] ds m Q = (((s0 = 0 ∨ s0 = 1) ∧ Q ds m [(0, s0)])) := P_rb k60_20 rk60
set_option maxRecDepth 20000 in
theorem k60_21 : mjCode 60 21 = some (.aload_n 0, 1, 0, 0) := by decide +kernel
theorem p60_21 {l0 : Int} {q1 q2 : MV} {ds : Ds} {m : Mm} {Q : Ds → Mm → List MV → Prop} : WP 60 21 [(2, l0), q1, q2] [] ds m Q = (WP 60 22 [(2, l0), q1, q2] [(2, l0)] ds m Q) := P_nx k60_21 rfl
set_option maxRecDepth 20000 in
theorem k60_22 : mjCode 60 22 = some (.getfield 35, 3, 5, 8) := by decide +kernel
theorem p60_22 {s0 : Int} {q0 q1 q2 : MV} {ds : Ds} {m : Mm} {Q : Ds → Mm → List MV → Prop} : WP 60 22 [q0, q1, q2] [(2, s0)] ds m Q = ((dk ds s0 = 5 ∧ WP 60 25 [q0, q1, q2] [(2, m s0 8)] ds m Q)) := P_gd k60_22 rfl
set_option maxRecDepth 20000 in
theorem k60_25 : mjCode 60 25 = some (.iload_n 1, 1, 0, 0) := by decide +kernel
theorem p60_25 {l1 s0 : Int} {q0 q2 : MV} {ds : Ds} {m : Mm} {Q : Ds → Mm → List MV → Prop} : WP 60 25 [q0, (0, l1), q2] [(2, s0)] ds m Q = (WP 60 26 [q0, (0, l1), q2] [(0, l1), (2, s0)] ds m Q) := P_nx k60_25 rfl
set_option maxRecDepth 20000 in
theorem k60_26 : mjCode 60 26 = some (.invokevirtual 202, 3, 25, 2) := by decide +kernel
theorem p60_26 {s0 s1 : Int} {q0 q1 q2 : MV} {ds : Ds} {m : Mm} {Q : Ds → Mm → List MV → Prop} : WP 60 26 [q0, q1, q2] [(0, s0), (2, s1)] ds m Q = ((dk ds s1 = 3 ∧ WP 24 0 [(2, s1), (0, s0)] [] ds m (fun d2 m2 r2 => WP 60 29 [q0, q1, q2] (r2 ++ []) d2 m2 Q))) := P_cv k60_26 mx24 mo24 rfl rfl rfl rfl rfl rfl rfl rfl
set_option maxRecDepth 20000 in
theorem k60_29 : mjCode 60 29 = some (.lookupswitch 54 #[(0, 35), (7, 37), (9, 44)], 35, 0, 0) := by decide +kernel
theorem p60_29 {s0 : Int} {q0 q1 q2 : MV} {ds : Ds} {m : Mm} {Q : Ds → Mm → List MV → Prop} : WP 60 29 [q0, q1, q2] [(0, s0)] ds m Q = (if s0 = 0 then WP 60 64 [q0, q1, q2] [] ds m Q else if s0 = 7 then WP 60 66 [q0, q1, q2] [] ds m Q else if s0 = 9 then WP 60 73 [q0, q1, q2] [] ds m Q else WP 60 83 [q0, q1, q2] [] ds m Q) := by
  by_cases h0 : s0 = 0
  · subst h0
    rw [if_pos rfl]
    exact P_nx k60_29 rfl
  rw [if_neg h0]
  by_cases h7 : s0 = 7
  · subst h7
    rw [if_pos rfl]
    exact P_nx k60_29 rfl
  rw [if_neg h7]
  by_cases h9 : s0 = 9
  · subst h9
    rw [if_pos rfl]
    exact P_nx k60_29 rfl
  rw [if_neg h9]
  exact P_lk (tgt := 83) k60_29 (show Op.lookupswitch.offset [(0, 35), (7, 37), (9, 44)] 54 s0 = 54 by simp only [Op.lookupswitch.offset]; rw [if_neg (fun q => h0 q.symm), if_neg (fun q => h7 q.symm), if_neg (fun q => h9 q.symm)]) (by decide)
set_option maxRecDepth 20000 in
theorem k60_64 : mjCode 60 64 = some (.iconst 1, 1, 0, 0) := by decide +kernel
theorem p60_64 {q0 q1 q2 : MV} {ds : Ds} {m : Mm} {Q : Ds → Mm → List MV → Prop} : WP 60 64 [q0, q1, q2] [] ds m Q = (WP 60 65 [q0, q1, q2] [(0, 1)] ds m Q) := P_nx k60_64 rfl
set_option maxRecDepth 20000 in
theorem k60_65 : mjCode 60 65 = some (.ireturn, 1, 0, 0) := by decide +kernel
theorem p60_65 {s0 : Int} {q0 q1 q2 : MV} {ds : Ds} {m : Mm} {Q : Ds → Mm → List MV → Prop} : WP 60 65 [q0, q1, q2] [(0, s0)] ds m Q = (((s0 = 0 ∨ s0 = 1) ∧ Q ds m [(0, s0)])) := P_rb k60_65 rk60
set_option maxRecDepth 20000 in
theorem k60_66 : mjCode 60 66 = some (.aload_n 0, 1, 0, 0) := by decide +kernel
theorem p60_66 {l0 : Int} {q1 q2 : MV} {ds : Ds} {m : Mm} {Q : Ds → Mm → List MV → Prop} : WP 60 66 [(2, l0), q1, q2] [] ds m Q = (WP 60 67 [(2, l0), q1, q2] [(2, l0)] ds m Q) := P_nx k60_66 rfl
set_option maxRecDepth 20000 in
theorem k60_67 : mjCode 60 67 = some (.getfield 28, 3, 5, 6) := by decide +kernel
theorem p60_67 {s0 : Int} {q0 q1 q2 : MV} {ds : Ds} {m : Mm} {Q : Ds → Mm → List MV → Prop} : WP 60 67 [q0, q1, q2] [(2, s0)] ds m Q = ((dk ds s0 = 5 ∧ WP 60 70 [q0, q1, q2] [(2, m s0 6)] ds m Q)) := P_gd k60_67 rfl
set_option maxRecDepth 20000 in
theorem k60_70 : mjCode 60 70 = some (.iload_n 1, 1, 0, 0) := by decide +kernel
theorem p60_70 {l1 s0 : Int} {q0 q2 : MV} {ds : Ds} {m : Mm} {Q : Ds → Mm → List MV → Prop} : WP 60 70 [q0, (0, l1), q2] [(2, s0)] ds m Q = (WP 60 71 [q0, (0, l1), q2] [(0, l1), (2, s0)] ds m Q) := P_nx k60_70 rfl
set_option maxRecDepth 20000 in
theorem k60_71 : mjCode 60 71 = some (.baload, 1, 0, 0) := by decide +kernel
theorem p60_71 {s0 s1 : Int} {q0 q1 q2 : MV} {ds : Ds} {m : Mm} {Q : Ds → Mm → List MV → Prop} : WP 60 71 [q0, q1, q2] [(0, s0), (2, s1)] ds m Q = ((dk ds s1 = 11 ∧ 0 ≤ s0 ∧ s0 < dl ds s1 ∧ WP 60 72 [q0, q1, q2] [(0, m s1 s0)] ds m Q)) := P_g3 k60_71 rfl
set_option maxRecDepth 20000 in
theorem k60_72 : mjCode 60 72 = some (.ireturn, 1, 0, 0) := by decide +kernel
theorem p60_72 {s0 : Int} {q0 q1 q2 : MV} {ds : Ds} {m : Mm} {Q : Ds → Mm → List MV → Prop} : WP 60 72 [q0, q1, q2] [(0, s0)] ds m Q = (((s0 = 0 ∨ s0 = 1) ∧ Q ds m [(0, s0)])) := P_rb k60_72 rk60
set_option maxRecDepth 20000 in
theorem k60_73 : mjCode 60 73 = some (.aload_n 0, 1, 0, 0) := by decide +kernel
theorem p60_73 {l0 : Int} {q1 q2 : MV} {ds : Ds} {m : Mm} {Q : Ds → Mm → List MV → Prop} : WP 60 73 [(2, l0), q1, q2] [] ds m Q = (WP 60 74 [(2, l0), q1, q2] [(2, l0)] ds m Q) := P_nx k60_73 rfl
set_option maxRecDepth 20000 in
theorem k60_74 : mjCode 60 74 = some (.getfield 35, 3, 5, 8) := by decide +kernel
theorem p60_74 {s0 : Int} {q0 q1 q2 : MV} {ds : Ds} {m : Mm} {Q : Ds → Mm → List MV → Prop} : WP 60 74 [q0, q1, q2] [(2, s0)] ds m Q = ((dk ds s0 = 5 ∧ WP 60 77 [q0, q1, q2] [(2, m s0 8)] ds m Q)) := P_gd k60_74 rfl
set_option maxRecDepth 20000 in
theorem k60_77 : mjCode 60 77 = some (.iload_n 1, 1, 0, 0) := by decide +kernel
theorem p60_77 {l1 s0 : Int} {q0 q2 : MV} {ds : Ds} {m : Mm} {Q : Ds → Mm → List MV → Prop} : WP 60 77 [q0, (0, l1), q2] [(2, s0)] ds m Q = (WP 60 78 [q0, (0, l1), q2] [(0, l1), (2, s0)] ds m Q) := P_nx k60_77 rfl
set_option maxRecDepth 20000 in
theorem k60_78 : mjCode 60 78 = some (.iload_n 2, 1, 0, 0) := by decide +kernel
theorem p60_78 {l2 s0 s1 : Int} {q0 q1 : MV} {ds : Ds} {m : Mm} {Q : Ds → Mm → List MV → Prop} : WP 60 78 [q0, q1, (0, l2)] [(0, s0), (2, s1)] ds m Q = (WP 60 79 [q0, q1, (0, l2)] [(0, l2), (0, s0), (2, s1)] ds m Q) := P_nx k60_78 rfl
set_option maxRecDepth 20000 in
theorem k60_79 : mjCode 60 79 = some (.invokevirtual 205, 3, 32, 3) := by decide +kernel
theorem p60_79 {s0 s1 s2 : Int} {q0 q1 q2 : MV} {ds : Ds} {m : Mm} {Q : Ds → Mm → List MV → Prop} : WP 60 79 [q0, q1, q2] [(0, s0), (0, s1), (2, s2)] ds m Q = ((dk ds s2 = 3 ∧ WP 31 0 [(2, s2), (0, s1), (0, s0)] [] ds m (fun d2 m2 r2 => WP 60 82 [q0, q1, q2] (r2 ++ []) d2 m2 Q))) := P_cv k60_79 mx31 mo31 rfl rfl rfl rfl rfl rfl rfl rfl
set_option maxRecDepth 20000 in
theorem k60_82 : mjCode 60 82 = some (.ireturn, 1, 0, 0) := by decide +kernel
theorem p60_82 {s0 : Int} {q0 q1 q2 : MV} {ds : Ds} {m : Mm} {Q : Ds → Mm → List MV → Prop} : WP 60 82 [q0, q1, q2] [(0, s0)] ds m Q = (((s0 = 0 ∨ s0 = 1) ∧ Q ds m [(0, s0)])) := P_rb k60_82 rk60
set_option maxRecDepth 20000 in
theorem k60_83 : mjCode 60 83 = some (.iconst 0, 1, 0, 0) := by decide +kernel
theorem p60_83 {q0 q1 q2 : MV} {ds : Ds} {m : Mm} {Q : Ds → Mm → List MV → Prop} : WP 60 83 [q0, q1, q2] [] ds m Q = (WP 60 84 [q0, q1, q2] [(0, 0)] ds m Q) := P_nx k60_83 rfl
set_option maxRecDepth 20000 in
theorem k60_84 : mjCode 60 84 = some (.ireturn, 1, 0, 0) := by decide +kernel
theorem p60_84 {s0 : Int} {q0 q1 q2 : MV} {ds : Ds} {m : Mm} {Q : Ds → Mm → List MV → Prop} : WP 60 84 [q0, q1, q2] [(0, s0)] ds m Q = (((s0 = 0 ∨ s0 = 1) ∧ Q ds m [(0, s0)])) := P_rb k60_84 rk60
set_option maxRecDepth 20000 in
theorem k61_0 : mjCode 61 0 = some (.aload_n 0, 1, 0, 0) := by decide +kernel
theorem p61_0 {l0 : Int} {q1 q2 q3 : MV} {ds : Ds} {m : Mm} {Q : Ds → Mm → List MV → Prop} : WP 61 0 [(2, l0), q1, q2, q3] [] ds m Q = (WP 61 1 [(2, l0), q1, q2, q3] [(2, l0)] ds m Q) := P_nx k61_0 rfl
set_option maxRecDepth 20000 in
theorem k61_1 : mjCode 61 1 = some (.getfield 35, 3, 5, 8) := by decide +kernel
theorem p61_1 {s0 : Int} {q0 q1 q2 q3 : MV} {ds : Ds} {m : Mm} {Q : Ds → Mm → List MV → Prop} : WP 61 1 [q0, q1, q2, q3] [(2, s0)] ds m Q = ((dk ds s0 = 5 ∧ WP 61 4 [q0, q1, q2, q3] [(2, m s0 8)] ds m Q)) := P_gd k61_1 rfl
set_option maxRecDepth 20000 in
theorem k61_4 : mjCode 61 4 = some (.iload_n 1, 1, 0, 0) := by decide +kernel
theorem p61_4 {l1 s0 : Int} {q0 q2 q3 : MV} {ds : Ds} {m : Mm} {Q : Ds → Mm → List MV → Prop} : WP 61 4 [q0, (0, l1), q2, q3] [(2, s0)] ds m Q = (WP 61 5 [q0, (0, l1), q2, q3] [(0, l1), (2, s0)] ds m Q) := P_nx k61_4 rfl
set_option maxRecDepth 20000 in
theorem k61_5 : mjCode 61 5 = some (.invokevirtual 202, 3, 25, 2) := by decide +kernel
theorem p61_5 {s0 s1 : Int} {q0 q1 q2 q3 : MV} {ds : Ds} {m : Mm} {Q : Ds → Mm → List MV → Prop} : WP 61 5 [q0, q1, q2, q3] [(0, s0), (2, s1)] ds m Q = ((dk ds s1 = 3 ∧ WP 24 0 [(2, s1), (0, s0)] [] ds m (fun d2 m2 r2 => WP 61 8 [q0, q1, q2, q3] (r2 ++ []) d2 m2 Q))) := P_cv k61_5 mx24 mo24 rfl rfl rfl rfl rfl rfl rfl rfl
set_option maxRecDepth 20000 in
theorem k61_8 : mjCode 61 8 = some (.bipush 9, 2, 0, 0) := by decide +kernel
theorem p61_8 {s0 : Int} {q0 q1 q2 q3 : MV} {ds : Ds} {m : Mm} {Q : Ds → Mm → List MV → Prop} : WP 61 8 [q0, q1, q2, q3] [(0, s0)] ds m Q = (WP 61 10 [q0, q1, q2, q3] [(0, 9), (0, s0)] ds m Q) := P_nx k61_8 rfl
set_option maxRecDepth 20000 in
theorem k61_10 : mjCode 61 10 = some (.if_icmp .eq 5, 3, 15, 0) := by decide +kernel
theorem p61_10 {s0 s1 : Int} {q0 q1 q2 q3 : MV} {ds : Ds} {m : Mm} {Q : Ds → Mm → List MV → Prop} : WP 61 10 [q0, q1, q2, q3] [(0, s0), (0, s1)] ds m Q = (if s1 = s0 then WP 61 15 [q0, q1, q2, q3] [] ds m Q else WP 61 13 [q0, q1, q2, q3] [] ds m Q) := P_if k61_10 rfl
set_option maxRecDepth 20000 in
theorem k61_13 : mjCode 61 13 = some (.iload_n 2, 1, 0, 0) := by decide +kernel
theorem p61_13 {l2 : Int} {q0 q1 q3 : MV} {ds : Ds} {m : Mm} {Q : Ds → Mm → List MV → Prop} : WP 61 13 [q0, q1, (0, l2), q3] [] ds m Q = (WP 61 14 [q0, q1, (0, l2), q3] [(0, l2)] ds m Q) := P_nx k61_13 rfl
set_option maxRecDepth 20000 in
theorem k61_14 : mjCode 61 14 = some (.ireturn, 1, 0, 0) := by decide +kernel
theorem p61_14 {s0 : Int} {q0 q1 q2 q3 : MV} {ds : Ds} {m : Mm} {Q : Ds → Mm → List MV → Prop} : WP 61 14 [q0, q1, q2, q3] [(0, s0)] ds m Q = (Q ds m [(0, s0)]) := P_ri k61_14 rk61
set_option maxRecDepth 20000 in
theorem k61_15 : mjCode 61 15 = some (.iconst 0, 1, 0, 0) := by decide +kernel
theorem p61_15 {q0 q1 q2 q3 : MV} {ds : Ds} {m : Mm} {Q : Ds → Mm → List MV → Prop} : WP 61 15 [q0, q1, q2, q3] [] ds m Q = (WP 61 16 [q0, q1, q2, q3] [(0, 0)] ds m Q) := P_nx k61_15 rfl
set_option maxRecDepth 20000 in
theorem k61_16 : mjCode 61 16 = some (.istore_n 3, 1, 0, 0) := by decide +kernel
theorem p61_16 {l2 s0 : Int} {q0 q1 q3 : MV} {ds : Ds} {m : Mm} {Q : Ds → Mm → List MV → Prop} : WP 61 16 [q0, q1, (0, l2), q3] [(0, s0)] ds m Q = (WP 61 17 [q0, q1, (0, l2), (0, s0)] [] ds m Q) := P_nx k61_16 rfl
set_option maxRecDepth 20000 in
theorem k61_17 : mjCode 61 17 = some (.iload_n 3, 1, 0, 0) := by decide +kernel
theorem p61_17 {l3 : Int} {q0 q1 q2 : MV} {ds : Ds} {m : Mm} {Q : Ds → Mm → List MV → Prop} : WP 61 17 [q0, q1, q2, (0, l3)] [] ds m Q = (WP 61 18 [q0, q1, q2, (0, l3)] [(0, l3)] ds m Q) := P_nx k61_17 rfl
set_option maxRecDepth 20000 in
theorem k61_18 : mjCode 61 18 = some (.iconst 4, 1, 0, 0) := by decide +kernel
theorem p61_18 {s0 : Int} {q0 q1 q2 q3 : MV} {ds : Ds} {m : Mm} {Q : Ds → Mm → List MV → Prop} : WP 61 18 [q0, q1, q2, q3] [(0, s0)] ds m Q = (WP 61 19 [q0, q1, q2, q3] [(0, 4), (0, s0)] ds m Q) := P_nx k61_18 rfl
set_option maxRecDepth 20000 in
theorem k61_19 : mjCode 61 19 = some (.if_icmp .ge 31, 3, 50, 0) := by decide +kernel
theorem p61_19 {s0 s1 : Int} {q0 q1 q2 q3 : MV} {ds : Ds} {m : Mm} {Q : Ds → Mm → List MV → Prop} : WP 61 19 [q0, q1, q2, q3] [(0, s0), (0, s1)] ds m Q = (if s1 < s0 then WP 61 22 [q0, q1, q2, q3] [] ds m Q else WP 61 50 [q0, q1, q2, q3] [] ds m Q) := P_if k61_19 rfl
set_option maxRecDepth 20000 in
theorem k61_22 : mjCode 61 22 = some (.iload_n 3, 1, 0, 0) := by decide +kernel
theorem p61_22 {l3 : Int} {q0 q1 q2 : MV} {ds : Ds} {m : Mm} {Q : Ds → Mm → List MV → Prop} : WP 61 22 [q0, q1, q2, (0, l3)] [] ds m Q = (WP 61 23 [q0, q1, q2, (0, l3)] [(0, l3)] ds m Q) := P_nx k61_22 rfl
set_option maxRecDepth 20000 in
theorem k61_23 : mjCode 61 23 = some (.iload_n 2, 1, 0, 0) := by decide +kernel
theorem p61_23 {l2 s0 : Int} {q0 q1 q3 : MV} {ds : Ds} {m : Mm} {Q : Ds → Mm → List MV → Prop} : WP 61 23 [q0, q1, (0, l2), q3] [(0, s0)] ds m Q = (WP 61 24 [q0, q1, (0, l2), q3] [(0, l2), (0, s0)] ds m Q) := P_nx k61_23 rfl
set_option maxRecDepth 20000 in
theorem k61_24 : mjCode 61 24 = some (.invokestatic 159, 3, 111, 1) := by decide +kernel
theorem p61_24 {s0 s1 : Int} {q0 q1 q2 q3 : MV} {ds : Ds} {m : Mm} {Q : Ds → Mm → List MV → Prop} : WP 61 24 [q0, q1, q2, q3] [(0, s0), (0, s1)] ds m Q = (WP 110 0 [(0, s0)] [] ds m (fun d2 m2 r2 => WP 61 27 [q0, q1, q2, q3] (r2 ++ [(0, s1)]) d2 m2 Q)) := P_cs k61_24 mx110 rfl rfl rfl rfl rfl rfl rfl
set_option maxRecDepth 20000 in
theorem k61_27 : mjCode 61 27 = some (.if_icmp .eq 17, 3, 44, 0) := by decide +kernel
theorem p61_27 {s0 s1 : Int} {q0 q1 q2 q3 : MV} {ds : Ds} {m : Mm} {Q : Ds → Mm → List MV → Prop} : WP 61 27 [q0, q1, q2, q3] [(0, s0), (0, s1)] ds m Q = (if s1 = s0 then WP 61 44 [q0, q1, q2, q3] [] ds m Q else WP 61 30 [q0, q1, q2, q3] [] ds m Q) := P_if k61_27 rfl
set_option maxRecDepth 20000 in
theorem k61_30 : mjCode 61 30 = some (.aload_n 0, 1, 0, 0) := by decide +kernel
theorem p61_30 {l0 : Int} {q1 q2 q3 : MV} {ds : Ds} {m : Mm} {Q : Ds → Mm → List MV → Prop} : WP 61 30 [(2, l0), q1, q2, q3] [] ds m Q = (WP 61 31 [(2, l0), q1, q2, q3] [(2, l0)] ds m Q) := P_nx k61_30 rfl
set_option maxRecDepth 20000 in
theorem k61_31 : mjCode 61 31 = some (.getfield 35, 3, 5, 8) := by decide +kernel
theorem p61_31 {s0 : Int} {q0 q1 q2 q3 : MV} {ds : Ds} {m : Mm} {Q : Ds → Mm → List MV → Prop} : WP 61 31 [q0, q1, q2, q3] [(2, s0)] ds m Q = ((dk ds s0 = 5 ∧ WP 61 34 [q0, q1, q2, q3] [(2, m s0 8)] ds m Q)) := P_gd k61_31 rfl
set_option maxRecDepth 20000 in
theorem k61_34 : mjCode 61 34 = some (.iload_n 1, 1, 0, 0) := by decide +kernel
theorem p61_34 {l1 s0 : Int} {q0 q2 q3 : MV} {ds : Ds} {m : Mm} {Q : Ds → Mm → List MV → Prop} : WP 61 34 [q0, (0, l1), q2, q3] [(2, s0)] ds m Q = (WP 61 35 [q0, (0, l1), q2, q3] [(0, l1), (2, s0)] ds m Q) := P_nx k61_34 rfl
set_option maxRecDepth 20000 in
theorem k61_35 : mjCode 61 35 = some (.iload_n 3, 1, 0, 0) := by decide +kernel
theorem p61_35 {l3 s0 s1 : Int} {q0 q1 q2 : MV} {ds : Ds} {m : Mm} {Q : Ds → Mm → List MV → Prop} : WP 61 35 [q0, q1, q2, (0, l3)] [(0, s0), (2, s1)] ds m Q = (WP 61 36 [q0, q1, q2, (0, l3)] [(0, l3), (0, s0), (2, s1)] ds m Q) := P_nx k61_35 rfl
set_option maxRecDepth 20000 in
theorem k61_36 : mjCode 61 36 = some (.invokevirtual 205, 3, 32, 3) := by decide +kernel
theorem p61_36 {s0 s1 s2 : Int} {q0 q1 q2 q3 : MV} {ds : Ds} {m : Mm} {Q : Ds → Mm → List MV → Prop} : WP 61 36 [q0, q1, q2, q3] [(0, s0), (0, s1), (2, s2)] ds m Q = ((dk ds s2 = 3 ∧ WP 31 0 [(2, s2), (0, s1), (0, s0)] [] ds m (fun d2 m2 r2 => WP 61 39 [q0, q1, q2, q3] (r2 ++ []) d2 m2 Q))) := P_cv k61_36 mx31 mo31 rfl rfl rfl rfl rfl rfl rfl rfl
set_option maxRecDepth 20000 in
theorem k61_39 : mjCode 61 39 = some (.ifCond .eq 5, 3, 44, 0) := by decide +kernel
theorem p61_39 {s0 : Int} {q0 q1 q2 q3 : MV} {ds : Ds} {m : Mm} {Q : Ds → Mm → List MV → Prop} : WP 61 39 [q0, q1, q2, q3] [(0, s0)] ds m Q = (if s0 = 0 then WP 61 44 [q0, q1, q2, q3] [] ds m Q else WP 61 42 [q0, q1, q2, q3] [] ds m Q) := P_if k61_39 rfl
set_option maxRecDepth 20000 in
theorem k61_42 : mjCode 61 42 = some (.iload_n 3, 1, 0, 0) := by decide +kernel
theorem p61_42 {l3 : Int} {q0 q1 q2 : MV} {ds : Ds} {m : Mm} {Q : Ds → Mm → List MV → Prop} : WP 61 42 [q0, q1, q2, (0, l3)] [] ds m Q = (WP 61 43 [q0, q1, q2, (0, l3)] [(0, l3)] ds m Q) := P_nx k61_42 rfl
set_option maxRecDepth 20000 in
theorem k61_43 : mjCode 61 43 = some (.ireturn, 1, 0, 0) := by decide +kernel
theorem p61_43 {s0 : Int} {q0 q1 q2 q3 : MV} {ds : Ds} {m : Mm} {Q : Ds → Mm → List MV → Prop} : WP 61 43 [q0, q1, q2, q3] [(0, s0)] ds m Q = (Q ds m [(0, s0)]) := P_ri k61_43 rk61
set_option maxRecDepth 20000 in
theorem k61_44 : mjCode 61 44 = some (.iinc 3 1, 3, 0, 0) := by decide +kernel
theorem p61_44 {l3 : Int} {q0 q1 q2 : MV} {ds : Ds} {m : Mm} {Q : Ds → Mm → List MV → Prop} : WP 61 44 [q0, q1, q2, (0, l3)] [] ds m Q = (WP 61 47 [q0, q1, q2, (0, w32 (l3 + 1))] [] ds m Q) := P_nx k61_44 rfl
set_option maxRecDepth 20000 in
theorem k61_47 : mjCode 61 47 = some (.goto (-30), 3, 17, 0) := by decide +kernel
theorem p61_47 {q0 q1 q2 q3 : MV} {ds : Ds} {m : Mm} {Q : Ds → Mm → List MV → Prop} : WP 61 47 [q0, q1, q2, q3] [] ds m Q = (WP 61 17 [q0, q1, q2, q3] [] ds m Q) := P_nx k61_47 rfl
set_option maxRecDepth 20000 in
theorem k61_50 : mjCode 61 50 = some (.iload_n 2, 1, 0, 0) := by decide +kernel
theorem p61_50 {l2 : Int} {q0 q1 q3 : MV} {ds : Ds} {m : Mm} {Q : Ds → Mm → List MV → Prop} : WP 61 50 [q0, q1, (0, l2), q3] [] ds m Q = (WP 61 51 [q0, q1, (0, l2), q3] [(0, l2)] ds m Q) := P_nx k61_50 rfl
set_option maxRecDepth 20000 in
theorem k61_51 : mjCode 61 51 = some (.ireturn, 1, 0, 0) := by decide +kernel
theorem p61_51 {s0 : Int} {q0 q1 q2 q3 : MV} {ds : Ds} {m : Mm} {Q : Ds → Mm → List MV → Prop} : WP 61 51 [q0, q1, q2, q3] [(0, s0)] ds m Q = (Q ds m [(0, s0)]) := P_ri k61_51 rk61
set_option maxRecDepth 20000 in
theorem k62_0 : mjCode 62 0 = some (.aload_n 0, 1, 0, 0) := by decide +kernel
theorem p62_0 {l0 : Int} {q1 q2 q3 q4 q5 q6 : MV} {ds : Ds} {m : Mm} {Q : Ds → Mm → List MV → Prop} : WP 62 0 [(2, l0), q1, q2, q3, q4, q5, q6] [] ds m Q = (WP 62 1 [(2, l0), q1, q2, q3, q4, q5, q6] [(2, l0)] ds m Q) := P_nx k62_0 rfl
set_option maxRecDepth 20000 in
theorem k62_1 : mjCode 62 1 = some (.getfield 43, 3, 5, 1) := by decide +kernel
theorem p62_1 {s0 : Int} {q0 q1 q2 q3 q4 q5 q6 : MV} {ds : Ds} {m : Mm} {Q : Ds → Mm → List MV → Prop} : WP 62 1 [q0, q1, q2, q3, q4, q5, q6] [(2, s0)] ds m Q = ((dk ds s0 = 5 ∧ WP 62 4 [q0, q1, q2, q3, q4, q5, q6] [(2, m s0 1)] ds m Q)) := P_gd k62_1 rfl
set_option maxRecDepth 20000 in
theorem k62_4 : mjCode 62 4 = some (.getfield 88, 3, 2, 4) := by decide +kernel
theorem p62_4 {s0 : Int} {q0 q1 q2 q3 q4 q5 q6 : MV} {ds : Ds} {m : Mm} {Q : Ds → Mm → List MV → Prop} : WP 62 4 [q0, q1, q2, q3, q4, q5, q6] [(2, s0)] ds m Q = ((dk ds s0 = 2 ∧ WP 62 7 [q0, q1, q2, q3, q4, q5, q6] [(0, m s0 4)] ds m Q)) := P_gd k62_4 rfl
set_option maxRecDepth 20000 in
theorem k62_7 : mjCode 62 7 = some (.istore 5, 2, 0, 0) := by decide +kernel
theorem p62_7 {l4 s0 : Int} {q0 q1 q2 q3 q5 q6 : MV} {ds : Ds} {m : Mm} {Q : Ds → Mm → List MV → Prop} : WP 62 7 [q0, q1, q2, q3, (0, l4), q5, q6] [(0, s0)] ds m Q = (WP 62 9 [q0, q1, q2, q3, (0, l4), (0, s0), q6] [] ds m Q) := P_nx k62_7 rfl
set_option maxRecDepth 20000 in
theorem k62_9 : mjCode 62 9 = some (.iload 4, 2, 0, 0) := by decide +kernel
theorem p62_9 {l4 : Int} {q0 q1 q2 q3 q5 q6 : MV} {ds : Ds} {m : Mm} {Q : Ds → Mm → List MV → Prop} : WP 62 9 [q0, q1, q2, q3, (0, l4), q5, q6] [] ds m Q = (WP 62 11 [q0, q1, q2, q3, (0, l4), q5, q6] [(0, l4)] ds m Q) := P_nx k62_9 rfl
set_option maxRecDepth 20000 in
theorem k62_11 : mjCode 62 11 = some (.istore 6, 2, 0, 0) := by decide +kernel
theorem p62_11 {l5 s0 : Int} {q0 q1 q2 q3 q4 q6 : MV} {ds : Ds} {m : Mm} {Q : Ds → Mm → List MV → Prop} : WP 62 11 [q0, q1, q2, q3, q4, (0, l5), q6] [(0, s0)] ds m Q = (WP 62 13 [q0, q1, q2, q3, q4, (0, l5), (0, s0)] [] ds m Q) := P_nx k62_11 rfl
set_option maxRecDepth 20000 in
theorem k62_13 : mjCode 62 13 = some (.iload_n 1, 1, 0, 0) := by decide +kernel
theorem p62_13 {l1 : Int} {q0 q2 q3 q4 q5 q6 : MV} {ds : Ds} {m : Mm} {Q : Ds → Mm → List MV → Prop} : WP 62 13 [q0, (0, l1), q2, q3, q4, q5, q6] [] ds m Q = (WP 62 14 [q0, (0, l1), q2, q3, q4, q5, q6] [(0, l1)] ds m Q) := P_nx k62_13 rfl
set_option maxRecDepth 20000 in
theorem k62_14 : mjCode 62 14 = some (.invokestatic 75, 3, 108, 1) := by decide +kernel
theorem p62_14 {s0 : Int} {q0 q1 q2 q3 q4 q5 q6 : MV} {ds : Ds} {m : Mm} {Q : Ds → Mm → List MV → Prop} : WP 62 14 [q0, q1, q2, q3, q4, q5, q6] [(0, s0)] ds m Q = (WP 107 0 [(0, s0)] [] ds m (fun d2 m2 r2 => WP 62 17 [q0, q1, q2, q3, q4, q5, q6] (r2 ++ []) d2 m2 Q)) := P_cs k62_14 mx107 rfl rfl rfl rfl rfl rfl rfl
set_option maxRecDepth 20000 in
theorem k62_17 : mjCode 62 17 = some (.ifCond .eq 103, 3, 120, 0) := by decide +kernel
theorem p62_17 {s0 : Int} {q0 q1 q2 q3 q4 q5 q6 : MV} {ds : Ds} {m : Mm} {Q : Ds → Mm → List MV → Prop} : WP 62 17 [q0, q1, q2, q3, q4, q5, q6] [(0, s0)] ds m Q = (if s0 = 0 then WP 62 120 [q0, q1, q2, q3, q4, q5, q6] [] ds m Q else WP 62 20 [q0, q1, q2, q3, q4, q5, q6] [] ds m Q) := P_if k62_17 rfl
set_option maxRecDepth 20000 in
theorem k62_20 : mjCode 62 20 = some (.aload_n 0, 1, 0, 0) := by decide +kernel
theorem p62_20 {l0 : Int} {q1 q2 q3 q4 q5 q6 : MV} {ds : Ds} {m : Mm} {Q : Ds → Mm → List MV → Prop} : WP 62 20 [(2, l0), q1, q2, q3, q4, q5, q6] [] ds m Q = (WP 62 21 [(2, l0), q1, q2, q3, q4, q5, q6] [(2, l0)] ds m Q) := P_nx k62_20 rfl
set_option maxRecDepth 20000 in
theorem k62_21 : mjCode 62 21 = some (.getfield 18, 3, 5, 3) := by decide +kernel
theorem p62_21 {s0 : Int} {q0 q1 q2 q3 q4 q5 q6 : MV} {ds : Ds} {m : Mm} {Q : Ds → Mm → List MV → Prop} : WP 62 21 [q0, q1, q2, q3, q4, q5, q6] [(2, s0)] ds m Q = ((dk ds s0 = 5 ∧ WP 62 24 [q0, q1, q2, q3, q4, q5, q6] [(2, m s0 3)] ds m Q)) := P_gd k62_21 rfl
set_option maxRecDepth 20000 in
theorem k62_24 : mjCode 62 24 = some (.iload_n 1, 1, 0, 0) := by decide +kernel
theorem p62_24 {l1 s0 : Int} {q0 q2 q3 q4 q5 q6 : MV} {ds : Ds} {m : Mm} {Q : Ds → Mm → List MV → Prop} : WP 62 24 [q0, (0, l1), q2, q3, q4, q5, q6] [(2, s0)] ds m Q = (WP 62 25 [q0, (0, l1), q2, q3, q4, q5, q6] [(0, l1), (2, s0)] ds m Q) := P_nx k62_24 rfl
set_option maxRecDepth 20000 in
theorem k62_25 : mjCode 62 25 = some (.dup2, 1, 0, 0) := by decide +kernel
theorem p62_25 {s0 s1 : Int} {q0 q1 q2 q3 q4 q5 q6 : MV} {ds : Ds} {m : Mm} {Q : Ds → Mm → List MV → Prop} : WP 62 25 [q0, q1, q2, q3, q4, q5, q6] [(0, s0), (2, s1)] ds m Q = (WP 62 26 [q0, q1, q2, q3, q4, q5, q6] [(0, s0), (2, s1), (0, s0), (2, s1)] ds m Q) := P_nx k62_25 rfl
set_option maxRecDepth 20000 in
theorem k62_26 : mjCode 62 26 = some (.iaload, 1, 0, 0) := by decide +kernel
theorem p62_26 {s0 s1 s2 s3 : Int} {q0 q1 q2 q3 q4 q5 q6 : MV} {ds : Ds} {m : Mm} {Q : Ds → Mm → List MV → Prop} : WP 62 26 [q0, q1, q2, q3, q4, q5, q6] [(0, s0), (2, s1), (0, s2), (2, s3)] ds m Q = ((dk ds s1 = 10 ∧ 0 ≤ s0 ∧ s0 < dl ds s1 ∧ WP 62 27 [q0, q1, q2, q3, q4, q5, q6] [(0, m s1 s0), (0, s2), (2, s3)] ds m Q)) := P_g3 k62_26 rfl
set_option maxRecDepth 20000 in
theorem k62_27 : mjCode 62 27 = some (.iconst 1, 1, 0, 0) := by decide +kernel
theorem p62_27 {s0 s1 s2 : Int} {q0 q1 q2 q3 q4 q5 q6 : MV} {ds : Ds} {m : Mm} {Q : Ds → Mm → List MV → Prop} : WP 62 27 [q0, q1, q2, q3, q4, q5, q6] [(0, s0), (0, s1), (2, s2)] ds m Q = (WP 62 28 [q0, q1, q2, q3, q4, q5, q6] [(0, 1), (0, s0), (0, s1), (2, s2)] ds m Q) := P_nx k62_27 rfl
set_option maxRecDepth 20000 in
theorem k62_28 : mjCode 62 28 = some (.iadd, 1, 0, 0) := by decide +kernel
theorem p62_28 {s0 s1 s2 s3 : Int} {q0 q1 q2 q3 q4 q5 q6 : MV} {ds : Ds} {m : Mm} {Q : Ds → Mm → List MV → Prop} : WP 62 28 [q0, q1, q2, q3, q4, q5, q6] [(0, s0), (0, s1), (0, s2), (2, s3)] ds m Q = (WP 62 29 [q0, q1, q2, q3, q4, q5, q6] [(0, w32 (s1 + s0)), (0, s2), (2, s3)] ds m Q) := P_nx k62_28 rfl
set_option maxRecDepth 20000 in
theorem k62_29 : mjCode 62 29 = some (.iastore, 1, 0, 0) := by decide +kernel
theorem p62_29 {s0 s1 s2 : Int} {q0 q1 q2 q3 q4 q5 q6 : MV} {ds : Ds} {m : Mm} {Q : Ds → Mm → List MV → Prop} : WP 62 29 [q0, q1, q2, q3, q4, q5, q6] [(0, s0), (0, s1), (2, s2)] ds m Q = ((dk ds s2 = 10 ∧ 0 ≤ s1 ∧ s1 < dl ds s2 ∧ WP 62 30 [q0, q1, q2, q3, q4, q5, q6] [] ds (up m s2 s1 s0) Q)) := P_s3 k62_29 rfl
set_option maxRecDepth 20000 in
theorem k62_30 : mjCode 62 30 = some (.aload_n 0, 1, 0, 0) := by decide +kernel
theorem p62_30 {l0 : Int} {q1 q2 q3 q4 q5 q6 : MV} {ds : Ds} {m : Mm} {Q : Ds → Mm → List MV → Prop} : WP 62 30 [(2, l0), q1, q2, q3, q4, q5, q6] [] ds m Q = (WP 62 31 [(2, l0), q1, q2, q3, q4, q5, q6] [(2, l0)] ds m Q) := P_nx k62_30 rfl
set_option maxRecDepth 20000 in
theorem k62_31 : mjCode 62 31 = some (.iload_n 1, 1, 0, 0) := by decide +kernel
theorem p62_31 {l1 s0 : Int} {q0 q2 q3 q4 q5 q6 : MV} {ds : Ds} {m : Mm} {Q : Ds → Mm → List MV → Prop} : WP 62 31 [q0, (0, l1), q2, q3, q4, q5, q6] [(2, s0)] ds m Q = (WP 62 32 [q0, (0, l1), q2, q3, q4, q5, q6] [(0, l1), (2, s0)] ds m Q) := P_nx k62_31 rfl
set_option maxRecDepth 20000 in
theorem k62_32 : mjCode 62 32 = some (.invokevirtual 156, 3, 59, 2) := by decide +kernel
theorem p62_32 {s0 s1 : Int} {q0 q1 q2 q3 q4 q5 q6 : MV} {ds : Ds} {m : Mm} {Q : Ds → Mm → List MV → Prop} : WP 62 32 [q0, q1, q2, q3, q4, q5, q6] [(0, s0), (2, s1)] ds m Q = ((dk ds s1 = 5 ∧ WP 58 0 [(2, s1), (0, s0)] [] ds m (fun d2 m2 r2 => WP 62 35 [q0, q1, q2, q3, q4, q5, q6] (r2 ++ []) d2 m2 Q))) := P_cv k62_32 mx58 mo58 rfl rfl rfl rfl rfl rfl rfl rfl
set_option maxRecDepth 20000 in
theorem k62_35 : mjCode 62 35 = some (.ifCond .eq 26, 3, 61, 0) := by decide +kernel
theorem p62_35 {s0 : Int} {q0 q1 q2 q3 q4 q5 q6 : MV} {ds : Ds} {m : Mm} {Q : Ds → Mm → List MV → Prop} : WP 62 35 [q0, q1, q2, q3, q4, q5, q6] [(0, s0)] ds m Q = (if s0 = 0 then WP 62 61 [q0, q1, q2, q3, q4, q5, q6] [] ds m Q else WP 62 38 [q0, q1, q2, q3, q4, q5, q6] [] ds m Q) := P_if k62_35 rfl
set_option maxRecDepth 20000 in
theorem k62_38 : mjCode 62 38 = some (.iload 6, 2, 0, 0) := by decide +kernel
theorem p62_38 {l6 : Int} {q0 q1 q2 q3 q4 q5 : MV} {ds : Ds} {m : Mm} {Q : Ds → Mm → List MV → Prop} : WP 62 38 [q0, q1, q2, q3, q4, q5, (0, l6)] [] ds m Q = (WP 62 40 [q0, q1, q2, q3, q4, q5, (0, l6)] [(0, l6)] ds m Q) := P_nx k62_38 rfl
set_option maxRecDepth 20000 in
theorem k62_40 : mjCode 62 40 = some (.iconst 1, 1, 0, 0) := by decide +kernel
theorem p62_40 {s0 : Int} {q0 q1 q2 q3 q4 q5 q6 : MV} {ds : Ds} {m : Mm} {Q : Ds → Mm → List MV → Prop} : WP 62 40 [q0, q1, q2, q3, q4, q5, q6] [(0, s0)] ds m Q = (WP 62 41 [q0, q1, q2, q3, q4, q5, q6] [(0, 1), (0, s0)] ds m Q) := P_nx k62_40 rfl
set_option maxRecDepth 20000 in
theorem k62_41 : mjCode 62 41 = some (.ior, 1, 0, 0) := by decide +kernel
theorem p62_41 {s0 s1 : Int} {q0 q1 q2 q3 q4 q5 q6 : MV} {ds : Ds} {m : Mm} {Q : Ds → Mm → List MV → Prop} : WP 62 41 [q0, q1, q2, q3, q4, q5, q6] [(0, s0), (0, s1)] ds m Q = (WP 62 42 [q0, q1, q2, q3, q4, q5, q6] [(0, jor s1 s0)] ds m Q) := P_nx k62_41 rfl
set_option maxRecDepth 20000 in
theorem k62_42 : mjCode 62 42 = some (.istore 6, 2, 0, 0) := by decide +kernel
theorem p62_42 {l5 s0 : Int} {q0 q1 q2 q3 q4 q6 : MV} {ds : Ds} {m : Mm} {Q : Ds → Mm → List MV → Prop} : WP 62 42 [q0, q1, q2, q3, q4, (0, l5), q6] [(0, s0)] ds m Q = (WP 62 44 [q0, q1, q2, q3, q4, (0, l5), (0, s0)] [] ds m Q) := P_nx k62_42 rfl
set_option maxRecDepth 20000 in
theorem k62_44 : mjCode 62 44 = some (.aload_n 0, 1, 0, 0) := by decide +kernel
theorem p62_44 {l0 : Int} {q1 q2 q3 q4 q5 q6 : MV} {ds : Ds} {m : Mm} {Q : Ds → Mm → List MV → Prop} : WP 62 44 [(2, l0), q1, q2, q3, q4, q5, q6] [] ds m Q = (WP 62 45 [(2, l0), q1, q2, q3, q4, q5, q6] [(2, l0)] ds m Q) := P_nx k62_44 rfl
set_option maxRecDepth 20000 in
theorem k62_45 : mjCode 62 45 = some (.getfield 32, 3, 5, 7) := by decide +kernel
theorem p62_45 {s0 : Int} {q0 q1 q2 q3 q4 q5 q6 : MV} {ds : Ds} {m : Mm} {Q : Ds → Mm → List MV → Prop} : WP 62 45 [q0, q1, q2, q3, q4, q5, q6] [(2, s0)] ds m Q = ((dk ds s0 = 5 ∧ WP 62 48 [q0, q1, q2, q3, q4, q5, q6] [(2, m s0 7)] ds m Q)) := P_gd k62_45 rfl
set_option maxRecDepth 20000 in
theorem k62_48 : mjCode 62 48 = some (.iload_n 1, 1, 0, 0) := by decide +kernel
theorem p62_48 {l1 s0 : Int} {q0 q2 q3 q4 q5 q6 : MV} {ds : Ds} {m : Mm} {Q : Ds → Mm → List MV → Prop} : WP 62 48 [q0, (0, l1), q2, q3, q4, q5, q6] [(2, s0)] ds m Q = (WP 62 49 [q0, (0, l1), q2, q3, q4, q5, q6] [(0, l1), (2, s0)] ds m Q) := P_nx k62_48 rfl
set_option maxRecDepth 20000 in
theorem k62_49 : mjCode 62 49 = some (.iconst 1, 1, 0, 0) := by decide +kernel
theorem p62_49 {s0 s1 : Int} {q0 q1 q2 q3 q4 q5 q6 : MV} {ds : Ds} {m : Mm} {Q : Ds → Mm → List MV → Prop} : WP 62 49 [q0, q1, q2, q3, q4, q5, q6] [(0, s0), (2, s1)] ds m Q = (WP 62 50 [q0, q1, q2, q3, q4, q5, q6] [(0, 1), (0, s0), (2, s1)] ds m Q) := P_nx k62_49 rfl
set_option maxRecDepth 20000 in
theorem k62_50 : mjCode 62 50 = some (.bastore, 1, 0, 0) := by decide +kernel
theorem p62_50 {s0 s1 s2 : Int} {q0 q1 q2 q3 q4 q5 q6 : MV} {ds : Ds} {m : Mm} {Q : Ds → Mm → List MV → Prop} : WP 62 50 [q0, q1, q2, q3, q4, q5, q6] [(0, s0), (0, s1), (2, s2)] ds m Q = (((s0 = 0 ∨ s0 = 1) ∧ dk ds s2 = 11 ∧ 0 ≤ s1 ∧ s1 < dl ds s2 ∧ WP 62 51 [q0, q1, q2, q3, q4, q5, q6] [] ds (up m s2 s1 s0) Q)) := P_s4 k62_50 rfl
set_option maxRecDepth 20000 in
theorem k62_51 : mjCode 62 51 = some (.aload_n 0, 1, 0, 0) := by decide +kernel
theorem p62_51 {l0 : Int} {q1 q2 q3 q4 q5 q6 : MV} {ds : Ds} {m : Mm} {Q : Ds → Mm → List MV → Prop} : WP 62 51 [(2, l0), q1, q2, q3, q4, q5, q6] [] ds m Q = (WP 62 52 [(2, l0), q1, q2, q3, q4, q5, q6] [(2, l0)] ds m Q) := P_nx k62_51 rfl
set_option maxRecDepth 20000 in
theorem k62_52 : mjCode 62 52 = some (.dup, 1, 0, 0) := by decide +kernel
theorem p62_52 {s0 : Int} {q0 q1 q2 q3 q4 q5 q6 : MV} {ds : Ds} {m : Mm} {Q : Ds → Mm → List MV → Prop} : WP 62 52 [q0, q1, q2, q3, q4, q5, q6] [(2, s0)] ds m Q = (WP 62 53 [q0, q1, q2, q3, q4, q5, q6] [(2, s0), (2, s0)] ds m Q) := P_nx k62_52 rfl
set_option maxRecDepth 20000 in
theorem k62_53 : mjCode 62 53 = some (.getfield 82, 3, 5, 11) := by decide +kernel
theorem p62_53 {s0 s1 : Int} {q0 q1 q2 q3 q4 q5 q6 : MV} {ds : Ds} {m : Mm} {Q : Ds → Mm → List MV → Prop} : WP 62 53 [q0, q1, q2, q3, q4, q5, q6] [(2, s0), (2, s1)] ds m Q = ((dk ds s0 = 5 ∧ WP 62 56 [q0, q1, q2, q3, q4, q5, q6] [(0, m s0 11), (2, s1)] ds m Q)) := P_gd k62_53 rfl
set_option maxRecDepth 20000 in
theorem k62_56 : mjCode 62 56 = some (.iconst 1, 1, 0, 0) := by decide +kernel
theorem p62_56 {s0 s1 : Int} {q0 q1 q2 q3 q4 q5 q6 : MV} {ds : Ds} {m : Mm} {Q : Ds → Mm → List MV → Prop} : WP 62 56 [q0, q1, q2, q3, q4, q5, q6] [(0, s0), (2, s1)] ds m Q = (WP 62 57 [q0, q1, q2, q3, q4, q5, q6] [(0, 1), (0, s0), (2, s1)] ds m Q) := P_nx k62_56 rfl
set_option maxRecDepth 20000 in
theorem k62_57 : mjCode 62 57 = some (.iadd, 1, 0, 0) := by decide +kernel
theorem p62_57 {s0 s1 s2 : Int} {q0 q1 q2 q3 q4 q5 q6 : MV} {ds : Ds} {m : Mm} {Q : Ds → Mm → List MV → Prop} : WP 62 57 [q0, q1, q2, q3, q4, q5, q6] [(0, s0), (0, s1), (2, s2)] ds m Q = (WP 62 58 [q0, q1, q2, q3, q4, q5, q6] [(0, w32 (s1 + s0)), (2, s2)] ds m Q) := P_nx k62_57 rfl
set_option maxRecDepth 20000 in
theorem k62_58 : mjCode 62 58 = some (.putfield 82, 3, 5, 11) := by decide +kernel
theorem p62_58 {s0 s1 : Int} {q0 q1 q2 q3 q4 q5 q6 : MV} {ds : Ds} {m : Mm} {Q : Ds → Mm → List MV → Prop} : WP 62 58 [q0, q1, q2, q3, q4, q5, q6] [(0, s0), (2, s1)] ds m Q = ((dk ds s1 = 5 ∧ WP 62 61 [q0, q1, q2, q3, q4, q5, q6] [] ds (up m s1 11 s0) Q)) := P_pf k62_58 rfl
set_option maxRecDepth 20000 in
theorem k62_61 : mjCode 62 61 = some (.aload_n 0, 1, 0, 0) := by decide +kernel
theorem p62_61 {l0 : Int} {q1 q2 q3 q4 q5 q6 : MV} {ds : Ds} {m : Mm} {Q : Ds → Mm → List MV → Prop} : WP 62 61 [(2, l0), q1, q2, q3, q4, q5, q6] [] ds m Q = (WP 62 62 [(2, l0), q1, q2, q3, q4, q5, q6] [(2, l0)] ds m Q) := P_nx k62_61 rfl
set_option maxRecDepth 20000 in
theorem k62_62 : mjCode 62 62 = some (.getfield 35, 3, 5, 8) := by decide +kernel
theorem p62_62 {s0 : Int} {q0 q1 q2 q3 q4 q5 q6 : MV} {ds : Ds} {m : Mm} {Q : Ds → Mm → List MV → Prop} : WP 62 62 [q0, q1, q2, q3, q4, q5, q6] [(2, s0)] ds m Q = ((dk ds s0 = 5 ∧ WP 62 65 [q0, q1, q2, q3, q4, q5, q6] [(2, m s0 8)] ds m Q)) := P_gd k62_62 rfl
set_option maxRecDepth 20000 in
theorem k62_65 : mjCode 62 65 = some (.iload_n 1, 1, 0, 0) := by decide +kernel
theorem p62_65 {l1 s0 : Int} {q0 q2 q3 q4 q5 q6 : MV} {ds : Ds} {m : Mm} {Q : Ds → Mm → List MV → Prop} : WP 62 65 [q0, (0, l1), q2, q3, q4, q5, q6] [(2, s0)] ds m Q = (WP 62 66 [q0, (0, l1), q2, q3, q4, q5, q6] [(0, l1), (2, s0)] ds m Q) := P_nx k62_65 rfl
set_option maxRecDepth 20000 in
theorem k62_66 : mjCode 62 66 = some (.invokevirtual 202, 3, 25, 2) := by decide +kernel
theorem p62_66 {s0 s1 : Int} {q0 q1 q2 q3 q4 q5 q6 : MV} {ds : Ds} {m : Mm} {Q : Ds → Mm → List MV → Prop} : WP 62 66 [q0, q1, q2, q3, q4, q5, q6] [(0, s0), (2, s1)] ds m Q = ((dk ds s1 = 3 ∧ WP 24 0 [(2, s1), (0, s0)] [] ds m (fun d2 m2 r2 => WP 62 69 [q0, q1, q2, q3, q4, q5, q6] (r2 ++ []) d2 m2 Q))) := P_cv k62_66 mx24 mo24 rfl rfl rfl rfl rfl rfl rfl rfl
set_option maxRecDepth 20000 in
theorem k62_69 : mjCode 62 69 = some (.bipush 8, 2, 0, 0) := by decide +kernel
theorem p62_69 {s0 : Int} {q0 q1 q2 q3 q4 q5 q6 : MV} {ds : Ds} {m : Mm} {Q : Ds → Mm → List MV → Prop} : WP 62 69 [q0, q1, q2, q3, q4, q5, q6] [(0, s0)] ds m Q = (WP 62 71 [q0, q1, q2, q3, q4, q5, q6] [(0, 8), (0, s0)] ds m Q) := P_nx k62_69 rfl
set_option maxRecDepth 20000 in
theorem k62_71 : mjCode 62 71 = some (.if_icmp .ne 49, 3, 120, 0) := by decide +kernel
theorem p62_71 {s0 s1 : Int} {q0 q1 q2 q3 q4 q5 q6 : MV} {ds : Ds} {m : Mm} {Q : Ds → Mm → List MV → Prop} : WP 62 71 [q0, q1, q2, q3, q4, q5, q6] [(0, s0), (0, s1)] ds m Q = (if s1 = s0 then WP 62 74 [q0, q1, q2, q3, q4, q5, q6] [] ds m Q else WP 62 120 [q0, q1, q2, q3, q4, q5, q6] [] ds m Q) := P_if k62_71 rfl
set_option maxRecDepth 20000 in
theorem k62_74 : mjCode 62 74 = some (.iload 6, 2, 0, 0) := by decide +kernel
theorem p62_74 {l6 : Int} {q0 q1 q2 q3 q4 q5 : MV} {ds : Ds} {m : Mm} {Q : Ds → Mm → List MV → Prop} : WP 62 74 [q0, q1, q2, q3, q4, q5, (0, l6)] [] ds m Q = (WP 62 76 [q0, q1, q2, q3, q4, q5, (0, l6)] [(0, l6)] ds m Q) := P_nx k62_74 rfl
set_option maxRecDepth 20000 in
theorem k62_76 : mjCode 62 76 = some (.iconst 4, 1, 0, 0) := by decide +kernel
theorem p62_76 {s0 : Int} {q0 q1 q2 q3 q4 q5 q6 : MV} {ds : Ds} {m : Mm} {Q : Ds → Mm → List MV → Prop} : WP 62 76 [q0, q1, q2, q3, q4, q5, q6] [(0, s0)] ds m Q = (WP 62 77 [q0, q1, q2, q3, q4, q5, q6] [(0, 4), (0, s0)] ds m Q) := P_nx k62_76 rfl
set_option maxRecDepth 20000 in
theorem k62_77 : mjCode 62 77 = some (.ior, 1, 0, 0) := by decide +kernel
theorem p62_77 {s0 s1 : Int} {q0 q1 q2 q3 q4 q5 q6 : MV} {ds : Ds} {m : Mm} {Q : Ds → Mm → List MV → Prop} : WP 62 77 [q0, q1, q2, q3, q4, q5, q6] [(0, s0), (0, s1)] ds m Q = (WP 62 78 [q0, q1, q2, q3, q4, q5, q6] [(0, jor s1 s0)] ds m Q) := P_nx k62_77 rfl
set_option maxRecDepth 20000 in
theorem k62_78 : mjCode 62 78 = some (.istore 6, 2, 0, 0) := by decide +kernel
theorem p62_78 {l5 s0 : Int} {q0 q1 q2 q3 q4 q6 : MV} {ds : Ds} {m : Mm} {Q : Ds → Mm → List MV → Prop} : WP 62 78 [q0, q1, q2, q3, q4, (0, l5), q6] [(0, s0)] ds m Q = (WP 62 80 [q0, q1, q2, q3, q4, (0, l5), (0, s0)] [] ds m Q) := P_nx k62_78 rfl
set_option maxRecDepth 20000 in
theorem k62_80 : mjCode 62 80 = some (.aload_n 0, 1, 0, 0) := by decide +kernel
theorem p62_80 {l0 : Int} {q1 q2 q3 q4 q5 q6 : MV} {ds : Ds} {m : Mm} {Q : Ds → Mm → List MV → Prop} : WP 62 80 [(2, l0), q1, q2, q3, q4, q5, q6] [] ds m Q = (WP 62 81 [(2, l0), q1, q2, q3, q4, q5, q6] [(2, l0)] ds m Q) := P_nx k62_80 rfl
set_option maxRecDepth 20000 in
theorem k62_81 : mjCode 62 81 = some (.getfield 22, 3, 5, 4) := by decide +kernel
theorem p62_81 {s0 : Int} {q0 q1 q2 q3 q4 q5 q6 : MV} {ds : Ds} {m : Mm} {Q : Ds → Mm → List MV → Prop} : WP 62 81 [q0, q1, q2, q3, q4, q5, q6] [(2, s0)] ds m Q = ((dk ds s0 = 5 ∧ WP 62 84 [q0, q1, q2, q3, q4, q5, q6] [(2, m s0 4)] ds m Q)) := P_gd k62_81 rfl
set_option maxRecDepth 20000 in
theorem k62_84 : mjCode 62 84 = some (.iload_n 1, 1, 0, 0) := by decide +kernel
theorem p62_84 {l1 s0 : Int} {q0 q2 q3 q4 q5 q6 : MV} {ds : Ds} {m : Mm} {Q : Ds → Mm → List MV → Prop} : WP 62 84 [q0, (0, l1), q2, q3, q4, q5, q6] [(2, s0)] ds m Q = (WP 62 85 [q0, (0, l1), q2, q3, q4, q5, q6] [(0, l1), (2, s0)] ds m Q) := P_nx k62_84 rfl
set_option maxRecDepth 20000 in
theorem k62_85 : mjCode 62 85 = some (.dup2, 1, 0, 0) := by decide +kernel
theorem p62_85 {s0 s1 : Int} {q0 q1 q2 q3 q4 q5 q6 : MV} {ds : Ds} {m : Mm} {Q : Ds → Mm → List MV → Prop} : WP 62 85 [q0, q1, q2, q3, q4, q5, q6] [(0, s0), (2, s1)] ds m Q = (WP 62 86 [q0, q1, q2, q3, q4, q5, q6] [(0, s0), (2, s1), (0, s0), (2, s1)] ds m Q) := P_nx k62_85 rfl
set_option maxRecDepth 20000 in
theorem k62_86 : mjCode 62 86 = some (.iaload, 1, 0, 0) := by decide +kernel
theorem p62_86 {s0 s1 s2 s3 : Int} {q0 q1 q2 q3 q4 q5 q6 : MV} {ds : Ds} {m : Mm} {Q : Ds → Mm → List MV → Prop} : WP 62 86 [q0, q1, q2, q3, q4, q5, q6] [(0, s0), (2, s1), (0, s2), (2, s3)] ds m Q = ((dk ds s1 = 10 ∧ 0 ≤ s0 ∧ s0 < dl ds s1 ∧ WP 62 87 [q0, q1, q2, q3, q4, q5, q6] [(0, m s1 s0), (0, s2), (2, s3)] ds m Q)) := P_g3 k62_86 rfl
set_option maxRecDepth 20000 in
theorem k62_87 : mjCode 62 87 = some (.iconst 1, 1, 0, 0) := by decide +kernel
theorem p62_87 {s0 s1 s2 : Int} {q0 q1 q2 q3 q4 q5 q6 : MV} {ds : Ds} {m : Mm} {Q : Ds → Mm → List MV → Prop} : WP 62 87 [q0, q1, q2, q3, q4, q5, q6] [(0, s0), (0, s1), (2, s2)] ds m Q = (WP 62 88 [q0, q1, q2, q3, q4, q5, q6] [(0, 1), (0, s0), (0, s1), (2, s2)] ds m Q) := P_nx k62_87 rfl
set_option maxRecDepth 20000 in
theorem k62_88 : mjCode 62 88 = some (.iadd, 1, 0, 0) := by decide +kernel
theorem p62_88 {s0 s1 s2 s3 : Int} {q0 q1 q2 q3 q4 q5 q6 : MV} {ds : Ds} {m : Mm} {Q : Ds → Mm → List MV → Prop} : WP 62 88 [q0, q1, q2, q3, q4, q5, q6] [(0, s0), (0, s1), (0, s2), (2, s3)] ds m Q = (WP 62 89 [q0, q1, q2, q3, q4, q5, q6] [(0, w32 (s1 + s0)), (0, s2), (2, s3)] ds m Q) := P_nx k62_88 rfl
set_option maxRecDepth 20000 in
theorem k62_89 : mjCode 62 89 = some (.iastore, 1, 0, 0) := by decide +kernel
theorem p62_89 {s0 s1 s2 : Int} {q0 q1 q2 q3 q4 q5 q6 : MV} {ds : Ds} {m : Mm} {Q : Ds → Mm → List MV → Prop} : WP 62 89 [q0, q1, q2, q3, q4, q5, q6] [(0, s0), (0, s1), (2, s2)] ds m Q = ((dk ds s2 = 10 ∧ 0 ≤ s1 ∧ s1 < dl ds s2 ∧ WP 62 90 [q0, q1, q2, q3, q4, q5, q6] [] ds (up m s2 s1 s0) Q)) := P_s3 k62_89 rfl
set_option maxRecDepth 20000 in
theorem k62_90 : mjCode 62 90 = some (.aload_n 0, 1, 0, 0) := by decide +kernel
theorem p62_90 {l0 : Int} {q1 q2 q3 q4 q5 q6 : MV} {ds : Ds} {m : Mm} {Q : Ds → Mm → List MV → Prop} : WP 62 90 [(2, l0), q1, q2, q3, q4, q5, q6] [] ds m Q = (WP 62 91 [(2, l0), q1, q2, q3, q4, q5, q6] [(2, l0)] ds m Q) := P_nx k62_90 rfl
set_option maxRecDepth 20000 in
theorem k62_91 : mjCode 62 91 = some (.dup, 1, 0, 0) := by decide +kernel
theorem p62_91 {s0 : Int} {q0 q1 q2 q3 q4 q5 q6 : MV} {ds : Ds} {m : Mm} {Q : Ds → Mm → List MV → Prop} : WP 62 91 [q0, q1, q2, q3, q4, q5, q6] [(2, s0)] ds m Q = (WP 62 92 [q0, q1, q2, q3, q4, q5, q6] [(2, s0), (2, s0)] ds m Q) := P_nx k62_91 rfl
set_option maxRecDepth 20000 in
theorem k62_92 : mjCode 62 92 = some (.getfield 85, 3, 5, 12) := by decide +kernel
theorem p62_92 {s0 s1 : Int} {q0 q1 q2 q3 q4 q5 q6 : MV} {ds : Ds} {m : Mm} {Q : Ds → Mm → List MV → Prop} : WP 62 92 [q0, q1, q2, q3, q4, q5, q6] [(2, s0), (2, s1)] ds m Q = ((dk ds s0 = 5 ∧ WP 62 95 [q0, q1, q2, q3, q4, q5, q6] [(0, m s0 12), (2, s1)] ds m Q)) := P_gd k62_92 rfl
set_option maxRecDepth 20000 in
theorem k62_95 : mjCode 62 95 = some (.iconst 1, 1, 0, 0) := by decide +kernel
theorem p62_95 {s0 s1 : Int} {q0 q1 q2 q3 q4 q5 q6 : MV} {ds : Ds} {m : Mm} {Q : Ds → Mm → List MV → Prop} : WP 62 95 [q0, q1, q2, q3, q4, q5, q6] [(0, s0), (2, s1)] ds m Q = (WP 62 96 [q0, q1, q2, q3, q4, q5, q6] [(0, 1), (0, s0), (2, s1)] ds m Q) := P_nx k62_95 rfl
set_option maxRecDepth 20000 in
theorem k62_96 : mjCode 62 96 = some (.iadd, 1, 0, 0) := by decide +kernel
theorem p62_96 {s0 s1 s2 : Int} {q0 q1 q2 q3 q4 q5 q6 : MV} {ds : Ds} {m : Mm} {Q : Ds → Mm → List MV → Prop} : WP 62 96 [q0, q1, q2, q3, q4, q5, q6] [(0, s0), (0, s1), (2, s2)] ds m Q = (WP 62 97 [q0, q1, q2, q3, q4, q5, q6] [(0, w32 (s1 + s0)), (2, s2)] ds m Q) := P_nx k62_96 rfl
set_option maxRecDepth 20000 in
theorem k62_97 : mjCode 62 97 = some (.putfield 85, 3, 5, 12) := by decide +kernel
theorem p62_97 {s0 s1 : Int} {q0 q1 q2 q3 q4 q5 q6 : MV} {ds : Ds} {m : Mm} {Q : Ds → Mm → List MV → Prop} : WP 62 97 [q0, q1, q2, q3, q4, q5, q6] [(0, s0), (2, s1)] ds m Q = ((dk ds s1 = 5 ∧ WP 62 100 [q0, q1, q2, q3, q4, q5, q6] [] ds (up m s1 12 s0) Q)) := P_pf k62_97 rfl
set_option maxRecDepth 20000 in
theorem k62_100 : mjCode 62 100 = some (.aload_n 0, 1, 0, 0) := by decide +kernel
theorem p62_100 {l0 : Int} {q1 q2 q3 q4 q5 q6 : MV} {ds : Ds} {m : Mm} {Q : Ds → Mm → List MV → Prop} : WP 62 100 [(2, l0), q1, q2, q3, q4, q5, q6] [] ds m Q = (WP 62 101 [(2, l0), q1, q2, q3, q4, q5, q6] [(2, l0)] ds m Q) := P_nx k62_100 rfl
set_option maxRecDepth 20000 in
theorem k62_101 : mjCode 62 101 = some (.getfield 25, 3, 5, 5) := by decide +kernel
theorem p62_101 {s0 : Int} {q0 q1 q2 q3 q4 q5 q6 : MV} {ds : Ds} {m : Mm} {Q : Ds → Mm → List MV → Prop} : WP 62 101 [q0, q1, q2, q3, q4, q5, q6] [(2, s0)] ds m Q = ((dk ds s0 = 5 ∧ WP 62 104 [q0, q1, q2, q3, q4, q5, q6] [(2, m s0 5)] ds m Q)) := P_gd k62_101 rfl
set_option maxRecDepth 20000 in
theorem k62_104 : mjCode 62 104 = some (.iload_n 1, 1, 0, 0) := by decide +kernel
theorem p62_104 {l1 s0 : Int} {q0 q2 q3 q4 q5 q6 : MV} {ds : Ds} {m : Mm} {Q : Ds → Mm → List MV → Prop} : WP 62 104 [q0, (0, l1), q2, q3, q4, q5, q6] [(2, s0)] ds m Q = (WP 62 105 [q0, (0, l1), q2, q3, q4, q5, q6] [(0, l1), (2, s0)] ds m Q) := P_nx k62_104 rfl
set_option maxRecDepth 20000 in
theorem k62_105 : mjCode 62 105 = some (.iaload, 1, 0, 0) := by decide +kernel
theorem p62_105 {s0 s1 : Int} {q0 q1 q2 q3 q4 q5 q6 : MV} {ds : Ds} {m : Mm} {Q : Ds → Mm → List MV → Prop} : WP 62 105 [q0, q1, q2, q3, q4, q5, q6] [(0, s0), (2, s1)] ds m Q = ((dk ds s1 = 10 ∧ 0 ≤ s0 ∧ s0 < dl ds s1 ∧ WP 62 106 [q0, q1, q2, q3, q4, q5, q6] [(0, m s1 s0)] ds m Q)) := P_g3 k62_105 rfl
set_option maxRecDepth 20000 in
theorem k62_106 : mjCode 62 106 = some (.iconst (-1), 1, 0, 0) := by decide +kernel
theorem p62_106 {s0 : Int} {q0 q1 q2 q3 q4 q5 q6 : MV} {ds : Ds} {m : Mm} {Q : Ds → Mm → List MV → Prop} : WP 62 106 [q0, q1, q2, q3, q4, q5, q6] [(0, s0)] ds m Q = (WP 62 107 [q0, q1, q2, q3, q4, q5, q6] [(0, (-1)), (0, s0)] ds m Q) := P_nx k62_106 rfl
set_option maxRecDepth 20000 in
theorem k62_107 : mjCode 62 107 = some (.if_icmp .ne 13, 3, 120, 0) := by decide +kernel
theorem p62_107 {s0 s1 : Int} {q0 q1 q2 q3 q4 q5 q6 : MV} {ds : Ds} {m : Mm} {Q : Ds → Mm → List MV → Prop} : WP 62 107 [q0, q1, q2, q3, q4, q5, q6] [(0, s0), (0, s1)] ds m Q = (if s1 = s0 then WP 62 110 [q0, q1, q2, q3, q4, q5, q6] [] ds m Q else WP 62 120 [q0, q1, q2, q3, q4, q5, q6] [] ds m Q) := P_if k62_107 rfl
set_option maxRecDepth 20000 in
theorem k62_110 : mjCode 62 110 = some (.aload_n 0, 1, 0, 0) := by decide +kernel
theorem p62_110 {l0 : Int} {q1 q2 q3 q4 q5 q6 : MV} {ds : Ds} {m : Mm} {Q : Ds → Mm → List MV → Prop} : WP 62 110 [(2, l0), q1, q2, q3, q4, q5, q6] [] ds m Q = (WP 62 111 [(2, l0), q1, q2, q3, q4, q5, q6] [(2, l0)] ds m Q) := P_nx k62_110 rfl
set_option maxRecDepth 20000 in
theorem k62_111 : mjCode 62 111 = some (.getfield 25, 3, 5, 5) := by decide +kernel
theorem p62_111 {s0 : Int} {q0 q1 q2 q3 q4 q5 q6 : MV} {ds : Ds} {m : Mm} {Q : Ds → Mm → List MV → Prop} : WP 62 111 [q0, q1, q2, q3, q4, q5, q6] [(2, s0)] ds m Q = ((dk ds s0 = 5 ∧ WP 62 114 [q0, q1, q2, q3, q4, q5, q6] [(2, m s0 5)] ds m Q)) := P_gd k62_111 rfl
set_option maxRecDepth 20000 in
theorem k62_114 : mjCode 62 114 = some (.iload_n 1, 1, 0, 0) := by decide +kernel
theorem p62_114 {l1 s0 : Int} {q0 q2 q3 q4 q5 q6 : MV} {ds : Ds} {m : Mm} {Q : Ds → Mm → List MV → Prop} : WP 62 114 [q0, (0, l1), q2, q3, q4, q5, q6] [(2, s0)] ds m Q = (WP 62 115 [q0, (0, l1), q2, q3, q4, q5, q6] [(0, l1), (2, s0)] ds m Q) := P_nx k62_114 rfl
set_option maxRecDepth 20000 in
theorem k62_115 : mjCode 62 115 = some (.aload_n 0, 1, 0, 0) := by decide +kernel
theorem p62_115 {l0 s0 s1 : Int} {q1 q2 q3 q4 q5 q6 : MV} {ds : Ds} {m : Mm} {Q : Ds → Mm → List MV → Prop} : WP 62 115 [(2, l0), q1, q2, q3, q4, q5, q6] [(0, s0), (2, s1)] ds m Q = (WP 62 116 [(2, l0), q1, q2, q3, q4, q5, q6] [(2, l0), (0, s0), (2, s1)] ds m Q) := P_nx k62_115 rfl
set_option maxRecDepth 20000 in
theorem k62_116 : mjCode 62 116 = some (.getfield 51, 3, 5, 9) := by decide +kernel
theorem p62_116 {s0 s1 s2 : Int} {q0 q1 q2 q3 q4 q5 q6 : MV} {ds : Ds} {m : Mm} {Q : Ds → Mm → List MV → Prop} : WP 62 116 [q0, q1, q2, q3, q4, q5, q6] [(2, s0), (0, s1), (2, s2)] ds m Q = ((dk ds s0 = 5 ∧ WP 62 119 [q0, q1, q2, q3, q4, q5, q6] [(0, m s0 9), (0, s1), (2, s2)] ds m Q)) := P_gd k62_116 rfl
set_option maxRecDepth 20000 in
theorem k62_119 : mjCode 62 119 = some (.iastore, 1, 0, 0) := by decide +kernel
theorem p62_119 {s0 s1 s2 : Int} {q0 q1 q2 q3 q4 q5 q6 : MV} {ds : Ds} {m : Mm} {Q : Ds → Mm → List MV → Prop} : WP 62 119 [q0, q1, q2, q3, q4, q5, q6] [(0, s0), (0, s1), (2, s2)] ds m Q = ((dk ds s2 = 10 ∧ 0 ≤ s1 ∧ s1 < dl ds s2 ∧ WP 62 120 [q0, q1, q2, q3, q4, q5, q6] [] ds (up m s2 s1 s0) Q)) := P_s3 k62_119 rfl
set_option maxRecDepth 20000 in
theorem k62_120 : mjCode 62 120 = some (.aload_n 0, 1, 0, 0) := by decide +kernel
theorem p62_120 {l0 : Int} {q1 q2 q3 q4 q5 q6 : MV} {ds : Ds} {m : Mm} {Q : Ds → Mm → List MV → Prop} : WP 62 120 [(2, l0), q1, q2, q3, q4, q5, q6] [] ds m Q = (WP 62 121 [(2, l0), q1, q2, q3, q4, q5, q6] [(2, l0)] ds m Q) := P_nx k62_120 rfl
set_option maxRecDepth 20000 in
theorem k62_121 : mjCode 62 121 = some (.getfield 43, 3, 5, 1) := by decide +kernel
theorem p62_121 {s0 : Int} {q0 q1 q2 q3 q4 q5 q6 : MV} {ds : Ds} {m : Mm} {Q : Ds → Mm → List MV → Prop} : WP 62 121 [q0, q1, q2, q3, q4, q5, q6] [(2, s0)] ds m Q = ((dk ds s0 = 5 ∧ WP 62 124 [q0, q1, q2, q3, q4, q5, q6] [(2, m s0 1)] ds m Q)) := P_gd k62_121 rfl
set_option maxRecDepth 20000 in
theorem k62_124 : mjCode 62 124 = some (.aload_n 0, 1, 0, 0) := by decide +kernel
theorem p62_124 {l0 s0 : Int} {q1 q2 q3 q4 q5 q6 : MV} {ds : Ds} {m : Mm} {Q : Ds → Mm → List MV → Prop} : WP 62 124 [(2, l0), q1, q2, q3, q4, q5, q6] [(2, s0)] ds m Q = (WP 62 125 [(2, l0), q1, q2, q3, q4, q5, q6] [(2, l0), (2, s0)] ds m Q) := P_nx k62_124 rfl
set_option maxRecDepth 20000 in
theorem k62_125 : mjCode 62 125 = some (.getfield 51, 3, 5, 9) := by decide +kernel
theorem p62_125 {s0 s1 : Int} {q0 q1 q2 q3 q4 q5 q6 : MV} {ds : Ds} {m : Mm} {Q : Ds → Mm → List MV → Prop} : WP 62 125 [q0, q1, q2, q3, q4, q5, q6] [(2, s0), (2, s1)] ds m Q = ((dk ds s0 = 5 ∧ WP 62 128 [q0, q1, q2, q3, q4, q5, q6] [(0, m s0 9), (2, s1)] ds m Q)) := P_gd k62_125 rfl
set_option maxRecDepth 20000 in
theorem k62_128 : mjCode 62 128 = some (.iload_n 1, 1, 0, 0) := by decide +kernel
theorem p62_128 {l1 s0 s1 : Int} {q0 q2 q3 q4 q5 q6 : MV} {ds : Ds} {m : Mm} {Q : Ds → Mm → List MV → Prop} : WP 62 128 [q0, (0, l1), q2, q3, q4, q5, q6] [(0, s0), (2, s1)] ds m Q = (WP 62 129 [q0, (0, l1), q2, q3, q4, q5, q6] [(0, l1), (0, s0), (2, s1)] ds m Q) := P_nx k62_128 rfl
set_option maxRecDepth 20000 in
theorem k62_129 : mjCode 62 129 = some (.iconst 4, 1, 0, 0) := by decide +kernel
theorem p62_129 {s0 s1 s2 : Int} {q0 q1 q2 q3 q4 q5 q6 : MV} {ds : Ds} {m : Mm} {Q : Ds → Mm → List MV → Prop} : WP 62 129 [q0, q1, q2, q3, q4, q5, q6] [(0, s0), (0, s1), (2, s2)] ds m Q = (WP 62 130 [q0, q1, q2, q3, q4, q5, q6] [(0, 4), (0, s0), (0, s1), (2, s2)] ds m Q) := P_nx k62_129 rfl
set_option maxRecDepth 20000 in
theorem k62_130 : mjCode 62 130 = some (.imul, 1, 0, 0) := by decide +kernel
theorem p62_130 {s0 s1 s2 s3 : Int} {q0 q1 q2 q3 q4 q5 q6 : MV} {ds : Ds} {m : Mm} {Q : Ds → Mm → List MV → Prop} : WP 62 130 [q0, q1, q2, q3, q4, q5, q6] [(0, s0), (0, s1), (0, s2), (2, s3)] ds m Q = (WP 62 131 [q0, q1, q2, q3, q4, q5, q6] [(0, w32 (s1 * s0)), (0, s2), (2, s3)] ds m Q) := P_nx k62_130 rfl
set_option maxRecDepth 20000 in
theorem k62_131 : mjCode 62 131 = some (.iload_n 2, 1, 0, 0) := by decide +kernel
theorem p62_131 {l2 s0 s1 s2 : Int} {q0 q1 q3 q4 q5 q6 : MV} {ds : Ds} {m : Mm} {Q : Ds → Mm → List MV → Prop} : WP 62 131 [q0, q1, (0, l2), q3, q4, q5, q6] [(0, s0), (0, s1), (2, s2)] ds m Q = (WP 62 132 [q0, q1, (0, l2), q3, q4, q5, q6] [(0, l2), (0, s0), (0, s1), (2, s2)] ds m Q) := P_nx k62_131 rfl
set_option maxRecDepth 20000 in
theorem k62_132 : mjCode 62 132 = some (.iadd, 1, 0, 0) := by decide +kernel
theorem p62_132 {s0 s1 s2 s3 : Int} {q0 q1 q2 q3 q4 q5 q6 : MV} {ds : Ds} {m : Mm} {Q : Ds → Mm → List MV → Prop} : WP 62 132 [q0, q1, q2, q3, q4, q5, q6] [(0, s0), (0, s1), (0, s2), (2, s3)] ds m Q = (WP 62 133 [q0, q1, q2, q3, q4, q5, q6] [(0, w32 (s1 + s0)), (0, s2), (2, s3)] ds m Q) := P_nx k62_132 rfl
set_option maxRecDepth 20000 in
theorem k62_133 : mjCode 62 133 = some (.iload_n 3, 1, 0, 0) := by decide +kernel
theorem p62_133 {l3 s0 s1 s2 : Int} {q0 q1 q2 q4 q5 q6 : MV} {ds : Ds} {m : Mm} {Q : Ds → Mm → List MV → Prop} : WP 62 133 [q0, q1, q2, (0, l3), q4, q5, q6] [(0, s0), (0, s1), (2, s2)] ds m Q = (WP 62 134 [q0, q1, q2, (0, l3), q4, q5, q6] [(0, l3), (0, s0), (0, s1), (2, s2)] ds m Q) := P_nx k62_133 rfl
set_option maxRecDepth 20000 in
theorem k62_134 : mjCode 62 134 = some (.iload 6, 2, 0, 0) := by decide +kernel
theorem p62_134 {l6 s0 s1 s2 s3 : Int} {q0 q1 q2 q3 q4 q5 : MV} {ds : Ds} {m : Mm} {Q : Ds → Mm → List MV → Prop} : WP 62 134 [q0, q1, q2, q3, q4, q5, (0, l6)] [(0, s0), (0, s1), (0, s2), (2, s3)] ds m Q = (WP 62 136 [q0, q1, q2, q3, q4, q5, (0, l6)] [(0, l6), (0, s0), (0, s1), (0, s2), (2, s3)] ds m Q) := P_nx k62_134 rfl
set_option maxRecDepth 20000 in
theorem k62_136 : mjCode 62 136 = some (.invokevirtual 208, 3, 19, 5) := by decide +kernel
theorem p62_136 {s0 s1 s2 s3 s4 : Int} {q0 q1 q2 q3 q4 q5 q6 : MV} {ds : Ds} {m : Mm} {Q : Ds → Mm → List MV → Prop} : WP 62 136 [q0, q1, q2, q3, q4, q5, q6] [(0, s0), (0, s1), (0, s2), (0, s3), (2, s4)] ds m Q = ((dk ds s4 = 2 ∧ WP 18 0 [(2, s4), (0, s3), (0, s2), (0, s1), (0, s0), (3, 0)] [] ds m (fun d2 m2 r2 => WP 62 139 [q0, q1, q2, q3, q4, q5, q6] (r2 ++ []) d2 m2 Q))) := P_cv k62_136 mx18 mo18 rfl rfl rfl rfl rfl rfl rfl rfl
set_option maxRecDepth 20000 in
theorem k62_139 : mjCode 62 139 = some (.iload 5, 2, 0, 0) := by decide +kernel
theorem p62_139 {l5 : Int} {q0 q1 q2 q3 q4 q6 : MV} {ds : Ds} {m : Mm} {Q : Ds → Mm → List MV → Prop} : WP 62 139 [q0, q1, q2, q3, q4, (0, l5), q6] [] ds m Q = (WP 62 141 [q0, q1, q2, q3, q4, (0, l5), q6] [(0, l5)] ds m Q) := P_nx k62_139 rfl
set_option maxRecDepth 20000 in
theorem k62_141 : mjCode 62 141 = some (.ireturn, 1, 0, 0) := by decide +kernel
theorem p62_141 {s0 : Int} {q0 q1 q2 q3 q4 q5 q6 : MV} {ds : Ds} {m : Mm} {Q : Ds → Mm → List MV → Prop} : WP 62 141 [q0, q1, q2, q3, q4, q5, q6] [(0, s0)] ds m Q = (Q ds m [(0, s0)]) := P_ri k62_141 rk62
