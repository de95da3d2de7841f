/-! every entry is what the bytes decode to -/
theorem spl {α : Type} {P : α → Prop} (n : Nat) {L : List α} (h1 : ∀ e ∈ L.take n, P e) (h2 : ∀ e ∈ L.drop n, P e) : ∀ e ∈ L, P e := by
  intro e he
  rw [← List.take_append_drop n L] at he
  rcases List.mem_append.mp he with h | h
  · exact h1 e h
  · exact h2 e h
set_option maxRecDepth 100000 in
theorem dec_0 : ∀ M ∈ [0, 1, 2, 3, 4, 5], ∀ e ∈ mjProg M, decode (mjB M) e.1 = .ok (e.2.1, e.2.2.1) := by decide +kernel
set_option maxRecDepth 100000 in
theorem dec_6 : ∀ M ∈ [6, 7, 8, 9], ∀ e ∈ mjProg M, decode (mjB M) e.1 = .ok (e.2.1, e.2.2.1) := by decide +kernel
set_option maxRecDepth 100000 in
theorem dec_10 : ∀ M ∈ [10, 11, 12, 13, 14], ∀ e ∈ mjProg M, decode (mjB M) e.1 = .ok (e.2.1, e.2.2.1) := by decide +kernel
set_option maxRecDepth 100000 in
theorem dec_15 : ∀ M ∈ [15, 16, 17, 18, 19, 20], ∀ e ∈ mjProg M, decode (mjB M) e.1 = .ok (e.2.1, e.2.2.1) := by decide +kernel
set_option maxRecDepth 100000 in
theorem dec_21 : ∀ M ∈ [21, 22, 23, 24], ∀ e ∈ mjProg M, decode (mjB M) e.1 = .ok (e.2.1, e.2.2.1) := by decide +kernel
set_option maxRecDepth 100000 in
theorem dec_25 : ∀ M ∈ [25, 26, 27, 28, 29, 30, 31, 32], ∀ e ∈ mjProg M, decode (mjB M) e.1 = .ok (e.2.1, e.2.2.1) := by decide +kernel
set_option maxRecDepth 100000 in
theorem dec_33 : ∀ M ∈ [33, 34, 35, 36, 37, 38], ∀ e ∈ mjProg M, decode (mjB M) e.1 = .ok (e.2.1, e.2.2.1) := by decide +kernel
set_option maxRecDepth 100000 in
theorem dec_39 : ∀ M ∈ [39, 40, 41, 42, 43, 44, 45, 46, 47], ∀ e ∈ mjProg M, decode (mjB M) e.1 = .ok (e.2.1, e.2.2.1) := by decide +kernel
set_option maxRecDepth 100000 in
theorem dec_48 : ∀ M ∈ [48, 49, 50, 51, 52], ∀ e ∈ mjProg M, decode (mjB M) e.1 = .ok (e.2.1, e.2.2.1) := by decide +kernel
set_option maxRecDepth 100000 in
theorem dec_53 : ∀ M ∈ [53, 54, 55], ∀ e ∈ mjProg M, decode (mjB M) e.1 = .ok (e.2.1, e.2.2.1) := by decide +kernel
set_option maxRecDepth 100000 in
theorem dec_56 : ∀ M ∈ [56, 57, 58], ∀ e ∈ mjProg M, decode (mjB M) e.1 = .ok (e.2.1, e.2.2.1) := by decide +kernel
set_option maxRecDepth 100000 in
theorem dec_59 : ∀ M ∈ [59, 60, 61], ∀ e ∈ mjProg M, decode (mjB M) e.1 = .ok (e.2.1, e.2.2.1) := by decide +kernel
set_option maxRecDepth 100000 in
theorem dec_62 : ∀ M ∈ [62], ∀ e ∈ mjProg M, decode (mjB M) e.1 = .ok (e.2.1, e.2.2.1) := by decide +kernel
set_option maxRecDepth 100000 in
theorem dec_63 : ∀ M ∈ [63], ∀ e ∈ mjProg M, decode (mjB M) e.1 = .ok (e.2.1, e.2.2.1) := by decide +kernel
set_option maxRecDepth 100000 in
theorem dec_64 : ∀ M ∈ [64, 65, 66], ∀ e ∈ mjProg M, decode (mjB M) e.1 = .ok (e.2.1, e.2.2.1) := by decide +kernel
set_option maxRecDepth 100000 in
theorem dec_67 : ∀ M ∈ [67, 68, 69, 70, 71], ∀ e ∈ mjProg M, decode (mjB M) e.1 = .ok (e.2.1, e.2.2.1) := by decide +kernel
set_option maxRecDepth 100000 in
theorem dec_72 : ∀ M ∈ [72, 73, 74, 75], ∀ e ∈ mjProg M, decode (mjB M) e.1 = .ok (e.2.1, e.2.2.1) := by decide +kernel
set_option maxRecDepth 100000 in
theorem dec_76 : ∀ M ∈ [76, 77, 78], ∀ e ∈ mjProg M, decode (mjB M) e.1 = .ok (e.2.1, e.2.2.1) := by decide +kernel
set_option maxRecDepth 100000 in
theorem dec_79 : ∀ M ∈ [79, 80, 81, 82], ∀ e ∈ mjProg M, decode (mjB M) e.1 = .ok (e.2.1, e.2.2.1) := by decide +kernel
set_option maxRecDepth 100000 in
theorem dec_83 : ∀ M ∈ [83, 84, 85], ∀ e ∈ mjProg M, decode (mjB M) e.1 = .ok (e.2.1, e.2.2.1) := by decide +kernel
set_option maxRecDepth 100000 in
theorem dec_86 : ∀ M ∈ [86, 87, 88], ∀ e ∈ mjProg M, decode (mjB M) e.1 = .ok (e.2.1, e.2.2.1) := by decide +kernel
set_option maxRecDepth 100000 in
theorem dec_89 : ∀ M ∈ [89, 90], ∀ e ∈ mjProg M, decode (mjB M) e.1 = .ok (e.2.1, e.2.2.1) := by decide +kernel
set_option maxRecDepth 100000 in
theorem dec_91 : ∀ M ∈ [91, 92], ∀ e ∈ mjProg M, decode (mjB M) e.1 = .ok (e.2.1, e.2.2.1) := by decide +kernel
set_option maxRecDepth 100000 in
theorem dec_93 : ∀ M ∈ [93, 94, 95, 96, 97], ∀ e ∈ mjProg M, decode (mjB M) e.1 = .ok (e.2.1, e.2.2.1) := by decide +kernel
set_option maxRecDepth 100000 in
theorem dec_98 : ∀ M ∈ [98, 99, 100, 101, 102], ∀ e ∈ mjProg M, decode (mjB M) e.1 = .ok (e.2.1, e.2.2.1) := by decide +kernel
set_option maxRecDepth 100000 in
theorem dec_103 : ∀ M ∈ [103, 104, 105, 106, 107, 108, 109, 110], ∀ e ∈ mjProg M, decode (mjB M) e.1 = .ok (e.2.1, e.2.2.1) := by decide +kernel
set_option maxRecDepth 100000 in
theorem dec_111 : ∀ M ∈ [111, 112, 113, 114, 115, 116, 117, 118], ∀ e ∈ mjProg M, decode (mjB M) e.1 = .ok (e.2.1, e.2.2.1) := by decide +kernel
set_option maxRecDepth 100000 in
theorem dec_119 : ∀ M ∈ [119], ∀ e ∈ mjProg M, decode (mjB M) e.1 = .ok (e.2.1, e.2.2.1) := by decide +kernel
set_option maxRecDepth 100000 in
theorem dec_120 : ∀ M ∈ [120, 121, 122, 123, 124, 125, 126], ∀ e ∈ mjProg M, decode (mjB M) e.1 = .ok (e.2.1, e.2.2.1) := by decide +kernel
set_option maxRecDepth 100000 in
theorem dec_127 : ∀ M ∈ [127, 128, 129], ∀ e ∈ mjProg M, decode (mjB M) e.1 = .ok (e.2.1, e.2.2.1) := by decide +kernel
set_option maxRecDepth 100000 in
theorem dec_130 : ∀ M ∈ [130, 131, 132, 133], ∀ e ∈ mjProg M, decode (mjB M) e.1 = .ok (e.2.1, e.2.2.1) := by decide +kernel
set_option maxRecDepth 100000 in
theorem dec_134 : ∀ M ∈ [134, 135, 136, 137], ∀ e ∈ mjProg M, decode (mjB M) e.1 = .ok (e.2.1, e.2.2.1) := by decide +kernel
set_option maxRecDepth 100000 in
theorem dec_138 : ∀ M ∈ [138, 139, 140, 141, 142], ∀ e ∈ mjProg M, decode (mjB M) e.1 = .ok (e.2.1, e.2.2.1) := by decide +kernel
set_option maxRecDepth 100000 in
theorem dec_143 : ∀ M ∈ [143, 144], ∀ e ∈ mjProg M, decode (mjB M) e.1 = .ok (e.2.1, e.2.2.1) := by decide +kernel
set_option maxRecDepth 100000 in
theorem dec_145 : ∀ M ∈ [145], ∀ e ∈ mjProg M, decode (mjB M) e.1 = .ok (e.2.1, e.2.2.1) := by decide +kernel
set_option maxRecDepth 100000 in
theorem dec_146 : ∀ M ∈ [146, 147, 148], ∀ e ∈ mjProg M, decode (mjB M) e.1 = .ok (e.2.1, e.2.2.1) := by decide +kernel
set_option maxRecDepth 100000 in
theorem dec_149 : ∀ M ∈ [149], ∀ e ∈ mjProg M, decode (mjB M) e.1 = .ok (e.2.1, e.2.2.1) := by decide +kernel
set_option maxRecDepth 100000 in
theorem dec_150 : ∀ M ∈ [150], ∀ e ∈ mjProg M, decode (mjB M) e.1 = .ok (e.2.1, e.2.2.1) := by decide +kernel
set_option maxRecDepth 100000 in
theorem dec_151 : ∀ M ∈ [151, 152, 153], ∀ e ∈ mjProg M, decode (mjB M) e.1 = .ok (e.2.1, e.2.2.1) := by decide +kernel
set_option maxRecDepth 100000 in
theorem dec_154 : ∀ M ∈ [154, 155, 156, 157], ∀ e ∈ mjProg M, decode (mjB M) e.1 = .ok (e.2.1, e.2.2.1) := by decide +kernel
set_option maxRecDepth 100000 in
theorem dec_158 : ∀ M ∈ [158], ∀ e ∈ mjProg M, decode (mjB M) e.1 = .ok (e.2.1, e.2.2.1) := by decide +kernel
set_option maxRecDepth 100000 in
theorem dec_159 : ∀ M ∈ [159], ∀ e ∈ mjProg M, decode (mjB M) e.1 = .ok (e.2.1, e.2.2.1) := by decide +kernel
set_option maxRecDepth 100000 in
theorem dec_160 : ∀ M ∈ [160], ∀ e ∈ mjProg M, decode (mjB M) e.1 = .ok (e.2.1, e.2.2.1) := by decide +kernel
set_option maxRecDepth 100000 in
theorem dec_161 : ∀ M ∈ [161], ∀ e ∈ mjProg M, decode (mjB M) e.1 = .ok (e.2.1, e.2.2.1) := by decide +kernel
set_option maxRecDepth 100000 in
theorem dec_162 : ∀ M ∈ [162], ∀ e ∈ mjProg M, decode (mjB M) e.1 = .ok (e.2.1, e.2.2.1) := by decide +kernel
set_option maxRecDepth 100000 in
theorem dec_163 : ∀ M ∈ [163], ∀ e ∈ mjProg M, decode (mjB M) e.1 = .ok (e.2.1, e.2.2.1) := by decide +kernel
set_option maxRecDepth 100000 in
theorem dec_164 : ∀ M ∈ [164, 165], ∀ e ∈ mjProg M, decode (mjB M) e.1 = .ok (e.2.1, e.2.2.1) := by decide +kernel
set_option maxRecDepth 100000 in
theorem dec_166 : ∀ M ∈ [166], ∀ e ∈ mjProg M, decode (mjB M) e.1 = .ok (e.2.1, e.2.2.1) := by decide +kernel
set_option maxRecDepth 100000 in
theorem dec_167 : ∀ M ∈ [167, 168, 169, 170], ∀ e ∈ mjProg M, decode (mjB M) e.1 = .ok (e.2.1, e.2.2.1) := by decide +kernel
set_option maxRecDepth 100000 in
theorem dec_171 : ∀ M ∈ [171, 172, 173, 174], ∀ e ∈ mjProg M, decode (mjB M) e.1 = .ok (e.2.1, e.2.2.1) := by decide +kernel
set_option maxRecDepth 100000 in
theorem dec_175 : ∀ M ∈ [175, 176], ∀ e ∈ mjProg M, decode (mjB M) e.1 = .ok (e.2.1, e.2.2.1) := by decide +kernel
set_option maxRecDepth 100000 in
theorem dec_177 : ∀ M ∈ [177, 178, 179], ∀ e ∈ mjProg M, decode (mjB M) e.1 = .ok (e.2.1, e.2.2.1) := by decide +kernel
set_option maxRecDepth 100000 in
theorem dec_180 : ∀ M ∈ [180, 181, 182], ∀ e ∈ mjProg M, decode (mjB M) e.1 = .ok (e.2.1, e.2.2.1) := by decide +kernel
set_option maxRecDepth 100000 in
theorem dec_183 : ∀ M ∈ [183, 184], ∀ e ∈ mjProg M, decode (mjB M) e.1 = .ok (e.2.1, e.2.2.1) := by decide +kernel
set_option maxRecDepth 100000 in
theorem dec_185 : ∀ M ∈ [185, 186, 187, 188], ∀ e ∈ mjProg M, decode (mjB M) e.1 = .ok (e.2.1, e.2.2.1) := by decide +kernel
set_option maxRecDepth 100000 in
theorem dec_189 : ∀ M ∈ [189, 190], ∀ e ∈ mjProg M, decode (mjB M) e.1 = .ok (e.2.1, e.2.2.1) := by decide +kernel
set_option maxRecDepth 100000 in
theorem dl_0 : ∀ e ∈ ((mjProg 191)).take 40, decode (mjB 191) e.1 = .ok (e.2.1, e.2.2.1) := by decide +kernel
set_option maxRecDepth 100000 in
theorem dl_1 : ∀ e ∈ ((((mjProg 191)).drop 40)).take 40, decode (mjB 191) e.1 = .ok (e.2.1, e.2.2.1) := by decide +kernel
set_option maxRecDepth 100000 in
theorem dl_2 : ∀ e ∈ ((((((mjProg 191)).drop 40)).drop 40)).take 40, decode (mjB 191) e.1 = .ok (e.2.1, e.2.2.1) := by decide +kernel
set_option maxRecDepth 100000 in
theorem dl_3 : ∀ e ∈ ((((((((mjProg 191)).drop 40)).drop 40)).drop 40)).take 40, decode (mjB 191) e.1 = .ok (e.2.1, e.2.2.1) := by decide +kernel
set_option maxRecDepth 100000 in
theorem dl_4 : ∀ e ∈ ((((((((((mjProg 191)).drop 40)).drop 40)).drop 40)).drop 40)).take 40, decode (mjB 191) e.1 = .ok (e.2.1, e.2.2.1) := by decide +kernel
set_option maxRecDepth 100000 in
theorem dl_5 : ∀ e ∈ ((((((((((((mjProg 191)).drop 40)).drop 40)).drop 40)).drop 40)).drop 40)).take 40, decode (mjB 191) e.1 = .ok (e.2.1, e.2.2.1) := by decide +kernel
set_option maxRecDepth 100000 in
theorem dl_6 : ∀ e ∈ ((((((((((((((mjProg 191)).drop 40)).drop 40)).drop 40)).drop 40)).drop 40)).drop 40)).take 40, decode (mjB 191) e.1 = .ok (e.2.1, e.2.2.1) := by decide +kernel
set_option maxRecDepth 100000 in
theorem dl_7 : ∀ e ∈ ((((((((((((((((mjProg 191)).drop 40)).drop 40)).drop 40)).drop 40)).drop 40)).drop 40)).drop 40)).take 40, decode (mjB 191) e.1 = .ok (e.2.1, e.2.2.1) := by decide +kernel
set_option maxRecDepth 100000 in
theorem dl_8 : ∀ e ∈ ((((((((((((((((((mjProg 191)).drop 40)).drop 40)).drop 40)).drop 40)).drop 40)).drop 40)).drop 40)).drop 40)).take 40, decode (mjB 191) e.1 = .ok (e.2.1, e.2.2.1) := by decide +kernel
set_option maxRecDepth 100000 in
theorem dl_9 : ∀ e ∈ ((((((((((((((((((((mjProg 191)).drop 40)).drop 40)).drop 40)).drop 40)).drop 40)).drop 40)).drop 40)).drop 40)).drop 40)).take 40, decode (mjB 191) e.1 = .ok (e.2.1, e.2.2.1) := by decide +kernel
set_option maxRecDepth 100000 in
theorem dl_10 : ∀ e ∈ ((((((((((((((((((((((mjProg 191)).drop 40)).drop 40)).drop 40)).drop 40)).drop 40)).drop 40)).drop 40)).drop 40)).drop 40)).drop 40)).take 40, decode (mjB 191) e.1 = .ok (e.2.1, e.2.2.1) := by decide +kernel
set_option maxRecDepth 100000 in
theorem dl_11 : ∀ e ∈ ((((((((((((((((((((((((mjProg 191)).drop 40)).drop 40)).drop 40)).drop 40)).drop 40)).drop 40)).drop 40)).drop 40)).drop 40)).drop 40)).drop 40)).take 40, decode (mjB 191) e.1 = .ok (e.2.1, e.2.2.1) := by decide +kernel
set_option maxRecDepth 100000 in
theorem dl_12 : ∀ e ∈ ((((((((((((((((((((((((((mjProg 191)).drop 40)).drop 40)).drop 40)).drop 40)).drop 40)).drop 40)).drop 40)).drop 40)).drop 40)).drop 40)).drop 40)).drop 40)).take 40, decode (mjB 191) e.1 = .ok (e.2.1, e.2.2.1) := by decide +kernel
set_option maxRecDepth 100000 in
theorem dl_13 : ∀ e ∈ ((((((((((((((((((((((((((((mjProg 191)).drop 40)).drop 40)).drop 40)).drop 40)).drop 40)).drop 40)).drop 40)).drop 40)).drop 40)).drop 40)).drop 40)).drop 40)).drop 40)).take 40, decode (mjB 191) e.1 = .ok (e.2.1, e.2.2.1) := by decide +kernel
set_option maxRecDepth 100000 in
theorem dl_14 : ∀ e ∈ ((((((((((((((((((((((((((((((mjProg 191)).drop 40)).drop 40)).drop 40)).drop 40)).drop 40)).drop 40)).drop 40)).drop 40)).drop 40)).drop 40)).drop 40)).drop 40)).drop 40)).drop 40)).take 40, decode (mjB 191) e.1 = .ok (e.2.1, e.2.2.1) := by decide +kernel
set_option maxRecDepth 100000 in
theorem dl_15 : ∀ e ∈ ((((((((((((((((((((((((((((((((mjProg 191)).drop 40)).drop 40)).drop 40)).drop 40)).drop 40)).drop 40)).drop 40)).drop 40)).drop 40)).drop 40)).drop 40)).drop 40)).drop 40)).drop 40)).drop 40)).take 40, decode (mjB 191) e.1 = .ok (e.2.1, e.2.2.1) := by decide +kernel
set_option maxRecDepth 100000 in
theorem dl_16 : ∀ e ∈ ((((((((((((((((((((((((((((((((((mjProg 191)).drop 40)).drop 40)).drop 40)).drop 40)).drop 40)).drop 40)).drop 40)).drop 40)).drop 40)).drop 40)).drop 40)).drop 40)).drop 40)).drop 40)).drop 40)).drop 40)).take 40, decode (mjB 191) e.1 = .ok (e.2.1, e.2.2.1) := by decide +kernel
set_option maxRecDepth 100000 in
theorem dl_17 : ∀ e ∈ ((((((((((((((((((((((((((((((((((((mjProg 191)).drop 40)).drop 40)).drop 40)).drop 40)).drop 40)).drop 40)).drop 40)).drop 40)).drop 40)).drop 40)).drop 40)).drop 40)).drop 40)).drop 40)).drop 40)).drop 40)).drop 40)).take 40, decode (mjB 191) e.1 = .ok (e.2.1, e.2.2.1) := by decide +kernel
set_option maxRecDepth 100000 in
theorem dl_18 : ∀ e ∈ ((((((((((((((((((((((((((((((((((((((mjProg 191)).drop 40)).drop 40)).drop 40)).drop 40)).drop 40)).drop 40)).drop 40)).drop 40)).drop 40)).drop 40)).drop 40)).drop 40)).drop 40)).drop 40)).drop 40)).drop 40)).drop 40)).drop 40)).take 40, decode (mjB 191) e.1 = .ok (e.2.1, e.2.2.1) := by decide +kernel
set_option maxRecDepth 100000 in
theorem dl_19 : ∀ e ∈ (((((((((((((((((((((((((((((((((((((((mjProg 191)).drop 40)).drop 40)).drop 40)).drop 40)).drop 40)).drop 40)).drop 40)).drop 40)).drop 40)).drop 40)).drop 40)).drop 40)).drop 40)).drop 40)).drop 40)).drop 40)).drop 40)).drop 40)).drop 40), decode (mjB 191) e.1 = .ok (e.2.1, e.2.2.1) := by decide +kernel
set_option maxRecDepth 100000 in
theorem dec_191 : ∀ e ∈ mjProg 191, decode (mjB 191) e.1 = .ok (e.2.1, e.2.2.1) := spl 40 dl_0 (spl 40 dl_1 (spl 40 dl_2 (spl 40 dl_3 (spl 40 dl_4 (spl 40 dl_5 (spl 40 dl_6 (spl 40 dl_7 (spl 40 dl_8 (spl 40 dl_9 (spl 40 dl_10 (spl 40 dl_11 (spl 40 dl_12 (spl 40 dl_13 (spl 40 dl_14 (spl 40 dl_15 (spl 40 dl_16 (spl 40 dl_17 (spl 40 dl_18 (dl_19)))))))))))))))))))
theorem decAll : ∀ M, M < NM → ∀ e ∈ mjProg M, decode (mjB M) e.1 = .ok (e.2.1, e.2.2.1) := by
  intro M hM
  have h : M ∈ [0, 1, 2, 3, 4, 5] ++ ([6, 7, 8, 9] ++ ([10, 11, 12, 13, 14] ++ ([15, 16, 17, 18, 19, 20] ++ ([21, 22, 23, 24] ++ ([25, 26, 27, 28, 29, 30, 31, 32] ++ ([33, 34, 35, 36, 37, 38] ++ ([39, 40, 41, 42, 43, 44, 45, 46, 47] ++ ([48, 49, 50, 51, 52] ++ ([53, 54, 55] ++ ([56, 57, 58] ++ ([59, 60, 61] ++ ([62] ++ ([63] ++ ([64, 65, 66] ++ ([67, 68, 69, 70, 71] ++ ([72, 73, 74, 75] ++ ([76, 77, 78] ++ ([79, 80, 81, 82] ++ ([83, 84, 85] ++ ([86, 87, 88] ++ ([89, 90] ++ ([91, 92] ++ ([93, 94, 95, 96, 97] ++ ([98, 99, 100, 101, 102] ++ ([103, 104, 105, 106, 107, 108, 109, 110] ++ ([111, 112, 113, 114, 115, 116, 117, 118] ++ ([119] ++ ([120, 121, 122, 123, 124, 125, 126] ++ ([127, 128, 129] ++ ([130, 131, 132, 133] ++ ([134, 135, 136, 137] ++ ([138, 139, 140, 141, 142] ++ ([143, 144] ++ ([145] ++ ([146, 147, 148] ++ ([149] ++ ([150] ++ ([151, 152, 153] ++ ([154, 155, 156, 157] ++ ([158] ++ ([159] ++ ([160] ++ ([161] ++ ([162] ++ ([163] ++ ([164, 165] ++ ([166] ++ ([167, 168, 169, 170] ++ ([171, 172, 173, 174] ++ ([175, 176] ++ ([177, 178, 179] ++ ([180, 181, 182] ++ ([183, 184] ++ ([185, 186, 187, 188] ++ ([189, 190] ++ ([191])))))))))))))))))))))))))))))))))))))))))))))))))))))))) := by
    have e : [0, 1, 2, 3, 4, 5] ++ ([6, 7, 8, 9] ++ ([10, 11, 12, 13, 14] ++ ([15, 16, 17, 18, 19, 20] ++ ([21, 22, 23, 24] ++ ([25, 26, 27, 28, 29, 30, 31, 32] ++ ([33, 34, 35, 36, 37, 38] ++ ([39, 40, 41, 42, 43, 44, 45, 46, 47] ++ ([48, 49, 50, 51, 52] ++ ([53, 54, 55] ++ ([56, 57, 58] ++ ([59, 60, 61] ++ ([62] ++ ([63] ++ ([64, 65, 66] ++ ([67, 68, 69, 70, 71] ++ ([72, 73, 74, 75] ++ ([76, 77, 78] ++ ([79, 80, 81, 82] ++ ([83, 84, 85] ++ ([86, 87, 88] ++ ([89, 90] ++ ([91, 92] ++ ([93, 94, 95, 96, 97] ++ ([98, 99, 100, 101, 102] ++ ([103, 104, 105, 106, 107, 108, 109, 110] ++ ([111, 112, 113, 114, 115, 116, 117, 118] ++ ([119] ++ ([120, 121, 122, 123, 124, 125, 126] ++ ([127, 128, 129] ++ ([130, 131, 132, 133] ++ ([134, 135, 136, 137] ++ ([138, 139, 140, 141, 142] ++ ([143, 144] ++ ([145] ++ ([146, 147, 148] ++ ([149] ++ ([150] ++ ([151, 152, 153] ++ ([154, 155, 156, 157] ++ ([158] ++ ([159] ++ ([160] ++ ([161] ++ ([162] ++ ([163] ++ ([164, 165] ++ ([166] ++ ([167, 168, 169, 170] ++ ([171, 172, 173, 174] ++ ([175, 176] ++ ([177, 178, 179] ++ ([180, 181, 182] ++ ([183, 184] ++ ([185, 186, 187, 188] ++ ([189, 190] ++ ([191])))))))))))))))))))))))))))))))))))))))))))))))))))))))) = List.range NM := by decide +kernel
    rw [e]
    exact List.mem_range.mpr hM
  rcases List.mem_append.mp h with h | h
  · exact dec_0 M h
  rcases List.mem_append.mp h with h | h
  · exact dec_6 M h
  rcases List.mem_append.mp h with h | h
  · exact dec_10 M h
  rcases List.mem_append.mp h with h | h
  · exact dec_15 M h
  rcases List.mem_append.mp h with h | h
  · exact dec_21 M h
  rcases List.mem_append.mp h with h | h
  · exact dec_25 M h
  rcases List.mem_append.mp h with h | h
  · exact dec_33 M h
  rcases List.mem_append.mp h with h | h
  · exact dec_39 M h
  rcases List.mem_append.mp h with h | h
  · exact dec_48 M h
  rcases List.mem_append.mp h with h | h
  · exact dec_53 M h
  rcases List.mem_append.mp h with h | h
  · exact dec_56 M h
  rcases List.mem_append.mp h with h | h
  · exact dec_59 M h
  rcases List.mem_append.mp h with h | h
  · exact dec_62 M h
  rcases List.mem_append.mp h with h | h
  · exact dec_63 M h
  rcases List.mem_append.mp h with h | h
  · exact dec_64 M h
  rcases List.mem_append.mp h with h | h
  · exact dec_67 M h
  rcases List.mem_append.mp h with h | h
  · exact dec_72 M h
  rcases List.mem_append.mp h with h | h
  · exact dec_76 M h
  rcases List.mem_append.mp h with h | h
  · exact dec_79 M h
  rcases List.mem_append.mp h with h | h
  · exact dec_83 M h
  rcases List.mem_append.mp h with h | h
  · exact dec_86 M h
  rcases List.mem_append.mp h with h | h
  · exact dec_89 M h
  rcases List.mem_append.mp h with h | h
  · exact dec_91 M h
  rcases List.mem_append.mp h with h | h
  · exact dec_93 M h
  rcases List.mem_append.mp h with h | h
  · exact dec_98 M h
  rcases List.mem_append.mp h with h | h
  · exact dec_103 M h
  rcases List.mem_append.mp h with h | h
  · exact dec_111 M h
  rcases List.mem_append.mp h with h | h
  · exact dec_119 M h
  rcases List.mem_append.mp h with h | h
  · exact dec_120 M h
  rcases List.mem_append.mp h with h | h
  · exact dec_127 M h
  rcases List.mem_append.mp h with h | h
  · exact dec_130 M h
  rcases List.mem_append.mp h with h | h
  · exact dec_134 M h
  rcases List.mem_append.mp h with h | h
  · exact dec_138 M h
  rcases List.mem_append.mp h with h | h
  · exact dec_143 M h
  rcases List.mem_append.mp h with h | h
  · exact dec_145 M h
  rcases List.mem_append.mp h with h | h
  · exact dec_146 M h
  rcases List.mem_append.mp h with h | h
  · exact dec_149 M h
  rcases List.mem_append.mp h with h | h
  · exact dec_150 M h
  rcases List.mem_append.mp h with h | h
  · exact dec_151 M h
  rcases List.mem_append.mp h with h | h
  · exact dec_154 M h
  rcases List.mem_append.mp h with h | h
  · exact dec_158 M h
  rcases List.mem_append.mp h with h | h
  · exact dec_159 M h
  rcases List.mem_append.mp h with h | h
  · exact dec_160 M h
  rcases List.mem_append.mp h with h | h
  · exact dec_161 M h
  rcases List.mem_append.mp h with h | h
  · exact dec_162 M h
  rcases List.mem_append.mp h with h | h
  · exact dec_163 M h
  rcases List.mem_append.mp h with h | h
  · exact dec_164 M h
  rcases List.mem_append.mp h with h | h
  · exact dec_166 M h
  rcases List.mem_append.mp h with h | h
  · exact dec_167 M h
  rcases List.mem_append.mp h with h | h
  · exact dec_171 M h
  rcases List.mem_append.mp h with h | h
  · exact dec_175 M h
  rcases List.mem_append.mp h with h | h
  · exact dec_177 M h
  rcases List.mem_append.mp h with h | h
  · exact dec_180 M h
  rcases List.mem_append.mp h with h | h
  · exact dec_183 M h
  rcases List.mem_append.mp h with h | h
  · exact dec_185 M h
  rcases List.mem_append.mp h with h | h
  · exact dec_189 M h
  rw [List.mem_singleton.mp h]
  exact dec_191
