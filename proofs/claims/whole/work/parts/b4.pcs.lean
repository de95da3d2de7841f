/-! the steps, entry by entry -/
set_option maxRecDepth 20000 in
theorem k191_0 : mjCode 191 0 = some (.new 7, 3, 6, 0) := by decide +kernel
theorem p191_0 {q0 q1 q2 q3 : MV} {ds : Ds} {m : Mm} {Q : Ds → Mm → List MV → Prop} : WP 191 0 [q0, q1, q2, q3] [] ds m Q = (WP 191 3 [q0, q1, q2, q3] [(2, (ds.length : Int))] (ds ++ [(6, 16)]) (al m (ds.length : Int) (dfl 6)) Q) := P_nx k191_0 rfl
set_option maxRecDepth 20000 in
theorem k191_3 : mjCode 191 3 = some (.dup, 1, 0, 0) := by decide +kernel
theorem p191_3 {s0 : Int} {q0 q1 q2 q3 : MV} {ds : Ds} {m : Mm} {Q : Ds → Mm → List MV → Prop} : WP 191 3 [q0, q1, q2, q3] [(2, s0)] ds m Q = (WP 191 4 [q0, q1, q2, q3] [(2, s0), (2, s0)] ds m Q) := P_nx k191_3 rfl
set_option maxRecDepth 20000 in
theorem k191_4 : mjCode 191 4 = some (.invokespecial 9, 3, 66, 1) := by decide +kernel
theorem p191_4 {s0 s1 : Int} {q0 q1 q2 q3 : MV} {ds : Ds} {m : Mm} {Q : Ds → Mm → List MV → Prop} : WP 191 4 [q0, q1, q2, q3] [(2, s0), (2, s1)] ds m Q = ((dk ds s0 = 6 ∧ WP 65 0 [(2, s0), (3, 0), (3, 0), (3, 0)] [] ds m (fun d2 m2 r2 => WP 191 7 [q0, q1, q2, q3] (r2 ++ [(2, s1)]) d2 m2 Q))) := P_cv k191_4 mx65 mo65 rfl rfl rfl rfl rfl rfl rfl rfl
set_option maxRecDepth 20000 in
theorem k191_7 : mjCode 191 7 = some (.astore_n 1, 1, 0, 0) := by decide +kernel
theorem p191_7 {l0 s0 : Int} {q1 q2 q3 : MV} {ds : Ds} {m : Mm} {Q : Ds → Mm → List MV → Prop} : WP 191 7 [(4, l0), q1, q2, q3] [(2, s0)] ds m Q = (WP 191 8 [(4, l0), (2, s0), q2, q3] [] ds m Q) := P_nx k191_7 rfl
set_option maxRecDepth 20000 in
theorem k191_8 : mjCode 191 8 = some (.new 10, 3, 7, 0) := by decide +kernel
theorem p191_8 {q0 q1 q2 q3 : MV} {ds : Ds} {m : Mm} {Q : Ds → Mm → List MV → Prop} : WP 191 8 [q0, q1, q2, q3] [] ds m Q = (WP 191 11 [q0, q1, q2, q3] [(2, (ds.length : Int))] (ds ++ [(7, 53)]) (al m (ds.length : Int) (dfl 7)) Q) := P_nx k191_8 rfl
set_option maxRecDepth 20000 in
theorem k191_11 : mjCode 191 11 = some (.dup, 1, 0, 0) := by decide +kernel
theorem p191_11 {s0 : Int} {q0 q1 q2 q3 : MV} {ds : Ds} {m : Mm} {Q : Ds → Mm → List MV → Prop} : WP 191 11 [q0, q1, q2, q3] [(2, s0)] ds m Q = (WP 191 12 [q0, q1, q2, q3] [(2, s0), (2, s0)] ds m Q) := P_nx k191_11 rfl
set_option maxRecDepth 20000 in
theorem k191_12 : mjCode 191 12 = some (.invokespecial 12, 3, 120, 1) := by decide +kernel
theorem p191_12 {s0 s1 : Int} {q0 q1 q2 q3 : MV} {ds : Ds} {m : Mm} {Q : Ds → Mm → List MV → Prop} : WP 191 12 [q0, q1, q2, q3] [(2, s0), (2, s1)] ds m Q = ((dk ds s0 = 7 ∧ WP 119 0 [(2, s0)] [] ds m (fun d2 m2 r2 => WP 191 15 [q0, q1, q2, q3] (r2 ++ [(2, s1)]) d2 m2 Q))) := P_cv k191_12 mx119 mo119 rfl rfl rfl rfl rfl rfl rfl rfl
set_option maxRecDepth 20000 in
theorem k191_15 : mjCode 191 15 = some (.astore_n 2, 1, 0, 0) := by decide +kernel
theorem p191_15 {l1 s0 : Int} {q0 q2 q3 : MV} {ds : Ds} {m : Mm} {Q : Ds → Mm → List MV → Prop} : WP 191 15 [q0, (2, l1), q2, q3] [(2, s0)] ds m Q = (WP 191 16 [q0, (2, l1), (2, s0), q3] [] ds m Q) := P_nx k191_15 rfl
set_option maxRecDepth 20000 in
theorem k191_16 : mjCode 191 16 = some (.iconst 0, 1, 0, 0) := by decide +kernel
theorem p191_16 {q0 q1 q2 q3 : MV} {ds : Ds} {m : Mm} {Q : Ds → Mm → List MV → Prop} : WP 191 16 [q0, q1, q2, q3] [] ds m Q = (WP 191 17 [q0, q1, q2, q3] [(0, 0)] ds m Q) := P_nx k191_16 rfl
set_option maxRecDepth 20000 in
theorem k191_17 : mjCode 191 17 = some (.istore_n 3, 1, 0, 0) := by decide +kernel
theorem p191_17 {l2 s0 : Int} {q0 q1 q3 : MV} {ds : Ds} {m : Mm} {Q : Ds → Mm → List MV → Prop} : WP 191 17 [q0, q1, (2, l2), q3] [(0, s0)] ds m Q = (WP 191 18 [q0, q1, (2, l2), (0, s0)] [] ds m Q) := P_nx k191_17 rfl
set_option maxRecDepth 20000 in
theorem k191_18 : mjCode 191 18 = some (.iload_n 3, 1, 0, 0) := by decide +kernel
theorem p191_18 {l3 : Int} {q0 q1 q2 : MV} {ds : Ds} {m : Mm} {Q : Ds → Mm → List MV → Prop} : WP 191 18 [q0, q1, q2, (0, l3)] [] ds m Q = (WP 191 19 [q0, q1, q2, (0, l3)] [(0, l3)] ds m Q) := P_nx k191_18 rfl
set_option maxRecDepth 20000 in
theorem k191_19 : mjCode 191 19 = some (.aload_n 0, 1, 0, 0) := by decide +kernel
theorem p191_19 {l0 s0 : Int} {q1 q2 q3 : MV} {ds : Ds} {m : Mm} {Q : Ds → Mm → List MV → Prop} : WP 191 19 [(4, l0), q1, q2, q3] [(0, s0)] ds m Q = (WP 191 20 [(4, l0), q1, q2, q3] [(4, l0), (0, s0)] ds m Q) := P_nx k191_19 rfl
set_option maxRecDepth 20000 in
theorem k191_20 : mjCode 191 20 = some (.arraylength, 1, 0, 0) := by decide +kernel
theorem p191_20 {s0 s1 : Int} {q0 q1 q2 q3 : MV} {ds : Ds} {m : Mm} {Q : Ds → Mm → List MV → Prop} : WP 191 20 [q0, q1, q2, q3] [(4, s0), (0, s1)] ds m Q = (WP 191 21 [q0, q1, q2, q3] [(0, m (-3) 0), (0, s1)] ds m Q) := P_nx k191_20 rfl
set_option maxRecDepth 20000 in
theorem k191_21 : mjCode 191 21 = some (.bipush 6, 2, 0, 0) := by decide +kernel
theorem p191_21 {s0 s1 : Int} {q0 q1 q2 q3 : MV} {ds : Ds} {m : Mm} {Q : Ds → Mm → List MV → Prop} : WP 191 21 [q0, q1, q2, q3] [(0, s0), (0, s1)] ds m Q = (WP 191 23 [q0, q1, q2, q3] [(0, 6), (0, s0), (0, s1)] ds m Q) := P_nx k191_21 rfl
set_option maxRecDepth 20000 in
theorem k191_23 : mjCode 191 23 = some (.isub, 1, 0, 0) := by decide +kernel
theorem p191_23 {s0 s1 s2 : Int} {q0 q1 q2 q3 : MV} {ds : Ds} {m : Mm} {Q : Ds → Mm → List MV → Prop} : WP 191 23 [q0, q1, q2, q3] [(0, s0), (0, s1), (0, s2)] ds m Q = (WP 191 24 [q0, q1, q2, q3] [(0, w32 (s1 - s0)), (0, s2)] ds m Q) := P_nx k191_23 rfl
set_option maxRecDepth 20000 in
theorem k191_24 : mjCode 191 24 = some (.if_icmp .gt 1084, 3, 1108, 0) := by decide +kernel
theorem p191_24 {s0 s1 : Int} {q0 q1 q2 q3 : MV} {ds : Ds} {m : Mm} {Q : Ds → Mm → List MV → Prop} : WP 191 24 [q0, q1, q2, q3] [(0, s0), (0, s1)] ds m Q = (if s0 < s1 then WP 191 1108 [q0, q1, q2, q3] [] ds m Q else WP 191 27 [q0, q1, q2, q3] [] ds m Q) := P_if k191_24 rfl
set_option maxRecDepth 20000 in
theorem k191_27 : mjCode 191 27 = some (.aload_n 0, 1, 0, 0) := by decide +kernel
theorem p191_27 {l0 : Int} {q1 q2 q3 : MV} {ds : Ds} {m : Mm} {Q : Ds → Mm → List MV → Prop} : WP 191 27 [(4, l0), q1, q2, q3] [] ds m Q = (WP 191 28 [(4, l0), q1, q2, q3] [(4, l0)] ds m Q) := P_nx k191_27 rfl
set_option maxRecDepth 20000 in
theorem k191_28 : mjCode 191 28 = some (.iload_n 3, 1, 0, 0) := by decide +kernel
theorem p191_28 {l3 s0 : Int} {q0 q1 q2 : MV} {ds : Ds} {m : Mm} {Q : Ds → Mm → List MV → Prop} : WP 191 28 [q0, q1, q2, (0, l3)] [(4, s0)] ds m Q = (WP 191 29 [q0, q1, q2, (0, l3)] [(0, l3), (4, s0)] ds m Q) := P_nx k191_28 rfl
set_option maxRecDepth 20000 in
theorem k191_29 : mjCode 191 29 = some (.iaload, 1, 0, 0) := by decide +kernel
theorem p191_29 {s0 s1 : Int} {q0 q1 q2 q3 : MV} {ds : Ds} {m : Mm} {Q : Ds → Mm → List MV → Prop} : WP 191 29 [q0, q1, q2, q3] [(0, s0), (4, s1)] ds m Q = ((0 ≤ s0 ∧ s0 < m (-3) 0 ∧ WP 191 30 [q0, q1, q2, q3] [(0, m (-2) s0)] ds m Q)) := P_sc k191_29 rfl
set_option maxRecDepth 20000 in
theorem k191_30 : mjCode 191 30 = some (.bipush 31, 2, 0, 0) := by decide +kernel
theorem p191_30 {s0 : Int} {q0 q1 q2 q3 : MV} {ds : Ds} {m : Mm} {Q : Ds → Mm → List MV → Prop} : WP 191 30 [q0, q1, q2, q3] [(0, s0)] ds m Q = (WP 191 32 [q0, q1, q2, q3] [(0, 31), (0, s0)] ds m Q) := P_nx k191_30 rfl
set_option maxRecDepth 20000 in
theorem k191_32 : mjCode 191 32 = some (.iand, 1, 0, 0) := by decide +kernel
theorem p191_32 {s0 s1 : Int} {q0 q1 q2 q3 : MV} {ds : Ds} {m : Mm} {Q : Ds → Mm → List MV → Prop} : WP 191 32 [q0, q1, q2, q3] [(0, s0), (0, s1)] ds m Q = (WP 191 33 [q0, q1, q2, q3] [(0, jand s1 s0)] ds m Q) := P_nx k191_32 rfl
set_option maxRecDepth 20000 in
theorem k191_33 : mjCode 191 33 = some (.tableswitch 1069 0 28 #[131, 184, 237, 260, 283, 326, 339, 382, 455, 518, 552, 575, 598, 621, 644, 677, 690, 713, 746, 779, 812, 845, 878, 901, 944, 967, 1000, 1023, 1046], 131, 0, 0) := by decide +kernel
theorem p191_33 {s0 : Int} {q0 q1 q2 q3 : MV} {ds : Ds} {m : Mm} {Q : Ds → Mm → List MV → Prop} : WP 191 33 [q0, q1, q2, q3] [(0, s0)] ds m Q = (if s0 = 0 then WP 191 164 [q0, q1, q2, q3] [] ds m Q else if s0 = 1 then WP 191 217 [q0, q1, q2, q3] [] ds m Q else if s0 = 2 then WP 191 270 [q0, q1, q2, q3] [] ds m Q else if s0 = 3 then WP 191 293 [q0, q1, q2, q3] [] ds m Q else if s0 = 4 then WP 191 316 [q0, q1, q2, q3] [] ds m Q else if s0 = 5 then WP 191 359 [q0, q1, q2, q3] [] ds m Q else if s0 = 6 then WP 191 372 [q0, q1, q2, q3] [] ds m Q else if s0 = 7 then WP 191 415 [q0, q1, q2, q3] [] ds m Q else if s0 = 8 then WP 191 488 [q0, q1, q2, q3] [] ds m Q else if s0 = 9 then WP 191 551 [q0, q1, q2, q3] [] ds m Q else if s0 = 10 then WP 191 585 [q0, q1, q2, q3] [] ds m Q else if s0 = 11 then WP 191 608 [q0, q1, q2, q3] [] ds m Q else if s0 = 12 then WP 191 631 [q0, q1, q2, q3] [] ds m Q else if s0 = 13 then WP 191 654 [q0, q1, q2, q3] [] ds m Q else if s0 = 14 then WP 191 677 [q0, q1, q2, q3] [] ds m Q else if s0 = 15 then WP 191 710 [q0, q1, q2, q3] [] ds m Q else if s0 = 16 then WP 191 723 [q0, q1, q2, q3] [] ds m Q else if s0 = 17 then WP 191 746 [q0, q1, q2, q3] [] ds m Q else if s0 = 18 then WP 191 779 [q0, q1, q2, q3] [] ds m Q else if s0 = 19 then WP 191 812 [q0, q1, q2, q3] [] ds m Q else if s0 = 20 then WP 191 845 [q0, q1, q2, q3] [] ds m Q else if s0 = 21 then WP 191 878 [q0, q1, q2, q3] [] ds m Q else if s0 = 22 then WP 191 911 [q0, q1, q2, q3] [] ds m Q else if s0 = 23 then WP 191 934 [q0, q1, q2, q3] [] ds m Q else if s0 = 24 then WP 191 977 [q0, q1, q2, q3] [] ds m Q else if s0 = 25 then WP 191 1000 [q0, q1, q2, q3] [] ds m Q else if s0 = 26 then WP 191 1033 [q0, q1, q2, q3] [] ds m Q else if s0 = 27 then WP 191 1056 [q0, q1, q2, q3] [] ds m Q else if s0 = 28 then WP 191 1079 [q0, q1, q2, q3] [] ds m Q else WP 191 1102 [q0, q1, q2, q3] [] ds m Q) := by
  by_cases h0 : s0 = 0
  · subst h0
    rw [if_pos rfl]
    exact P_nx k191_33 rfl
  rw [if_neg h0]
  by_cases h1 : s0 = 1
  · subst h1
    rw [if_pos rfl]
    exact P_nx k191_33 rfl
  rw [if_neg h1]
  by_cases h2 : s0 = 2
  · subst h2
    rw [if_pos rfl]
    exact P_nx k191_33 rfl
  rw [if_neg h2]
  by_cases h3 : s0 = 3
  · subst h3
    rw [if_pos rfl]
    exact P_nx k191_33 rfl
  rw [if_neg h3]
  by_cases h4 : s0 = 4
  · subst h4
    rw [if_pos rfl]
    exact P_nx k191_33 rfl
  rw [if_neg h4]
  by_cases h5 : s0 = 5
  · subst h5
    rw [if_pos rfl]
    exact P_nx k191_33 rfl
  rw [if_neg h5]
  by_cases h6 : s0 = 6
  · subst h6
    rw [if_pos rfl]
    exact P_nx k191_33 rfl
  rw [if_neg h6]
  by_cases h7 : s0 = 7
  · subst h7
    rw [if_pos rfl]
    exact P_nx k191_33 rfl
  rw [if_neg h7]
  by_cases h8 : s0 = 8
  · subst h8
    rw [if_pos rfl]
    exact P_nx k191_33 rfl
  rw [if_neg h8]
  by_cases h9 : s0 = 9
  · subst h9
    rw [if_pos rfl]
    exact P_nx k191_33 rfl
  rw [if_neg h9]
  by_cases h10 : s0 = 10
  · subst h10
    rw [if_pos rfl]
    exact P_nx k191_33 rfl
  rw [if_neg h10]
  by_cases h11 : s0 = 11
  · subst h11
    rw [if_pos rfl]
    exact P_nx k191_33 rfl
  rw [if_neg h11]
  by_cases h12 : s0 = 12
  · subst h12
    rw [if_pos rfl]
    exact P_nx k191_33 rfl
  rw [if_neg h12]
  by_cases h13 : s0 = 13
  · subst h13
    rw [if_pos rfl]
    exact P_nx k191_33 rfl
  rw [if_neg h13]
  by_cases h14 : s0 = 14
  · subst h14
    rw [if_pos rfl]
    exact P_nx k191_33 rfl
  rw [if_neg h14]
  by_cases h15 : s0 = 15
  · subst h15
    rw [if_pos rfl]
    exact P_nx k191_33 rfl
  rw [if_neg h15]
  by_cases h16 : s0 = 16
  · subst h16
    rw [if_pos rfl]
    exact P_nx k191_33 rfl
  rw [if_neg h16]
  by_cases h17 : s0 = 17
  · subst h17
    rw [if_pos rfl]
    exact P_nx k191_33 rfl
  rw [if_neg h17]
  by_cases h18 : s0 = 18
  · subst h18
    rw [if_pos rfl]
    exact P_nx k191_33 rfl
  rw [if_neg h18]
  by_cases h19 : s0 = 19
  · subst h19
    rw [if_pos rfl]
    exact P_nx k191_33 rfl
  rw [if_neg h19]
  by_cases h20 : s0 = 20
  · subst h20
    rw [if_pos rfl]
    exact P_nx k191_33 rfl
  rw [if_neg h20]
  by_cases h21 : s0 = 21
  · subst h21
    rw [if_pos rfl]
    exact P_nx k191_33 rfl
  rw [if_neg h21]
  by_cases h22 : s0 = 22
  · subst h22
    rw [if_pos rfl]
    exact P_nx k191_33 rfl
  rw [if_neg h22]
  by_cases h23 : s0 = 23
  · subst h23
    rw [if_pos rfl]
    exact P_nx k191_33 rfl
  rw [if_neg h23]
  by_cases h24 : s0 = 24
  · subst h24
    rw [if_pos rfl]
    exact P_nx k191_33 rfl
  rw [if_neg h24]
  by_cases h25 : s0 = 25
  · subst h25
    rw [if_pos rfl]
    exact P_nx k191_33 rfl
  rw [if_neg h25]
  by_cases h26 : s0 = 26
  · subst h26
    rw [if_pos rfl]
    exact P_nx k191_33 rfl
  rw [if_neg h26]
  by_cases h27 : s0 = 27
  · subst h27
    rw [if_pos rfl]
    exact P_nx k191_33 rfl
  rw [if_neg h27]
  by_cases h28 : s0 = 28
  · subst h28
    rw [if_pos rfl]
    exact P_nx k191_33 rfl
  rw [if_neg h28]
  exact P_nx k191_33 (by simp only [stpI]; rw [if_pos (by omega)]; rfl)
set_option maxRecDepth 20000 in
theorem k191_164 : mjCode 191 164 = some (.aload_n 1, 1, 0, 0) := by decide +kernel
theorem p191_164 {l1 : Int} {q0 q2 q3 : MV} {ds : Ds} {m : Mm} {Q : Ds → Mm → List MV → Prop} : WP 191 164 [q0, (2, l1), q2, q3] [] ds m Q = (WP 191 165 [q0, (2, l1), q2, q3] [(2, l1)] ds m Q) := P_nx k191_164 rfl
set_option maxRecDepth 20000 in
theorem k191_165 : mjCode 191 165 = some (.aload_n 0, 1, 0, 0) := by decide +kernel
theorem p191_165 {l0 s0 : Int} {q1 q2 q3 : MV} {ds : Ds} {m : Mm} {Q : Ds → Mm → List MV → Prop} : WP 191 165 [(4, l0), q1, q2, q3] [(2, s0)] ds m Q = (WP 191 166 [(4, l0), q1, q2, q3] [(4, l0), (2, s0)] ds m Q) := P_nx k191_165 rfl
set_option maxRecDepth 20000 in
theorem k191_166 : mjCode 191 166 = some (.iload_n 3, 1, 0, 0) := by decide +kernel
theorem p191_166 {l3 s0 s1 : Int} {q0 q1 q2 : MV} {ds : Ds} {m : Mm} {Q : Ds → Mm → List MV → Prop} : WP 191 166 [q0, q1, q2, (0, l3)] [(4, s0), (2, s1)] ds m Q = (WP 191 167 [q0, q1, q2, (0, l3)] [(0, l3), (4, s0), (2, s1)] ds m Q) := P_nx k191_166 rfl
set_option maxRecDepth 20000 in
theorem k191_167 : mjCode 191 167 = some (.iconst 1, 1, 0, 0) := by decide +kernel
theorem p191_167 {s0 s1 s2 : Int} {q0 q1 q2 q3 : MV} {ds : Ds} {m : Mm} {Q : Ds → Mm → List MV → Prop} : WP 191 167 [q0, q1, q2, q3] [(0, s0), (4, s1), (2, s2)] ds m Q = (WP 191 168 [q0, q1, q2, q3] [(0, 1), (0, s0), (4, s1), (2, s2)] ds m Q) := P_nx k191_167 rfl
set_option maxRecDepth 20000 in
theorem k191_168 : mjCode 191 168 = some (.iadd, 1, 0, 0) := by decide +kernel
theorem p191_168 {s0 s1 s2 s3 : Int} {q0 q1 q2 q3 : MV} {ds : Ds} {m : Mm} {Q : Ds → Mm → List MV → Prop} : WP 191 168 [q0, q1, q2, q3] [(0, s0), (0, s1), (4, s2), (2, s3)] ds m Q = (WP 191 169 [q0, q1, q2, q3] [(0, w32 (s1 + s0)), (4, s2), (2, s3)] ds m Q) := P_nx k191_168 rfl
set_option maxRecDepth 20000 in
theorem k191_169 : mjCode 191 169 = some (.iaload, 1, 0, 0) := by decide +kernel
theorem p191_169 {s0 s1 s2 : Int} {q0 q1 q2 q3 : MV} {ds : Ds} {m : Mm} {Q : Ds → Mm → List MV → Prop} : WP 191 169 [q0, q1, q2, q3] [(0, s0), (4, s1), (2, s2)] ds m Q = ((0 ≤ s0 ∧ s0 < m (-3) 0 ∧ WP 191 170 [q0, q1, q2, q3] [(0, m (-2) s0), (2, s2)] ds m Q)) := P_sc k191_169 rfl
set_option maxRecDepth 20000 in
theorem k191_170 : mjCode 191 170 = some (.aload_n 0, 1, 0, 0) := by decide +kernel
theorem p191_170 {l0 s0 s1 : Int} {q1 q2 q3 : MV} {ds : Ds} {m : Mm} {Q : Ds → Mm → List MV → Prop} : WP 191 170 [(4, l0), q1, q2, q3] [(0, s0), (2, s1)] ds m Q = (WP 191 171 [(4, l0), q1, q2, q3] [(4, l0), (0, s0), (2, s1)] ds m Q) := P_nx k191_170 rfl
set_option maxRecDepth 20000 in
theorem k191_171 : mjCode 191 171 = some (.iload_n 3, 1, 0, 0) := by decide +kernel
theorem p191_171 {l3 s0 s1 s2 : Int} {q0 q1 q2 : MV} {ds : Ds} {m : Mm} {Q : Ds → Mm → List MV → Prop} : WP 191 171 [q0, q1, q2, (0, l3)] [(4, s0), (0, s1), (2, s2)] ds m Q = (WP 191 172 [q0, q1, q2, (0, l3)] [(0, l3), (4, s0), (0, s1), (2, s2)] ds m Q) := P_nx k191_171 rfl
set_option maxRecDepth 20000 in
theorem k191_172 : mjCode 191 172 = some (.iconst 2, 1, 0, 0) := by decide +kernel
theorem p191_172 {s0 s1 s2 s3 : Int} {q0 q1 q2 q3 : MV} {ds : Ds} {m : Mm} {Q : Ds → Mm → List MV → Prop} : WP 191 172 [q0, q1, q2, q3] [(0, s0), (4, s1), (0, s2), (2, s3)] ds m Q = (WP 191 173 [q0, q1, q2, q3] [(0, 2), (0, s0), (4, s1), (0, s2), (2, s3)] ds m Q) := P_nx k191_172 rfl
set_option maxRecDepth 20000 in
theorem k191_173 : mjCode 191 173 = some (.iadd, 1, 0, 0) := by decide +kernel
theorem p191_173 {s0 s1 s2 s3 s4 : Int} {q0 q1 q2 q3 : MV} {ds : Ds} {m : Mm} {Q : Ds → Mm → List MV → Prop} : WP 191 173 [q0, q1, q2, q3] [(0, s0), (0, s1), (4, s2), (0, s3), (2, s4)] ds m Q = (WP 191 174 [q0, q1, q2, q3] [(0, w32 (s1 + s0)), (4, s2), (0, s3), (2, s4)] ds m Q) := P_nx k191_173 rfl
set_option maxRecDepth 20000 in
theorem k191_174 : mjCode 191 174 = some (.iaload, 1, 0, 0) := by decide +kernel
theorem p191_174 {s0 s1 s2 s3 : Int} {q0 q1 q2 q3 : MV} {ds : Ds} {m : Mm} {Q : Ds → Mm → List MV → Prop} : WP 191 174 [q0, q1, q2, q3] [(0, s0), (4, s1), (0, s2), (2, s3)] ds m Q = ((0 ≤ s0 ∧ s0 < m (-3) 0 ∧ WP 191 175 [q0, q1, q2, q3] [(0, m (-2) s0), (0, s2), (2, s3)] ds m Q)) := P_sc k191_174 rfl
set_option maxRecDepth 20000 in
theorem k191_175 : mjCode 191 175 = some (.aload_n 0, 1, 0, 0) := by decide +kernel
theorem p191_175 {l0 s0 s1 s2 : Int} {q1 q2 q3 : MV} {ds : Ds} {m : Mm} {Q : Ds → Mm → List MV → Prop} : WP 191 175 [(4, l0), q1, q2, q3] [(0, s0), (0, s1), (2, s2)] ds m Q = (WP 191 176 [(4, l0), q1, q2, q3] [(4, l0), (0, s0), (0, s1), (2, s2)] ds m Q) := P_nx k191_175 rfl
set_option maxRecDepth 20000 in
theorem k191_176 : mjCode 191 176 = some (.iload_n 3, 1, 0, 0) := by decide +kernel
theorem p191_176 {l3 s0 s1 s2 s3 : Int} {q0 q1 q2 : MV} {ds : Ds} {m : Mm} {Q : Ds → Mm → List MV → Prop} : WP 191 176 [q0, q1, q2, (0, l3)] [(4, s0), (0, s1), (0, s2), (2, s3)] ds m Q = (WP 191 177 [q0, q1, q2, (0, l3)] [(0, l3), (4, s0), (0, s1), (0, s2), (2, s3)] ds m Q) := P_nx k191_176 rfl
set_option maxRecDepth 20000 in
theorem k191_177 : mjCode 191 177 = some (.iconst 3, 1, 0, 0) := by decide +kernel
theorem p191_177 {s0 s1 s2 s3 s4 : Int} {q0 q1 q2 q3 : MV} {ds : Ds} {m : Mm} {Q : Ds → Mm → List MV → Prop} : WP 191 177 [q0, q1, q2, q3] [(0, s0), (4, s1), (0, s2), (0, s3), (2, s4)] ds m Q = (WP 191 178 [q0, q1, q2, q3] [(0, 3), (0, s0), (4, s1), (0, s2), (0, s3), (2, s4)] ds m Q) := P_nx k191_177 rfl
set_option maxRecDepth 20000 in
theorem k191_178 : mjCode 191 178 = some (.iadd, 1, 0, 0) := by decide +kernel
theorem p191_178 {s0 s1 s2 s3 s4 s5 : Int} {q0 q1 q2 q3 : MV} {ds : Ds} {m : Mm} {Q : Ds → Mm → List MV → Prop} : WP 191 178 [q0, q1, q2, q3] [(0, s0), (0, s1), (4, s2), (0, s3), (0, s4), (2, s5)] ds m Q = (WP 191 179 [q0, q1, q2, q3] [(0, w32 (s1 + s0)), (4, s2), (0, s3), (0, s4), (2, s5)] ds m Q) := P_nx k191_178 rfl
set_option maxRecDepth 20000 in
theorem k191_179 : mjCode 191 179 = some (.iaload, 1, 0, 0) := by decide +kernel
theorem p191_179 {s0 s1 s2 s3 s4 : Int} {q0 q1 q2 q3 : MV} {ds : Ds} {m : Mm} {Q : Ds → Mm → List MV → Prop} : WP 191 179 [q0, q1, q2, q3] [(0, s0), (4, s1), (0, s2), (0, s3), (2, s4)] ds m Q = ((0 ≤ s0 ∧ s0 < m (-3) 0 ∧ WP 191 180 [q0, q1, q2, q3] [(0, m (-2) s0), (0, s2), (0, s3), (2, s4)] ds m Q)) := P_sc k191_179 rfl
set_option maxRecDepth 20000 in
theorem k191_180 : mjCode 191 180 = some (.aload_n 0, 1, 0, 0) := by decide +kernel
theorem p191_180 {l0 s0 s1 s2 s3 : Int} {q1 q2 q3 : MV} {ds : Ds} {m : Mm} {Q : Ds → Mm → List MV → Prop} : WP 191 180 [(4, l0), q1, q2, q3] [(0, s0), (0, s1), (0, s2), (2, s3)] ds m Q = (WP 191 181 [(4, l0), q1, q2, q3] [(4, l0), (0, s0), (0, s1), (0, s2), (2, s3)] ds m Q) := P_nx k191_180 rfl
set_option maxRecDepth 20000 in
theorem k191_181 : mjCode 191 181 = some (.iload_n 3, 1, 0, 0) := by decide +kernel
theorem p191_181 {l3 s0 s1 s2 s3 s4 : Int} {q0 q1 q2 : MV} {ds : Ds} {m : Mm} {Q : Ds → Mm → List MV → Prop} : WP 191 181 [q0, q1, q2, (0, l3)] [(4, s0), (0, s1), (0, s2), (0, s3), (2, s4)] ds m Q = (WP 191 182 [q0, q1, q2, (0, l3)] [(0, l3), (4, s0), (0, s1), (0, s2), (0, s3), (2, s4)] ds m Q) := P_nx k191_181 rfl
set_option maxRecDepth 20000 in
theorem k191_182 : mjCode 191 182 = some (.iconst 4, 1, 0, 0) := by decide +kernel
theorem p191_182 {s0 s1 s2 s3 s4 s5 : Int} {q0 q1 q2 q3 : MV} {ds : Ds} {m : Mm} {Q : Ds → Mm → List MV → Prop} : WP 191 182 [q0, q1, q2, q3] [(0, s0), (4, s1), (0, s2), (0, s3), (0, s4), (2, s5)] ds m Q = (WP 191 183 [q0, q1, q2, q3] [(0, 4), (0, s0), (4, s1), (0, s2), (0, s3), (0, s4), (2, s5)] ds m Q) := P_nx k191_182 rfl
set_option maxRecDepth 20000 in
theorem k191_183 : mjCode 191 183 = some (.iadd, 1, 0, 0) := by decide +kernel
theorem p191_183 {s0 s1 s2 s3 s4 s5 s6 : Int} {q0 q1 q2 q3 : MV} {ds : Ds} {m : Mm} {Q : Ds → Mm → List MV → Prop} : WP 191 183 [q0, q1, q2, q3] [(0, s0), (0, s1), (4, s2), (0, s3), (0, s4), (0, s5), (2, s6)] ds m Q = (WP 191 184 [q0, q1, q2, q3] [(0, w32 (s1 + s0)), (4, s2), (0, s3), (0, s4), (0, s5), (2, s6)] ds m Q) := P_nx k191_183 rfl
set_option maxRecDepth 20000 in
theorem k191_184 : mjCode 191 184 = some (.iaload, 1, 0, 0) := by decide +kernel
theorem p191_184 {s0 s1 s2 s3 s4 s5 : Int} {q0 q1 q2 q3 : MV} {ds : Ds} {m : Mm} {Q : Ds → Mm → List MV → Prop} : WP 191 184 [q0, q1, q2, q3] [(0, s0), (4, s1), (0, s2), (0, s3), (0, s4), (2, s5)] ds m Q = ((0 ≤ s0 ∧ s0 < m (-3) 0 ∧ WP 191 185 [q0, q1, q2, q3] [(0, m (-2) s0), (0, s2), (0, s3), (0, s4), (2, s5)] ds m Q)) := P_sc k191_184 rfl
set_option maxRecDepth 20000 in
theorem k191_185 : mjCode 191 185 = some (.invokevirtual 13, 3, 67, 5) := by decide +kernel
theorem p191_185 {s0 s1 s2 s3 s4 : Int} {q0 q1 q2 q3 : MV} {ds : Ds} {m : Mm} {Q : Ds → Mm → List MV → Prop} : WP 191 185 [q0, q1, q2, q3] [(0, s0), (0, s1), (0, s2), (0, s3), (2, s4)] ds m Q = ((dk ds s4 = 6 ∧ WP 66 0 [(2, s4), (0, s3), (0, s2), (0, s1), (0, s0)] [] ds m (fun d2 m2 r2 => WP 191 188 [q0, q1, q2, q3] (r2 ++ []) d2 m2 Q))) := P_cv k191_185 mx66 mo66 rfl rfl rfl rfl rfl rfl rfl rfl
set_option maxRecDepth 20000 in
theorem k191_188 : mjCode 191 188 = some (.aload_n 2, 1, 0, 0) := by decide +kernel
theorem p191_188 {l2 s0 : Int} {q0 q1 q3 : MV} {ds : Ds} {m : Mm} {Q : Ds → Mm → List MV → Prop} : WP 191 188 [q0, q1, (2, l2), q3] [(0, s0)] ds m Q = (WP 191 189 [q0, q1, (2, l2), q3] [(2, l2), (0, s0)] ds m Q) := P_nx k191_188 rfl
set_option maxRecDepth 20000 in
theorem k191_189 : mjCode 191 189 = some (.aload_n 0, 1, 0, 0) := by decide +kernel
theorem p191_189 {l0 s0 s1 : Int} {q1 q2 q3 : MV} {ds : Ds} {m : Mm} {Q : Ds → Mm → List MV → Prop} : WP 191 189 [(4, l0), q1, q2, q3] [(2, s0), (0, s1)] ds m Q = (WP 191 190 [(4, l0), q1, q2, q3] [(4, l0), (2, s0), (0, s1)] ds m Q) := P_nx k191_189 rfl
set_option maxRecDepth 20000 in
theorem k191_190 : mjCode 191 190 = some (.iload_n 3, 1, 0, 0) := by decide +kernel
theorem p191_190 {l3 s0 s1 s2 : Int} {q0 q1 q2 : MV} {ds : Ds} {m : Mm} {Q : Ds → Mm → List MV → Prop} : WP 191 190 [q0, q1, q2, (0, l3)] [(4, s0), (2, s1), (0, s2)] ds m Q = (WP 191 191 [q0, q1, q2, (0, l3)] [(0, l3), (4, s0), (2, s1), (0, s2)] ds m Q) := P_nx k191_190 rfl
set_option maxRecDepth 20000 in
theorem k191_191 : mjCode 191 191 = some (.iconst 1, 1, 0, 0) := by decide +kernel
theorem p191_191 {s0 s1 s2 s3 : Int} {q0 q1 q2 q3 : MV} {ds : Ds} {m : Mm} {Q : Ds → Mm → List MV → Prop} : WP 191 191 [q0, q1, q2, q3] [(0, s0), (4, s1), (2, s2), (0, s3)] ds m Q = (WP 191 192 [q0, q1, q2, q3] [(0, 1), (0, s0), (4, s1), (2, s2), (0, s3)] ds m Q) := P_nx k191_191 rfl
set_option maxRecDepth 20000 in
theorem k191_192 : mjCode 191 192 = some (.iadd, 1, 0, 0) := by decide +kernel
theorem p191_192 {s0 s1 s2 s3 s4 : Int} {q0 q1 q2 q3 : MV} {ds : Ds} {m : Mm} {Q : Ds → Mm → List MV → Prop} : WP 191 192 [q0, q1, q2, q3] [(0, s0), (0, s1), (4, s2), (2, s3), (0, s4)] ds m Q = (WP 191 193 [q0, q1, q2, q3] [(0, w32 (s1 + s0)), (4, s2), (2, s3), (0, s4)] ds m Q) := P_nx k191_192 rfl
set_option maxRecDepth 20000 in
theorem k191_193 : mjCode 191 193 = some (.iaload, 1, 0, 0) := by decide +kernel
theorem p191_193 {s0 s1 s2 s3 : Int} {q0 q1 q2 q3 : MV} {ds : Ds} {m : Mm} {Q : Ds → Mm → List MV → Prop} : WP 191 193 [q0, q1, q2, q3] [(0, s0), (4, s1), (2, s2), (0, s3)] ds m Q = ((0 ≤ s0 ∧ s0 < m (-3) 0 ∧ WP 191 194 [q0, q1, q2, q3] [(0, m (-2) s0), (2, s2), (0, s3)] ds m Q)) := P_sc k191_193 rfl
set_option maxRecDepth 20000 in
theorem k191_194 : mjCode 191 194 = some (.aload_n 0, 1, 0, 0) := by decide +kernel
theorem p191_194 {l0 s0 s1 s2 : Int} {q1 q2 q3 : MV} {ds : Ds} {m : Mm} {Q : Ds → Mm → List MV → Prop} : WP 191 194 [(4, l0), q1, q2, q3] [(0, s0), (2, s1), (0, s2)] ds m Q = (WP 191 195 [(4, l0), q1, q2, q3] [(4, l0), (0, s0), (2, s1), (0, s2)] ds m Q) := P_nx k191_194 rfl
set_option maxRecDepth 20000 in
theorem k191_195 : mjCode 191 195 = some (.iload_n 3, 1, 0, 0) := by decide +kernel
theorem p191_195 {l3 s0 s1 s2 s3 : Int} {q0 q1 q2 : MV} {ds : Ds} {m : Mm} {Q : Ds → Mm → List MV → Prop} : WP 191 195 [q0, q1, q2, (0, l3)] [(4, s0), (0, s1), (2, s2), (0, s3)] ds m Q = (WP 191 196 [q0, q1, q2, (0, l3)] [(0, l3), (4, s0), (0, s1), (2, s2), (0, s3)] ds m Q) := P_nx k191_195 rfl
set_option maxRecDepth 20000 in
theorem k191_196 : mjCode 191 196 = some (.iconst 2, 1, 0, 0) := by decide +kernel
theorem p191_196 {s0 s1 s2 s3 s4 : Int} {q0 q1 q2 q3 : MV} {ds : Ds} {m : Mm} {Q : Ds → Mm → List MV → Prop} : WP 191 196 [q0, q1, q2, q3] [(0, s0), (4, s1), (0, s2), (2, s3), (0, s4)] ds m Q = (WP 191 197 [q0, q1, q2, q3] [(0, 2), (0, s0), (4, s1), (0, s2), (2, s3), (0, s4)] ds m Q) := P_nx k191_196 rfl
set_option maxRecDepth 20000 in
theorem k191_197 : mjCode 191 197 = some (.iadd, 1, 0, 0) := by decide +kernel
theorem p191_197 {s0 s1 s2 s3 s4 s5 : Int} {q0 q1 q2 q3 : MV} {ds : Ds} {m : Mm} {Q : Ds → Mm → List MV → Prop} : WP 191 197 [q0, q1, q2, q3] [(0, s0), (0, s1), (4, s2), (0, s3), (2, s4), (0, s5)] ds m Q = (WP 191 198 [q0, q1, q2, q3] [(0, w32 (s1 + s0)), (4, s2), (0, s3), (2, s4), (0, s5)] ds m Q) := P_nx k191_197 rfl
set_option maxRecDepth 20000 in
theorem k191_198 : mjCode 191 198 = some (.iaload, 1, 0, 0) := by decide +kernel
theorem p191_198 {s0 s1 s2 s3 s4 : Int} {q0 q1 q2 q3 : MV} {ds : Ds} {m : Mm} {Q : Ds → Mm → List MV → Prop} : WP 191 198 [q0, q1, q2, q3] [(0, s0), (4, s1), (0, s2), (2, s3), (0, s4)] ds m Q = ((0 ≤ s0 ∧ s0 < m (-3) 0 ∧ WP 191 199 [q0, q1, q2, q3] [(0, m (-2) s0), (0, s2), (2, s3), (0, s4)] ds m Q)) := P_sc k191_198 rfl
set_option maxRecDepth 20000 in
theorem k191_199 : mjCode 191 199 = some (.aload_n 0, 1, 0, 0) := by decide +kernel
theorem p191_199 {l0 s0 s1 s2 s3 : Int} {q1 q2 q3 : MV} {ds : Ds} {m : Mm} {Q : Ds → Mm → List MV → Prop} : WP 191 199 [(4, l0), q1, q2, q3] [(0, s0), (0, s1), (2, s2), (0, s3)] ds m Q = (WP 191 200 [(4, l0), q1, q2, q3] [(4, l0), (0, s0), (0, s1), (2, s2), (0, s3)] ds m Q) := P_nx k191_199 rfl
set_option maxRecDepth 20000 in
theorem k191_200 : mjCode 191 200 = some (.iload_n 3, 1, 0, 0) := by decide +kernel
theorem p191_200 {l3 s0 s1 s2 s3 s4 : Int} {q0 q1 q2 : MV} {ds : Ds} {m : Mm} {Q : Ds → Mm → List MV → Prop} : WP 191 200 [q0, q1, q2, (0, l3)] [(4, s0), (0, s1), (0, s2), (2, s3), (0, s4)] ds m Q = (WP 191 201 [q0, q1, q2, (0, l3)] [(0, l3), (4, s0), (0, s1), (0, s2), (2, s3), (0, s4)] ds m Q) := P_nx k191_200 rfl
set_option maxRecDepth 20000 in
theorem k191_201 : mjCode 191 201 = some (.iconst 3, 1, 0, 0) := by decide +kernel
theorem p191_201 {s0 s1 s2 s3 s4 s5 : Int} {q0 q1 q2 q3 : MV} {ds : Ds} {m : Mm} {Q : Ds → Mm → List MV → Prop} : WP 191 201 [q0, q1, q2, q3] [(0, s0), (4, s1), (0, s2), (0, s3), (2, s4), (0, s5)] ds m Q = (WP 191 202 [q0, q1, q2, q3] [(0, 3), (0, s0), (4, s1), (0, s2), (0, s3), (2, s4), (0, s5)] ds m Q) := P_nx k191_201 rfl
set_option maxRecDepth 20000 in
theorem k191_202 : mjCode 191 202 = some (.iadd, 1, 0, 0) := by decide +kernel
theorem p191_202 {s0 s1 s2 s3 s4 s5 s6 : Int} {q0 q1 q2 q3 : MV} {ds : Ds} {m : Mm} {Q : Ds → Mm → List MV → Prop} : WP 191 202 [q0, q1, q2, q3] [(0, s0), (0, s1), (4, s2), (0, s3), (0, s4), (2, s5), (0, s6)] ds m Q = (WP 191 203 [q0, q1, q2, q3] [(0, w32 (s1 + s0)), (4, s2), (0, s3), (0, s4), (2, s5), (0, s6)] ds m Q) := P_nx k191_202 rfl
set_option maxRecDepth 20000 in
theorem k191_203 : mjCode 191 203 = some (.iaload, 1, 0, 0) := by decide +kernel
theorem p191_203 {s0 s1 s2 s3 s4 s5 : Int} {q0 q1 q2 q3 : MV} {ds : Ds} {m : Mm} {Q : Ds → Mm → List MV → Prop} : WP 191 203 [q0, q1, q2, q3] [(0, s0), (4, s1), (0, s2), (0, s3), (2, s4), (0, s5)] ds m Q = ((0 ≤ s0 ∧ s0 < m (-3) 0 ∧ WP 191 204 [q0, q1, q2, q3] [(0, m (-2) s0), (0, s2), (0, s3), (2, s4), (0, s5)] ds m Q)) := P_sc k191_203 rfl
set_option maxRecDepth 20000 in
theorem k191_204 : mjCode 191 204 = some (.aload_n 0, 1, 0, 0) := by decide +kernel
theorem p191_204 {l0 s0 s1 s2 s3 s4 : Int} {q1 q2 q3 : MV} {ds : Ds} {m : Mm} {Q : Ds → Mm → List MV → Prop} : WP 191 204 [(4, l0), q1, q2, q3] [(0, s0), (0, s1), (0, s2), (2, s3), (0, s4)] ds m Q = (WP 191 205 [(4, l0), q1, q2, q3] [(4, l0), (0, s0), (0, s1), (0, s2), (2, s3), (0, s4)] ds m Q) := P_nx k191_204 rfl
set_option maxRecDepth 20000 in
theorem k191_205 : mjCode 191 205 = some (.iload_n 3, 1, 0, 0) := by decide +kernel
theorem p191_205 {l3 s0 s1 s2 s3 s4 s5 : Int} {q0 q1 q2 : MV} {ds : Ds} {m : Mm} {Q : Ds → Mm → List MV → Prop} : WP 191 205 [q0, q1, q2, (0, l3)] [(4, s0), (0, s1), (0, s2), (0, s3), (2, s4), (0, s5)] ds m Q = (WP 191 206 [q0, q1, q2, (0, l3)] [(0, l3), (4, s0), (0, s1), (0, s2), (0, s3), (2, s4), (0, s5)] ds m Q) := P_nx k191_205 rfl
set_option maxRecDepth 20000 in
theorem k191_206 : mjCode 191 206 = some (.iconst 4, 1, 0, 0) := by decide +kernel
theorem p191_206 {s0 s1 s2 s3 s4 s5 s6 : Int} {q0 q1 q2 q3 : MV} {ds : Ds} {m : Mm} {Q : Ds → Mm → List MV → Prop} : WP 191 206 [q0, q1, q2, q3] [(0, s0), (4, s1), (0, s2), (0, s3), (0, s4), (2, s5), (0, s6)] ds m Q = (WP 191 207 [q0, q1, q2, q3] [(0, 4), (0, s0), (4, s1), (0, s2), (0, s3), (0, s4), (2, s5), (0, s6)] ds m Q) := P_nx k191_206 rfl
set_option maxRecDepth 20000 in
theorem k191_207 : mjCode 191 207 = some (.iadd, 1, 0, 0) := by decide +kernel
theorem p191_207 {s0 s1 s2 s3 s4 s5 s6 s7 : Int} {q0 q1 q2 q3 : MV} {ds : Ds} {m : Mm} {Q : Ds → Mm → List MV → Prop} : WP 191 207 [q0, q1, q2, q3] [(0, s0), (0, s1), (4, s2), (0, s3), (0, s4), (0, s5), (2, s6), (0, s7)] ds m Q = (WP 191 208 [q0, q1, q2, q3] [(0, w32 (s1 + s0)), (4, s2), (0, s3), (0, s4), (0, s5), (2, s6), (0, s7)] ds m Q) := P_nx k191_207 rfl
set_option maxRecDepth 20000 in
theorem k191_208 : mjCode 191 208 = some (.iaload, 1, 0, 0) := by decide +kernel
theorem p191_208 {s0 s1 s2 s3 s4 s5 s6 : Int} {q0 q1 q2 q3 : MV} {ds : Ds} {m : Mm} {Q : Ds → Mm → List MV → Prop} : WP 191 208 [q0, q1, q2, q3] [(0, s0), (4, s1), (0, s2), (0, s3), (0, s4), (2, s5), (0, s6)] ds m Q = ((0 ≤ s0 ∧ s0 < m (-3) 0 ∧ WP 191 209 [q0, q1, q2, q3] [(0, m (-2) s0), (0, s2), (0, s3), (0, s4), (2, s5), (0, s6)] ds m Q)) := P_sc k191_208 rfl
set_option maxRecDepth 20000 in
theorem k191_209 : mjCode 191 209 = some (.invokevirtual 17, 3, 130, 5) := by decide +kernel
theorem p191_209 {s0 s1 s2 s3 s4 s5 : Int} {q0 q1 q2 q3 : MV} {ds : Ds} {m : Mm} {Q : Ds → Mm → List MV → Prop} : WP 191 209 [q0, q1, q2, q3] [(0, s0), (0, s1), (0, s2), (0, s3), (2, s4), (0, s5)] ds m Q = ((dk ds s4 = 7 ∧ WP 129 0 [(2, s4), (0, s3), (0, s2), (0, s1), (0, s0)] [] ds m (fun d2 m2 r2 => WP 191 212 [q0, q1, q2, q3] (r2 ++ [(0, s5)]) d2 m2 Q))) := P_cv k191_209 mx129 mo129 rfl rfl rfl rfl rfl rfl rfl rfl
set_option maxRecDepth 20000 in
theorem k191_212 : mjCode 191 212 = some (.if_icmp .eq 890, 3, 1102, 0) := by decide +kernel
theorem p191_212 {s0 s1 : Int} {q0 q1 q2 q3 : MV} {ds : Ds} {m : Mm} {Q : Ds → Mm → List MV → Prop} : WP 191 212 [q0, q1, q2, q3] [(0, s0), (0, s1)] ds m Q = (if s1 = s0 then WP 191 1102 [q0, q1, q2, q3] [] ds m Q else WP 191 215 [q0, q1, q2, q3] [] ds m Q) := P_if k191_212 rfl
set_option maxRecDepth 20000 in
theorem k191_215 : mjCode 191 215 = some (.iconst 0, 1, 0, 0) := by decide +kernel
theorem p191_215 {q0 q1 q2 q3 : MV} {ds : Ds} {m : Mm} {Q : Ds → Mm → List MV → Prop} : WP 191 215 [q0, q1, q2, q3] [] ds m Q = (WP 191 216 [q0, q1, q2, q3] [(0, 0)] ds m Q) := P_nx k191_215 rfl
set_option maxRecDepth 20000 in
theorem k191_216 : mjCode 191 216 = some (.ireturn, 1, 0, 0) := by decide +kernel
theorem p191_216 {s0 : Int} {q0 q1 q2 q3 : MV} {ds : Ds} {m : Mm} {Q : Ds → Mm → List MV → Prop} : WP 191 216 [q0, q1, q2, q3] [(0, s0)] ds m Q = (((s0 = 0 ∨ s0 = 1) ∧ Q ds m [(0, s0)])) := P_rb k191_216 rk191
set_option maxRecDepth 20000 in
theorem k191_217 : mjCode 191 217 = some (.aload_n 1, 1, 0, 0) := by decide +kernel
theorem p191_217 {l1 : Int} {q0 q2 q3 : MV} {ds : Ds} {m : Mm} {Q : Ds → Mm → List MV → Prop} : WP 191 217 [q0, (2, l1), q2, q3] [] ds m Q = (WP 191 218 [q0, (2, l1), q2, q3] [(2, l1)] ds m Q) := P_nx k191_217 rfl
set_option maxRecDepth 20000 in
theorem k191_218 : mjCode 191 218 = some (.aload_n 0, 1, 0, 0) := by decide +kernel
theorem p191_218 {l0 s0 : Int} {q1 q2 q3 : MV} {ds : Ds} {m : Mm} {Q : Ds → Mm → List MV → Prop} : WP 191 218 [(4, l0), q1, q2, q3] [(2, s0)] ds m Q = (WP 191 219 [(4, l0), q1, q2, q3] [(4, l0), (2, s0)] ds m Q) := P_nx k191_218 rfl
set_option maxRecDepth 20000 in
theorem k191_219 : mjCode 191 219 = some (.iload_n 3, 1, 0, 0) := by decide +kernel
theorem p191_219 {l3 s0 s1 : Int} {q0 q1 q2 : MV} {ds : Ds} {m : Mm} {Q : Ds → Mm → List MV → Prop} : WP 191 219 [q0, q1, q2, (0, l3)] [(4, s0), (2, s1)] ds m Q = (WP 191 220 [q0, q1, q2, (0, l3)] [(0, l3), (4, s0), (2, s1)] ds m Q) := P_nx k191_219 rfl
set_option maxRecDepth 20000 in
theorem k191_220 : mjCode 191 220 = some (.iconst 1, 1, 0, 0) := by decide +kernel
theorem p191_220 {s0 s1 s2 : Int} {q0 q1 q2 q3 : MV} {ds : Ds} {m : Mm} {Q : Ds → Mm → List MV → Prop} : WP 191 220 [q0, q1, q2, q3] [(0, s0), (4, s1), (2, s2)] ds m Q = (WP 191 221 [q0, q1, q2, q3] [(0, 1), (0, s0), (4, s1), (2, s2)] ds m Q) := P_nx k191_220 rfl
set_option maxRecDepth 20000 in
theorem k191_221 : mjCode 191 221 = some (.iadd, 1, 0, 0) := by decide +kernel
theorem p191_221 {s0 s1 s2 s3 : Int} {q0 q1 q2 q3 : MV} {ds : Ds} {m : Mm} {Q : Ds → Mm → List MV → Prop} : WP 191 221 [q0, q1, q2, q3] [(0, s0), (0, s1), (4, s2), (2, s3)] ds m Q = (WP 191 222 [q0, q1, q2, q3] [(0, w32 (s1 + s0)), (4, s2), (2, s3)] ds m Q) := P_nx k191_221 rfl
set_option maxRecDepth 20000 in
theorem k191_222 : mjCode 191 222 = some (.iaload, 1, 0, 0) := by decide +kernel
theorem p191_222 {s0 s1 s2 : Int} {q0 q1 q2 q3 : MV} {ds : Ds} {m : Mm} {Q : Ds → Mm → List MV → Prop} : WP 191 222 [q0, q1, q2, q3] [(0, s0), (4, s1), (2, s2)] ds m Q = ((0 ≤ s0 ∧ s0 < m (-3) 0 ∧ WP 191 223 [q0, q1, q2, q3] [(0, m (-2) s0), (2, s2)] ds m Q)) := P_sc k191_222 rfl
set_option maxRecDepth 20000 in
theorem k191_223 : mjCode 191 223 = some (.aload_n 0, 1, 0, 0) := by decide +kernel
theorem p191_223 {l0 s0 s1 : Int} {q1 q2 q3 : MV} {ds : Ds} {m : Mm} {Q : Ds → Mm → List MV → Prop} : WP 191 223 [(4, l0), q1, q2, q3] [(0, s0), (2, s1)] ds m Q = (WP 191 224 [(4, l0), q1, q2, q3] [(4, l0), (0, s0), (2, s1)] ds m Q) := P_nx k191_223 rfl
set_option maxRecDepth 20000 in
theorem k191_224 : mjCode 191 224 = some (.iload_n 3, 1, 0, 0) := by decide +kernel
theorem p191_224 {l3 s0 s1 s2 : Int} {q0 q1 q2 : MV} {ds : Ds} {m : Mm} {Q : Ds → Mm → List MV → Prop} : WP 191 224 [q0, q1, q2, (0, l3)] [(4, s0), (0, s1), (2, s2)] ds m Q = (WP 191 225 [q0, q1, q2, (0, l3)] [(0, l3), (4, s0), (0, s1), (2, s2)] ds m Q) := P_nx k191_224 rfl
set_option maxRecDepth 20000 in
theorem k191_225 : mjCode 191 225 = some (.iconst 2, 1, 0, 0) := by decide +kernel
theorem p191_225 {s0 s1 s2 s3 : Int} {q0 q1 q2 q3 : MV} {ds : Ds} {m : Mm} {Q : Ds → Mm → List MV → Prop} : WP 191 225 [q0, q1, q2, q3] [(0, s0), (4, s1), (0, s2), (2, s3)] ds m Q = (WP 191 226 [q0, q1, q2, q3] [(0, 2), (0, s0), (4, s1), (0, s2), (2, s3)] ds m Q) := P_nx k191_225 rfl
set_option maxRecDepth 20000 in
theorem k191_226 : mjCode 191 226 = some (.iadd, 1, 0, 0) := by decide +kernel
theorem p191_226 {s0 s1 s2 s3 s4 : Int} {q0 q1 q2 q3 : MV} {ds : Ds} {m : Mm} {Q : Ds → Mm → List MV → Prop} : WP 191 226 [q0, q1, q2, q3] [(0, s0), (0, s1), (4, s2), (0, s3), (2, s4)] ds m Q = (WP 191 227 [q0, q1, q2, q3] [(0, w32 (s1 + s0)), (4, s2), (0, s3), (2, s4)] ds m Q) := P_nx k191_226 rfl
set_option maxRecDepth 20000 in
theorem k191_227 : mjCode 191 227 = some (.iaload, 1, 0, 0) := by decide +kernel
theorem p191_227 {s0 s1 s2 s3 : Int} {q0 q1 q2 q3 : MV} {ds : Ds} {m : Mm} {Q : Ds → Mm → List MV → Prop} : WP 191 227 [q0, q1, q2, q3] [(0, s0), (4, s1), (0, s2), (2, s3)] ds m Q = ((0 ≤ s0 ∧ s0 < m (-3) 0 ∧ WP 191 228 [q0, q1, q2, q3] [(0, m (-2) s0), (0, s2), (2, s3)] ds m Q)) := P_sc k191_227 rfl
set_option maxRecDepth 20000 in
theorem k191_228 : mjCode 191 228 = some (.aload_n 0, 1, 0, 0) := by decide +kernel
theorem p191_228 {l0 s0 s1 s2 : Int} {q1 q2 q3 : MV} {ds : Ds} {m : Mm} {Q : Ds → Mm → List MV → Prop} : WP 191 228 [(4, l0), q1, q2, q3] [(0, s0), (0, s1), (2, s2)] ds m Q = (WP 191 229 [(4, l0), q1, q2, q3] [(4, l0), (0, s0), (0, s1), (2, s2)] ds m Q) := P_nx k191_228 rfl
set_option maxRecDepth 20000 in
theorem k191_229 : mjCode 191 229 = some (.iload_n 3, 1, 0, 0) := by decide +kernel
theorem p191_229 {l3 s0 s1 s2 s3 : Int} {q0 q1 q2 : MV} {ds : Ds} {m : Mm} {Q : Ds → Mm → List MV → Prop} : WP 191 229 [q0, q1, q2, (0, l3)] [(4, s0), (0, s1), (0, s2), (2, s3)] ds m Q = (WP 191 230 [q0, q1, q2, (0, l3)] [(0, l3), (4, s0), (0, s1), (0, s2), (2, s3)] ds m Q) := P_nx k191_229 rfl
set_option maxRecDepth 20000 in
theorem k191_230 : mjCode 191 230 = some (.iconst 3, 1, 0, 0) := by decide +kernel
theorem p191_230 {s0 s1 s2 s3 s4 : Int} {q0 q1 q2 q3 : MV} {ds : Ds} {m : Mm} {Q : Ds → Mm → List MV → Prop} : WP 191 230 [q0, q1, q2, q3] [(0, s0), (4, s1), (0, s2), (0, s3), (2, s4)] ds m Q = (WP 191 231 [q0, q1, q2, q3] [(0, 3), (0, s0), (4, s1), (0, s2), (0, s3), (2, s4)] ds m Q) := P_nx k191_230 rfl
set_option maxRecDepth 20000 in
theorem k191_231 : mjCode 191 231 = some (.iadd, 1, 0, 0) := by decide +kernel
theorem p191_231 {s0 s1 s2 s3 s4 s5 : Int} {q0 q1 q2 q3 : MV} {ds : Ds} {m : Mm} {Q : Ds → Mm → List MV → Prop} : WP 191 231 [q0, q1, q2, q3] [(0, s0), (0, s1), (4, s2), (0, s3), (0, s4), (2, s5)] ds m Q = (WP 191 232 [q0, q1, q2, q3] [(0, w32 (s1 + s0)), (4, s2), (0, s3), (0, s4), (2, s5)] ds m Q) := P_nx k191_231 rfl
set_option maxRecDepth 20000 in
theorem k191_232 : mjCode 191 232 = some (.iaload, 1, 0, 0) := by decide +kernel
theorem p191_232 {s0 s1 s2 s3 s4 : Int} {q0 q1 q2 q3 : MV} {ds : Ds} {m : Mm} {Q : Ds → Mm → List MV → Prop} : WP 191 232 [q0, q1, q2, q3] [(0, s0), (4, s1), (0, s2), (0, s3), (2, s4)] ds m Q = ((0 ≤ s0 ∧ s0 < m (-3) 0 ∧ WP 191 233 [q0, q1, q2, q3] [(0, m (-2) s0), (0, s2), (0, s3), (2, s4)] ds m Q)) := P_sc k191_232 rfl
set_option maxRecDepth 20000 in
theorem k191_233 : mjCode 191 233 = some (.aload_n 0, 1, 0, 0) := by decide +kernel
theorem p191_233 {l0 s0 s1 s2 s3 : Int} {q1 q2 q3 : MV} {ds : Ds} {m : Mm} {Q : Ds → Mm → List MV → Prop} : WP 191 233 [(4, l0), q1, q2, q3] [(0, s0), (0, s1), (0, s2), (2, s3)] ds m Q = (WP 191 234 [(4, l0), q1, q2, q3] [(4, l0), (0, s0), (0, s1), (0, s2), (2, s3)] ds m Q) := P_nx k191_233 rfl
set_option maxRecDepth 20000 in
theorem k191_234 : mjCode 191 234 = some (.iload_n 3, 1, 0, 0) := by decide +kernel
theorem p191_234 {l3 s0 s1 s2 s3 s4 : Int} {q0 q1 q2 : MV} {ds : Ds} {m : Mm} {Q : Ds → Mm → List MV → Prop} : WP 191 234 [q0, q1, q2, (0, l3)] [(4, s0), (0, s1), (0, s2), (0, s3), (2, s4)] ds m Q = (WP 191 235 [q0, q1, q2, (0, l3)] [(0, l3), (4, s0), (0, s1), (0, s2), (0, s3), (2, s4)] ds m Q) := P_nx k191_234 rfl
set_option maxRecDepth 20000 in
theorem k191_235 : mjCode 191 235 = some (.iconst 4, 1, 0, 0) := by decide +kernel
theorem p191_235 {s0 s1 s2 s3 s4 s5 : Int} {q0 q1 q2 q3 : MV} {ds : Ds} {m : Mm} {Q : Ds → Mm → List MV → Prop} : WP 191 235 [q0, q1, q2, q3] [(0, s0), (4, s1), (0, s2), (0, s3), (0, s4), (2, s5)] ds m Q = (WP 191 236 [q0, q1, q2, q3] [(0, 4), (0, s0), (4, s1), (0, s2), (0, s3), (0, s4), (2, s5)] ds m Q) := P_nx k191_235 rfl
set_option maxRecDepth 20000 in
theorem k191_236 : mjCode 191 236 = some (.iadd, 1, 0, 0) := by decide +kernel
theorem p191_236 {s0 s1 s2 s3 s4 s5 s6 : Int} {q0 q1 q2 q3 : MV} {ds : Ds} {m : Mm} {Q : Ds → Mm → List MV → Prop} : WP 191 236 [q0, q1, q2, q3] [(0, s0), (0, s1), (4, s2), (0, s3), (0, s4), (0, s5), (2, s6)] ds m Q = (WP 191 237 [q0, q1, q2, q3] [(0, w32 (s1 + s0)), (4, s2), (0, s3), (0, s4), (0, s5), (2, s6)] ds m Q) := P_nx k191_236 rfl
set_option maxRecDepth 20000 in
theorem k191_237 : mjCode 191 237 = some (.iaload, 1, 0, 0) := by decide +kernel
theorem p191_237 {s0 s1 s2 s3 s4 s5 : Int} {q0 q1 q2 q3 : MV} {ds : Ds} {m : Mm} {Q : Ds → Mm → List MV → Prop} : WP 191 237 [q0, q1, q2, q3] [(0, s0), (4, s1), (0, s2), (0, s3), (0, s4), (2, s5)] ds m Q = ((0 ≤ s0 ∧ s0 < m (-3) 0 ∧ WP 191 238 [q0, q1, q2, q3] [(0, m (-2) s0), (0, s2), (0, s3), (0, s4), (2, s5)] ds m Q)) := P_sc k191_237 rfl
set_option maxRecDepth 20000 in
theorem k191_238 : mjCode 191 238 = some (.invokevirtual 18, 3, 68, 5) := by decide +kernel
theorem p191_238 {s0 s1 s2 s3 s4 : Int} {q0 q1 q2 q3 : MV} {ds : Ds} {m : Mm} {Q : Ds → Mm → List MV → Prop} : WP 191 238 [q0, q1, q2, q3] [(0, s0), (0, s1), (0, s2), (0, s3), (2, s4)] ds m Q = ((dk ds s4 = 6 ∧ WP 67 0 [(2, s4), (0, s3), (0, s2), (0, s1), (0, s0), (3, 0)] [] ds m (fun d2 m2 r2 => WP 191 241 [q0, q1, q2, q3] (r2 ++ []) d2 m2 Q))) := P_cv k191_238 mx67 mo67 rfl rfl rfl rfl rfl rfl rfl rfl
set_option maxRecDepth 20000 in
theorem k191_241 : mjCode 191 241 = some (.aload_n 2, 1, 0, 0) := by decide +kernel
theorem p191_241 {l2 s0 : Int} {q0 q1 q3 : MV} {ds : Ds} {m : Mm} {Q : Ds → Mm → List MV → Prop} : WP 191 241 [q0, q1, (2, l2), q3] [(0, s0)] ds m Q = (WP 191 242 [q0, q1, (2, l2), q3] [(2, l2), (0, s0)] ds m Q) := P_nx k191_241 rfl
set_option maxRecDepth 20000 in
theorem k191_242 : mjCode 191 242 = some (.aload_n 0, 1, 0, 0) := by decide +kernel
theorem p191_242 {l0 s0 s1 : Int} {q1 q2 q3 : MV} {ds : Ds} {m : Mm} {Q : Ds → Mm → List MV → Prop} : WP 191 242 [(4, l0), q1, q2, q3] [(2, s0), (0, s1)] ds m Q = (WP 191 243 [(4, l0), q1, q2, q3] [(4, l0), (2, s0), (0, s1)] ds m Q) := P_nx k191_242 rfl
set_option maxRecDepth 20000 in
theorem k191_243 : mjCode 191 243 = some (.iload_n 3, 1, 0, 0) := by decide +kernel
theorem p191_243 {l3 s0 s1 s2 : Int} {q0 q1 q2 : MV} {ds : Ds} {m : Mm} {Q : Ds → Mm → List MV → Prop} : WP 191 243 [q0, q1, q2, (0, l3)] [(4, s0), (2, s1), (0, s2)] ds m Q = (WP 191 244 [q0, q1, q2, (0, l3)] [(0, l3), (4, s0), (2, s1), (0, s2)] ds m Q) := P_nx k191_243 rfl
set_option maxRecDepth 20000 in
theorem k191_244 : mjCode 191 244 = some (.iconst 1, 1, 0, 0) := by decide +kernel
theorem p191_244 {s0 s1 s2 s3 : Int} {q0 q1 q2 q3 : MV} {ds : Ds} {m : Mm} {Q : Ds → Mm → List MV → Prop} : WP 191 244 [q0, q1, q2, q3] [(0, s0), (4, s1), (2, s2), (0, s3)] ds m Q = (WP 191 245 [q0, q1, q2, q3] [(0, 1), (0, s0), (4, s1), (2, s2), (0, s3)] ds m Q) := P_nx k191_244 rfl
set_option maxRecDepth 20000 in
theorem k191_245 : mjCode 191 245 = some (.iadd, 1, 0, 0) := by decide +kernel
theorem p191_245 {s0 s1 s2 s3 s4 : Int} {q0 q1 q2 q3 : MV} {ds : Ds} {m : Mm} {Q : Ds → Mm → List MV → Prop} : WP 191 245 [q0, q1, q2, q3] [(0, s0), (0, s1), (4, s2), (2, s3), (0, s4)] ds m Q = (WP 191 246 [q0, q1, q2, q3] [(0, w32 (s1 + s0)), (4, s2), (2, s3), (0, s4)] ds m Q) := P_nx k191_245 rfl
set_option maxRecDepth 20000 in
theorem k191_246 : mjCode 191 246 = some (.iaload, 1, 0, 0) := by decide +kernel
theorem p191_246 {s0 s1 s2 s3 : Int} {q0 q1 q2 q3 : MV} {ds : Ds} {m : Mm} {Q : Ds → Mm → List MV → Prop} : WP 191 246 [q0, q1, q2, q3] [(0, s0), (4, s1), (2, s2), (0, s3)] ds m Q = ((0 ≤ s0 ∧ s0 < m (-3) 0 ∧ WP 191 247 [q0, q1, q2, q3] [(0, m (-2) s0), (2, s2), (0, s3)] ds m Q)) := P_sc k191_246 rfl
set_option maxRecDepth 20000 in
theorem k191_247 : mjCode 191 247 = some (.aload_n 0, 1, 0, 0) := by decide +kernel
theorem p191_247 {l0 s0 s1 s2 : Int} {q1 q2 q3 : MV} {ds : Ds} {m : Mm} {Q : Ds → Mm → List MV → Prop} : WP 191 247 [(4, l0), q1, q2, q3] [(0, s0), (2, s1), (0, s2)] ds m Q = (WP 191 248 [(4, l0), q1, q2, q3] [(4, l0), (0, s0), (2, s1), (0, s2)] ds m Q) := P_nx k191_247 rfl
set_option maxRecDepth 20000 in
theorem k191_248 : mjCode 191 248 = some (.iload_n 3, 1, 0, 0) := by decide +kernel
theorem p191_248 {l3 s0 s1 s2 s3 : Int} {q0 q1 q2 : MV} {ds : Ds} {m : Mm} {Q : Ds → Mm → List MV → Prop} : WP 191 248 [q0, q1, q2, (0, l3)] [(4, s0), (0, s1), (2, s2), (0, s3)] ds m Q = (WP 191 249 [q0, q1, q2, (0, l3)] [(0, l3), (4, s0), (0, s1), (2, s2), (0, s3)] ds m Q) := P_nx k191_248 rfl
set_option maxRecDepth 20000 in
theorem k191_249 : mjCode 191 249 = some (.iconst 2, 1, 0, 0) := by decide +kernel
theorem p191_249 {s0 s1 s2 s3 s4 : Int} {q0 q1 q2 q3 : MV} {ds : Ds} {m : Mm} {Q : Ds → Mm → List MV → Prop} : WP 191 249 [q0, q1, q2, q3] [(0, s0), (4, s1), (0, s2), (2, s3), (0, s4)] ds m Q = (WP 191 250 [q0, q1, q2, q3] [(0, 2), (0, s0), (4, s1), (0, s2), (2, s3), (0, s4)] ds m Q) := P_nx k191_249 rfl
set_option maxRecDepth 20000 in
theorem k191_250 : mjCode 191 250 = some (.iadd, 1, 0, 0) := by decide +kernel
theorem p191_250 {s0 s1 s2 s3 s4 s5 : Int} {q0 q1 q2 q3 : MV} {ds : Ds} {m : Mm} {Q : Ds → Mm → List MV → Prop} : WP 191 250 [q0, q1, q2, q3] [(0, s0), (0, s1), (4, s2), (0, s3), (2, s4), (0, s5)] ds m Q = (WP 191 251 [q0, q1, q2, q3] [(0, w32 (s1 + s0)), (4, s2), (0, s3), (2, s4), (0, s5)] ds m Q) := P_nx k191_250 rfl
set_option maxRecDepth 20000 in
theorem k191_251 : mjCode 191 251 = some (.iaload, 1, 0, 0) := by decide +kernel
theorem p191_251 {s0 s1 s2 s3 s4 : Int} {q0 q1 q2 q3 : MV} {ds : Ds} {m : Mm} {Q : Ds → Mm → List MV → Prop} : WP 191 251 [q0, q1, q2, q3] [(0, s0), (4, s1), (0, s2), (2, s3), (0, s4)] ds m Q = ((0 ≤ s0 ∧ s0 < m (-3) 0 ∧ WP 191 252 [q0, q1, q2, q3] [(0, m (-2) s0), (0, s2), (2, s3), (0, s4)] ds m Q)) := P_sc k191_251 rfl
set_option maxRecDepth 20000 in
theorem k191_252 : mjCode 191 252 = some (.aload_n 0, 1, 0, 0) := by decide +kernel
theorem p191_252 {l0 s0 s1 s2 s3 : Int} {q1 q2 q3 : MV} {ds : Ds} {m : Mm} {Q : Ds → Mm → List MV → Prop} : WP 191 252 [(4, l0), q1, q2, q3] [(0, s0), (0, s1), (2, s2), (0, s3)] ds m Q = (WP 191 253 [(4, l0), q1, q2, q3] [(4, l0), (0, s0), (0, s1), (2, s2), (0, s3)] ds m Q) := P_nx k191_252 rfl
set_option maxRecDepth 20000 in
theorem k191_253 : mjCode 191 253 = some (.iload_n 3, 1, 0, 0) := by decide +kernel
theorem p191_253 {l3 s0 s1 s2 s3 s4 : Int} {q0 q1 q2 : MV} {ds : Ds} {m : Mm} {Q : Ds → Mm → List MV → Prop} : WP 191 253 [q0, q1, q2, (0, l3)] [(4, s0), (0, s1), (0, s2), (2, s3), (0, s4)] ds m Q = (WP 191 254 [q0, q1, q2, (0, l3)] [(0, l3), (4, s0), (0, s1), (0, s2), (2, s3), (0, s4)] ds m Q) := P_nx k191_253 rfl
set_option maxRecDepth 20000 in
theorem k191_254 : mjCode 191 254 = some (.iconst 3, 1, 0, 0) := by decide +kernel
theorem p191_254 {s0 s1 s2 s3 s4 s5 : Int} {q0 q1 q2 q3 : MV} {ds : Ds} {m : Mm} {Q : Ds → Mm → List MV → Prop} : WP 191 254 [q0, q1, q2, q3] [(0, s0), (4, s1), (0, s2), (0, s3), (2, s4), (0, s5)] ds m Q = (WP 191 255 [q0, q1, q2, q3] [(0, 3), (0, s0), (4, s1), (0, s2), (0, s3), (2, s4), (0, s5)] ds m Q) := P_nx k191_254 rfl
set_option maxRecDepth 20000 in
theorem k191_255 : mjCode 191 255 = some (.iadd, 1, 0, 0) := by decide +kernel
theorem p191_255 {s0 s1 s2 s3 s4 s5 s6 : Int} {q0 q1 q2 q3 : MV} {ds : Ds} {m : Mm} {Q : Ds → Mm → List MV → Prop} : WP 191 255 [q0, q1, q2, q3] [(0, s0), (0, s1), (4, s2), (0, s3), (0, s4), (2, s5), (0, s6)] ds m Q = (WP 191 256 [q0, q1, q2, q3] [(0, w32 (s1 + s0)), (4, s2), (0, s3), (0, s4), (2, s5), (0, s6)] ds m Q) := P_nx k191_255 rfl
set_option maxRecDepth 20000 in
theorem k191_256 : mjCode 191 256 = some (.iaload, 1, 0, 0) := by decide +kernel
theorem p191_256 {s0 s1 s2 s3 s4 s5 : Int} {q0 q1 q2 q3 : MV} {ds : Ds} {m : Mm} {Q : Ds → Mm → List MV → Prop} : WP 191 256 [q0, q1, q2, q3] [(0, s0), (4, s1), (0, s2), (0, s3), (2, s4), (0, s5)] ds m Q = ((0 ≤ s0 ∧ s0 < m (-3) 0 ∧ WP 191 257 [q0, q1, q2, q3] [(0, m (-2) s0), (0, s2), (0, s3), (2, s4), (0, s5)] ds m Q)) := P_sc k191_256 rfl
set_option maxRecDepth 20000 in
theorem k191_257 : mjCode 191 257 = some (.aload_n 0, 1, 0, 0) := by decide +kernel
theorem p191_257 {l0 s0 s1 s2 s3 s4 : Int} {q1 q2 q3 : MV} {ds : Ds} {m : Mm} {Q : Ds → Mm → List MV → Prop} : WP 191 257 [(4, l0), q1, q2, q3] [(0, s0), (0, s1), (0, s2), (2, s3), (0, s4)] ds m Q = (WP 191 258 [(4, l0), q1, q2, q3] [(4, l0), (0, s0), (0, s1), (0, s2), (2, s3), (0, s4)] ds m Q) := P_nx k191_257 rfl
set_option maxRecDepth 20000 in
theorem k191_258 : mjCode 191 258 = some (.iload_n 3, 1, 0, 0) := by decide +kernel
theorem p191_258 {l3 s0 s1 s2 s3 s4 s5 : Int} {q0 q1 q2 : MV} {ds : Ds} {m : Mm} {Q : Ds → Mm → List MV → Prop} : WP 191 258 [q0, q1, q2, (0, l3)] [(4, s0), (0, s1), (0, s2), (0, s3), (2, s4), (0, s5)] ds m Q = (WP 191 259 [q0, q1, q2, (0, l3)] [(0, l3), (4, s0), (0, s1), (0, s2), (0, s3), (2, s4), (0, s5)] ds m Q) := P_nx k191_258 rfl
set_option maxRecDepth 20000 in
theorem k191_259 : mjCode 191 259 = some (.iconst 4, 1, 0, 0) := by decide +kernel
theorem p191_259 {s0 s1 s2 s3 s4 s5 s6 : Int} {q0 q1 q2 q3 : MV} {ds : Ds} {m : Mm} {Q : Ds → Mm → List MV → Prop} : WP 191 259 [q0, q1, q2, q3] [(0, s0), (4, s1), (0, s2), (0, s3), (0, s4), (2, s5), (0, s6)] ds m Q = (WP 191 260 [q0, q1, q2, q3] [(0, 4), (0, s0), (4, s1), (0, s2), (0, s3), (0, s4), (2, s5), (0, s6)] ds m Q) := P_nx k191_259 rfl
set_option maxRecDepth 20000 in
theorem k191_260 : mjCode 191 260 = some (.iadd, 1, 0, 0) := by decide +kernel
theorem p191_260 {s0 s1 s2 s3 s4 s5 s6 s7 : Int} {q0 q1 q2 q3 : MV} {ds : Ds} {m : Mm} {Q : Ds → Mm → List MV → Prop} : WP 191 260 [q0, q1, q2, q3] [(0, s0), (0, s1), (4, s2), (0, s3), (0, s4), (0, s5), (2, s6), (0, s7)] ds m Q = (WP 191 261 [q0, q1, q2, q3] [(0, w32 (s1 + s0)), (4, s2), (0, s3), (0, s4), (0, s5), (2, s6), (0, s7)] ds m Q) := P_nx k191_260 rfl
set_option maxRecDepth 20000 in
theorem k191_261 : mjCode 191 261 = some (.iaload, 1, 0, 0) := by decide +kernel
theorem p191_261 {s0 s1 s2 s3 s4 s5 s6 : Int} {q0 q1 q2 q3 : MV} {ds : Ds} {m : Mm} {Q : Ds → Mm → List MV → Prop} : WP 191 261 [q0, q1, q2, q3] [(0, s0), (4, s1), (0, s2), (0, s3), (0, s4), (2, s5), (0, s6)] ds m Q = ((0 ≤ s0 ∧ s0 < m (-3) 0 ∧ WP 191 262 [q0, q1, q2, q3] [(0, m (-2) s0), (0, s2), (0, s3), (0, s4), (2, s5), (0, s6)] ds m Q)) := P_sc k191_261 rfl
set_option maxRecDepth 20000 in
theorem k191_262 : mjCode 191 262 = some (.invokevirtual 21, 3, 131, 5) := by decide +kernel
theorem p191_262 {s0 s1 s2 s3 s4 s5 : Int} {q0 q1 q2 q3 : MV} {ds : Ds} {m : Mm} {Q : Ds → Mm → List MV → Prop} : WP 191 262 [q0, q1, q2, q3] [(0, s0), (0, s1), (0, s2), (0, s3), (2, s4), (0, s5)] ds m Q = ((dk ds s4 = 7 ∧ WP 130 0 [(2, s4), (0, s3), (0, s2), (0, s1), (0, s0)] [] ds m (fun d2 m2 r2 => WP 191 265 [q0, q1, q2, q3] (r2 ++ [(0, s5)]) d2 m2 Q))) := P_cv k191_262 mx130 mo130 rfl rfl rfl rfl rfl rfl rfl rfl
set_option maxRecDepth 20000 in
theorem k191_265 : mjCode 191 265 = some (.if_icmp .eq 837, 3, 1102, 0) := by decide +kernel
theorem p191_265 {s0 s1 : Int} {q0 q1 q2 q3 : MV} {ds : Ds} {m : Mm} {Q : Ds → Mm → List MV → Prop} : WP 191 265 [q0, q1, q2, q3] [(0, s0), (0, s1)] ds m Q = (if s1 = s0 then WP 191 1102 [q0, q1, q2, q3] [] ds m Q else WP 191 268 [q0, q1, q2, q3] [] ds m Q) := P_if k191_265 rfl
set_option maxRecDepth 20000 in
theorem k191_268 : mjCode 191 268 = some (.iconst 0, 1, 0, 0) := by decide +kernel
theorem p191_268 {q0 q1 q2 q3 : MV} {ds : Ds} {m : Mm} {Q : Ds → Mm → List MV → Prop} : WP 191 268 [q0, q1, q2, q3] [] ds m Q = (WP 191 269 [q0, q1, q2, q3] [(0, 0)] ds m Q) := P_nx k191_268 rfl
set_option maxRecDepth 20000 in
theorem k191_269 : mjCode 191 269 = some (.ireturn, 1, 0, 0) := by decide +kernel
theorem p191_269 {s0 : Int} {q0 q1 q2 q3 : MV} {ds : Ds} {m : Mm} {Q : Ds → Mm → List MV → Prop} : WP 191 269 [q0, q1, q2, q3] [(0, s0)] ds m Q = (((s0 = 0 ∨ s0 = 1) ∧ Q ds m [(0, s0)])) := P_rb k191_269 rk191
set_option maxRecDepth 20000 in
theorem k191_270 : mjCode 191 270 = some (.aload_n 1, 1, 0, 0) := by decide +kernel
theorem p191_270 {l1 : Int} {q0 q2 q3 : MV} {ds : Ds} {m : Mm} {Q : Ds → Mm → List MV → Prop} : WP 191 270 [q0, (2, l1), q2, q3] [] ds m Q = (WP 191 271 [q0, (2, l1), q2, q3] [(2, l1)] ds m Q) := P_nx k191_270 rfl
set_option maxRecDepth 20000 in
theorem k191_271 : mjCode 191 271 = some (.aload_n 0, 1, 0, 0) := by decide +kernel
theorem p191_271 {l0 s0 : Int} {q1 q2 q3 : MV} {ds : Ds} {m : Mm} {Q : Ds → Mm → List MV → Prop} : WP 191 271 [(4, l0), q1, q2, q3] [(2, s0)] ds m Q = (WP 191 272 [(4, l0), q1, q2, q3] [(4, l0), (2, s0)] ds m Q) := P_nx k191_271 rfl
set_option maxRecDepth 20000 in
theorem k191_272 : mjCode 191 272 = some (.iload_n 3, 1, 0, 0) := by decide +kernel
theorem p191_272 {l3 s0 s1 : Int} {q0 q1 q2 : MV} {ds : Ds} {m : Mm} {Q : Ds → Mm → List MV → Prop} : WP 191 272 [q0, q1, q2, (0, l3)] [(4, s0), (2, s1)] ds m Q = (WP 191 273 [q0, q1, q2, (0, l3)] [(0, l3), (4, s0), (2, s1)] ds m Q) := P_nx k191_272 rfl
set_option maxRecDepth 20000 in
theorem k191_273 : mjCode 191 273 = some (.iconst 1, 1, 0, 0) := by decide +kernel
theorem p191_273 {s0 s1 s2 : Int} {q0 q1 q2 q3 : MV} {ds : Ds} {m : Mm} {Q : Ds → Mm → List MV → Prop} : WP 191 273 [q0, q1, q2, q3] [(0, s0), (4, s1), (2, s2)] ds m Q = (WP 191 274 [q0, q1, q2, q3] [(0, 1), (0, s0), (4, s1), (2, s2)] ds m Q) := P_nx k191_273 rfl
set_option maxRecDepth 20000 in
theorem k191_274 : mjCode 191 274 = some (.iadd, 1, 0, 0) := by decide +kernel
theorem p191_274 {s0 s1 s2 s3 : Int} {q0 q1 q2 q3 : MV} {ds : Ds} {m : Mm} {Q : Ds → Mm → List MV → Prop} : WP 191 274 [q0, q1, q2, q3] [(0, s0), (0, s1), (4, s2), (2, s3)] ds m Q = (WP 191 275 [q0, q1, q2, q3] [(0, w32 (s1 + s0)), (4, s2), (2, s3)] ds m Q) := P_nx k191_274 rfl
set_option maxRecDepth 20000 in
theorem k191_275 : mjCode 191 275 = some (.iaload, 1, 0, 0) := by decide +kernel
theorem p191_275 {s0 s1 s2 : Int} {q0 q1 q2 q3 : MV} {ds : Ds} {m : Mm} {Q : Ds → Mm → List MV → Prop} : WP 191 275 [q0, q1, q2, q3] [(0, s0), (4, s1), (2, s2)] ds m Q = ((0 ≤ s0 ∧ s0 < m (-3) 0 ∧ WP 191 276 [q0, q1, q2, q3] [(0, m (-2) s0), (2, s2)] ds m Q)) := P_sc k191_275 rfl
set_option maxRecDepth 20000 in
theorem k191_276 : mjCode 191 276 = some (.invokevirtual 22, 3, 69, 2) := by decide +kernel
theorem p191_276 {s0 s1 : Int} {q0 q1 q2 q3 : MV} {ds : Ds} {m : Mm} {Q : Ds → Mm → List MV → Prop} : WP 191 276 [q0, q1, q2, q3] [(0, s0), (2, s1)] ds m Q = ((dk ds s1 = 6 ∧ WP 68 0 [(2, s1), (0, s0)] [] ds m (fun d2 m2 r2 => WP 191 279 [q0, q1, q2, q3] (r2 ++ []) d2 m2 Q))) := P_cv k191_276 mx68 mo68 rfl rfl rfl rfl rfl rfl rfl rfl
set_option maxRecDepth 20000 in
theorem k191_279 : mjCode 191 279 = some (.aload_n 2, 1, 0, 0) := by decide +kernel
theorem p191_279 {l2 s0 : Int} {q0 q1 q3 : MV} {ds : Ds} {m : Mm} {Q : Ds → Mm → List MV → Prop} : WP 191 279 [q0, q1, (2, l2), q3] [(0, s0)] ds m Q = (WP 191 280 [q0, q1, (2, l2), q3] [(2, l2), (0, s0)] ds m Q) := P_nx k191_279 rfl
set_option maxRecDepth 20000 in
theorem k191_280 : mjCode 191 280 = some (.aload_n 0, 1, 0, 0) := by decide +kernel
theorem p191_280 {l0 s0 s1 : Int} {q1 q2 q3 : MV} {ds : Ds} {m : Mm} {Q : Ds → Mm → List MV → Prop} : WP 191 280 [(4, l0), q1, q2, q3] [(2, s0), (0, s1)] ds m Q = (WP 191 281 [(4, l0), q1, q2, q3] [(4, l0), (2, s0), (0, s1)] ds m Q) := P_nx k191_280 rfl
set_option maxRecDepth 20000 in
theorem k191_281 : mjCode 191 281 = some (.iload_n 3, 1, 0, 0) := by decide +kernel
theorem p191_281 {l3 s0 s1 s2 : Int} {q0 q1 q2 : MV} {ds : Ds} {m : Mm} {Q : Ds → Mm → List MV → Prop} : WP 191 281 [q0, q1, q2, (0, l3)] [(4, s0), (2, s1), (0, s2)] ds m Q = (WP 191 282 [q0, q1, q2, (0, l3)] [(0, l3), (4, s0), (2, s1), (0, s2)] ds m Q) := P_nx k191_281 rfl
set_option maxRecDepth 20000 in
theorem k191_282 : mjCode 191 282 = some (.iconst 1, 1, 0, 0) := by decide +kernel
theorem p191_282 {s0 s1 s2 s3 : Int} {q0 q1 q2 q3 : MV} {ds : Ds} {m : Mm} {Q : Ds → Mm → List MV → Prop} : WP 191 282 [q0, q1, q2, q3] [(0, s0), (4, s1), (2, s2), (0, s3)] ds m Q = (WP 191 283 [q0, q1, q2, q3] [(0, 1), (0, s0), (4, s1), (2, s2), (0, s3)] ds m Q) := P_nx k191_282 rfl
set_option maxRecDepth 20000 in
theorem k191_283 : mjCode 191 283 = some (.iadd, 1, 0, 0) := by decide +kernel
theorem p191_283 {s0 s1 s2 s3 s4 : Int} {q0 q1 q2 q3 : MV} {ds : Ds} {m : Mm} {Q : Ds → Mm → List MV → Prop} : WP 191 283 [q0, q1, q2, q3] [(0, s0), (0, s1), (4, s2), (2, s3), (0, s4)] ds m Q = (WP 191 284 [q0, q1, q2, q3] [(0, w32 (s1 + s0)), (4, s2), (2, s3), (0, s4)] ds m Q) := P_nx k191_283 rfl
set_option maxRecDepth 20000 in
theorem k191_284 : mjCode 191 284 = some (.iaload, 1, 0, 0) := by decide +kernel
theorem p191_284 {s0 s1 s2 s3 : Int} {q0 q1 q2 q3 : MV} {ds : Ds} {m : Mm} {Q : Ds → Mm → List MV → Prop} : WP 191 284 [q0, q1, q2, q3] [(0, s0), (4, s1), (2, s2), (0, s3)] ds m Q = ((0 ≤ s0 ∧ s0 < m (-3) 0 ∧ WP 191 285 [q0, q1, q2, q3] [(0, m (-2) s0), (2, s2), (0, s3)] ds m Q)) := P_sc k191_284 rfl
set_option maxRecDepth 20000 in
theorem k191_285 : mjCode 191 285 = some (.invokevirtual 26, 3, 133, 2) := by decide +kernel
theorem p191_285 {s0 s1 s2 : Int} {q0 q1 q2 q3 : MV} {ds : Ds} {m : Mm} {Q : Ds → Mm → List MV → Prop} : WP 191 285 [q0, q1, q2, q3] [(0, s0), (2, s1), (0, s2)] ds m Q = ((dk ds s1 = 7 ∧ WP 132 0 [(2, s1), (0, s0)] [] ds m (fun d2 m2 r2 => WP 191 288 [q0, q1, q2, q3] (r2 ++ [(0, s2)]) d2 m2 Q))) := P_cv k191_285 mx132 mo132 rfl rfl rfl rfl rfl rfl rfl rfl
set_option maxRecDepth 20000 in
theorem k191_288 : mjCode 191 288 = some (.if_icmp .eq 814, 3, 1102, 0) := by decide +kernel
theorem p191_288 {s0 s1 : Int} {q0 q1 q2 q3 : MV} {ds : Ds} {m : Mm} {Q : Ds → Mm → List MV → Prop} : WP 191 288 [q0, q1, q2, q3] [(0, s0), (0, s1)] ds m Q = (if s1 = s0 then WP 191 1102 [q0, q1, q2, q3] [] ds m Q else WP 191 291 [q0, q1, q2, q3] [] ds m Q) := P_if k191_288 rfl
set_option maxRecDepth 20000 in
theorem k191_291 : mjCode 191 291 = some (.iconst 0, 1, 0, 0) := by decide +kernel
theorem p191_291 {q0 q1 q2 q3 : MV} {ds : Ds} {m : Mm} {Q : Ds → Mm → List MV → Prop} : WP 191 291 [q0, q1, q2, q3] [] ds m Q = (WP 191 292 [q0, q1, q2, q3] [(0, 0)] ds m Q) := P_nx k191_291 rfl
set_option maxRecDepth 20000 in
theorem k191_292 : mjCode 191 292 = some (.ireturn, 1, 0, 0) := by decide +kernel
theorem p191_292 {s0 : Int} {q0 q1 q2 q3 : MV} {ds : Ds} {m : Mm} {Q : Ds → Mm → List MV → Prop} : WP 191 292 [q0, q1, q2, q3] [(0, s0)] ds m Q = (((s0 = 0 ∨ s0 = 1) ∧ Q ds m [(0, s0)])) := P_rb k191_292 rk191
set_option maxRecDepth 20000 in
theorem k191_293 : mjCode 191 293 = some (.aload_n 1, 1, 0, 0) := by decide +kernel
theorem p191_293 {l1 : Int} {q0 q2 q3 : MV} {ds : Ds} {m : Mm} {Q : Ds → Mm → List MV → Prop} : WP 191 293 [q0, (2, l1), q2, q3] [] ds m Q = (WP 191 294 [q0, (2, l1), q2, q3] [(2, l1)] ds m Q) := P_nx k191_293 rfl
set_option maxRecDepth 20000 in
theorem k191_294 : mjCode 191 294 = some (.aload_n 0, 1, 0, 0) := by decide +kernel
theorem p191_294 {l0 s0 : Int} {q1 q2 q3 : MV} {ds : Ds} {m : Mm} {Q : Ds → Mm → List MV → Prop} : WP 191 294 [(4, l0), q1, q2, q3] [(2, s0)] ds m Q = (WP 191 295 [(4, l0), q1, q2, q3] [(4, l0), (2, s0)] ds m Q) := P_nx k191_294 rfl
set_option maxRecDepth 20000 in
theorem k191_295 : mjCode 191 295 = some (.iload_n 3, 1, 0, 0) := by decide +kernel
theorem p191_295 {l3 s0 s1 : Int} {q0 q1 q2 : MV} {ds : Ds} {m : Mm} {Q : Ds → Mm → List MV → Prop} : WP 191 295 [q0, q1, q2, (0, l3)] [(4, s0), (2, s1)] ds m Q = (WP 191 296 [q0, q1, q2, (0, l3)] [(0, l3), (4, s0), (2, s1)] ds m Q) := P_nx k191_295 rfl
set_option maxRecDepth 20000 in
theorem k191_296 : mjCode 191 296 = some (.iconst 1, 1, 0, 0) := by decide +kernel
theorem p191_296 {s0 s1 s2 : Int} {q0 q1 q2 q3 : MV} {ds : Ds} {m : Mm} {Q : Ds → Mm → List MV → Prop} : WP 191 296 [q0, q1, q2, q3] [(0, s0), (4, s1), (2, s2)] ds m Q = (WP 191 297 [q0, q1, q2, q3] [(0, 1), (0, s0), (4, s1), (2, s2)] ds m Q) := P_nx k191_296 rfl
set_option maxRecDepth 20000 in
theorem k191_297 : mjCode 191 297 = some (.iadd, 1, 0, 0) := by decide +kernel
theorem p191_297 {s0 s1 s2 s3 : Int} {q0 q1 q2 q3 : MV} {ds : Ds} {m : Mm} {Q : Ds → Mm → List MV → Prop} : WP 191 297 [q0, q1, q2, q3] [(0, s0), (0, s1), (4, s2), (2, s3)] ds m Q = (WP 191 298 [q0, q1, q2, q3] [(0, w32 (s1 + s0)), (4, s2), (2, s3)] ds m Q) := P_nx k191_297 rfl
set_option maxRecDepth 20000 in
theorem k191_298 : mjCode 191 298 = some (.iaload, 1, 0, 0) := by decide +kernel
theorem p191_298 {s0 s1 s2 : Int} {q0 q1 q2 q3 : MV} {ds : Ds} {m : Mm} {Q : Ds → Mm → List MV → Prop} : WP 191 298 [q0, q1, q2, q3] [(0, s0), (4, s1), (2, s2)] ds m Q = ((0 ≤ s0 ∧ s0 < m (-3) 0 ∧ WP 191 299 [q0, q1, q2, q3] [(0, m (-2) s0), (2, s2)] ds m Q)) := P_sc k191_298 rfl
set_option maxRecDepth 20000 in
theorem k191_299 : mjCode 191 299 = some (.invokevirtual 27, 3, 70, 2) := by decide +kernel
theorem p191_299 {s0 s1 : Int} {q0 q1 q2 q3 : MV} {ds : Ds} {m : Mm} {Q : Ds → Mm → List MV → Prop} : WP 191 299 [q0, q1, q2, q3] [(0, s0), (2, s1)] ds m Q = ((dk ds s1 = 6 ∧ WP 69 0 [(2, s1), (0, s0), (3, 0)] [] ds m (fun d2 m2 r2 => WP 191 302 [q0, q1, q2, q3] (r2 ++ []) d2 m2 Q))) := P_cv k191_299 mx69 mo69 rfl rfl rfl rfl rfl rfl rfl rfl
set_option maxRecDepth 20000 in
theorem k191_302 : mjCode 191 302 = some (.aload_n 2, 1, 0, 0) := by decide +kernel
theorem p191_302 {l2 s0 : Int} {q0 q1 q3 : MV} {ds : Ds} {m : Mm} {Q : Ds → Mm → List MV → Prop} : WP 191 302 [q0, q1, (2, l2), q3] [(0, s0)] ds m Q = (WP 191 303 [q0, q1, (2, l2), q3] [(2, l2), (0, s0)] ds m Q) := P_nx k191_302 rfl
set_option maxRecDepth 20000 in
theorem k191_303 : mjCode 191 303 = some (.aload_n 0, 1, 0, 0) := by decide +kernel
theorem p191_303 {l0 s0 s1 : Int} {q1 q2 q3 : MV} {ds : Ds} {m : Mm} {Q : Ds → Mm → List MV → Prop} : WP 191 303 [(4, l0), q1, q2, q3] [(2, s0), (0, s1)] ds m Q = (WP 191 304 [(4, l0), q1, q2, q3] [(4, l0), (2, s0), (0, s1)] ds m Q) := P_nx k191_303 rfl
set_option maxRecDepth 20000 in
theorem k191_304 : mjCode 191 304 = some (.iload_n 3, 1, 0, 0) := by decide +kernel
theorem p191_304 {l3 s0 s1 s2 : Int} {q0 q1 q2 : MV} {ds : Ds} {m : Mm} {Q : Ds → Mm → List MV → Prop} : WP 191 304 [q0, q1, q2, (0, l3)] [(4, s0), (2, s1), (0, s2)] ds m Q = (WP 191 305 [q0, q1, q2, (0, l3)] [(0, l3), (4, s0), (2, s1), (0, s2)] ds m Q) := P_nx k191_304 rfl
set_option maxRecDepth 20000 in
theorem k191_305 : mjCode 191 305 = some (.iconst 1, 1, 0, 0) := by decide +kernel
theorem p191_305 {s0 s1 s2 s3 : Int} {q0 q1 q2 q3 : MV} {ds : Ds} {m : Mm} {Q : Ds → Mm → List MV → Prop} : WP 191 305 [q0, q1, q2, q3] [(0, s0), (4, s1), (2, s2), (0, s3)] ds m Q = (WP 191 306 [q0, q1, q2, q3] [(0, 1), (0, s0), (4, s1), (2, s2), (0, s3)] ds m Q) := P_nx k191_305 rfl
set_option maxRecDepth 20000 in
theorem k191_306 : mjCode 191 306 = some (.iadd, 1, 0, 0) := by decide +kernel
theorem p191_306 {s0 s1 s2 s3 s4 : Int} {q0 q1 q2 q3 : MV} {ds : Ds} {m : Mm} {Q : Ds → Mm → List MV → Prop} : WP 191 306 [q0, q1, q2, q3] [(0, s0), (0, s1), (4, s2), (2, s3), (0, s4)] ds m Q = (WP 191 307 [q0, q1, q2, q3] [(0, w32 (s1 + s0)), (4, s2), (2, s3), (0, s4)] ds m Q) := P_nx k191_306 rfl
set_option maxRecDepth 20000 in
theorem k191_307 : mjCode 191 307 = some (.iaload, 1, 0, 0) := by decide +kernel
theorem p191_307 {s0 s1 s2 s3 : Int} {q0 q1 q2 q3 : MV} {ds : Ds} {m : Mm} {Q : Ds → Mm → List MV → Prop} : WP 191 307 [q0, q1, q2, q3] [(0, s0), (4, s1), (2, s2), (0, s3)] ds m Q = ((0 ≤ s0 ∧ s0 < m (-3) 0 ∧ WP 191 308 [q0, q1, q2, q3] [(0, m (-2) s0), (2, s2), (0, s3)] ds m Q)) := P_sc k191_307 rfl
set_option maxRecDepth 20000 in
theorem k191_308 : mjCode 191 308 = some (.invokevirtual 30, 3, 134, 2) := by decide +kernel
theorem p191_308 {s0 s1 s2 : Int} {q0 q1 q2 q3 : MV} {ds : Ds} {m : Mm} {Q : Ds → Mm → List MV → Prop} : WP 191 308 [q0, q1, q2, q3] [(0, s0), (2, s1), (0, s2)] ds m Q = ((dk ds s1 = 7 ∧ WP 133 0 [(2, s1), (0, s0), (3, 0)] [] ds m (fun d2 m2 r2 => WP 191 311 [q0, q1, q2, q3] (r2 ++ [(0, s2)]) d2 m2 Q))) := P_cv k191_308 mx133 mo133 rfl rfl rfl rfl rfl rfl rfl rfl
set_option maxRecDepth 20000 in
theorem k191_311 : mjCode 191 311 = some (.if_icmp .eq 791, 3, 1102, 0) := by decide +kernel
theorem p191_311 {s0 s1 : Int} {q0 q1 q2 q3 : MV} {ds : Ds} {m : Mm} {Q : Ds → Mm → List MV → Prop} : WP 191 311 [q0, q1, q2, q3] [(0, s0), (0, s1)] ds m Q = (if s1 = s0 then WP 191 1102 [q0, q1, q2, q3] [] ds m Q else WP 191 314 [q0, q1, q2, q3] [] ds m Q) := P_if k191_311 rfl
set_option maxRecDepth 20000 in
theorem k191_314 : mjCode 191 314 = some (.iconst 0, 1, 0, 0) := by decide +kernel
theorem p191_314 {q0 q1 q2 q3 : MV} {ds : Ds} {m : Mm} {Q : Ds → Mm → List MV → Prop} : WP 191 314 [q0, q1, q2, q3] [] ds m Q = (WP 191 315 [q0, q1, q2, q3] [(0, 0)] ds m Q) := P_nx k191_314 rfl
set_option maxRecDepth 20000 in
theorem k191_315 : mjCode 191 315 = some (.ireturn, 1, 0, 0) := by decide +kernel
theorem p191_315 {s0 : Int} {q0 q1 q2 q3 : MV} {ds : Ds} {m : Mm} {Q : Ds → Mm → List MV → Prop} : WP 191 315 [q0, q1, q2, q3] [(0, s0)] ds m Q = (((s0 = 0 ∨ s0 = 1) ∧ Q ds m [(0, s0)])) := P_rb k191_315 rk191
set_option maxRecDepth 20000 in
theorem k191_316 : mjCode 191 316 = some (.aload_n 1, 1, 0, 0) := by decide +kernel
theorem p191_316 {l1 : Int} {q0 q2 q3 : MV} {ds : Ds} {m : Mm} {Q : Ds → Mm → List MV → Prop} : WP 191 316 [q0, (2, l1), q2, q3] [] ds m Q = (WP 191 317 [q0, (2, l1), q2, q3] [(2, l1)] ds m Q) := P_nx k191_316 rfl
set_option maxRecDepth 20000 in
theorem k191_317 : mjCode 191 317 = some (.aload_n 0, 1, 0, 0) := by decide +kernel
theorem p191_317 {l0 s0 : Int} {q1 q2 q3 : MV} {ds : Ds} {m : Mm} {Q : Ds → Mm → List MV → Prop} : WP 191 317 [(4, l0), q1, q2, q3] [(2, s0)] ds m Q = (WP 191 318 [(4, l0), q1, q2, q3] [(4, l0), (2, s0)] ds m Q) := P_nx k191_317 rfl
set_option maxRecDepth 20000 in
theorem k191_318 : mjCode 191 318 = some (.iload_n 3, 1, 0, 0) := by decide +kernel
theorem p191_318 {l3 s0 s1 : Int} {q0 q1 q2 : MV} {ds : Ds} {m : Mm} {Q : Ds → Mm → List MV → Prop} : WP 191 318 [q0, q1, q2, (0, l3)] [(4, s0), (2, s1)] ds m Q = (WP 191 319 [q0, q1, q2, (0, l3)] [(0, l3), (4, s0), (2, s1)] ds m Q) := P_nx k191_318 rfl
set_option maxRecDepth 20000 in
theorem k191_319 : mjCode 191 319 = some (.iconst 1, 1, 0, 0) := by decide +kernel
theorem p191_319 {s0 s1 s2 : Int} {q0 q1 q2 q3 : MV} {ds : Ds} {m : Mm} {Q : Ds → Mm → List MV → Prop} : WP 191 319 [q0, q1, q2, q3] [(0, s0), (4, s1), (2, s2)] ds m Q = (WP 191 320 [q0, q1, q2, q3] [(0, 1), (0, s0), (4, s1), (2, s2)] ds m Q) := P_nx k191_319 rfl
set_option maxRecDepth 20000 in
theorem k191_320 : mjCode 191 320 = some (.iadd, 1, 0, 0) := by decide +kernel
theorem p191_320 {s0 s1 s2 s3 : Int} {q0 q1 q2 q3 : MV} {ds : Ds} {m : Mm} {Q : Ds → Mm → List MV → Prop} : WP 191 320 [q0, q1, q2, q3] [(0, s0), (0, s1), (4, s2), (2, s3)] ds m Q = (WP 191 321 [q0, q1, q2, q3] [(0, w32 (s1 + s0)), (4, s2), (2, s3)] ds m Q) := P_nx k191_320 rfl
set_option maxRecDepth 20000 in
theorem k191_321 : mjCode 191 321 = some (.iaload, 1, 0, 0) := by decide +kernel
theorem p191_321 {s0 s1 s2 : Int} {q0 q1 q2 q3 : MV} {ds : Ds} {m : Mm} {Q : Ds → Mm → List MV → Prop} : WP 191 321 [q0, q1, q2, q3] [(0, s0), (4, s1), (2, s2)] ds m Q = ((0 ≤ s0 ∧ s0 < m (-3) 0 ∧ WP 191 322 [q0, q1, q2, q3] [(0, m (-2) s0), (2, s2)] ds m Q)) := P_sc k191_321 rfl
set_option maxRecDepth 20000 in
theorem k191_322 : mjCode 191 322 = some (.aload_n 0, 1, 0, 0) := by decide +kernel
theorem p191_322 {l0 s0 s1 : Int} {q1 q2 q3 : MV} {ds : Ds} {m : Mm} {Q : Ds → Mm → List MV → Prop} : WP 191 322 [(4, l0), q1, q2, q3] [(0, s0), (2, s1)] ds m Q = (WP 191 323 [(4, l0), q1, q2, q3] [(4, l0), (0, s0), (2, s1)] ds m Q) := P_nx k191_322 rfl
set_option maxRecDepth 20000 in
theorem k191_323 : mjCode 191 323 = some (.iload_n 3, 1, 0, 0) := by decide +kernel
theorem p191_323 {l3 s0 s1 s2 : Int} {q0 q1 q2 : MV} {ds : Ds} {m : Mm} {Q : Ds → Mm → List MV → Prop} : WP 191 323 [q0, q1, q2, (0, l3)] [(4, s0), (0, s1), (2, s2)] ds m Q = (WP 191 324 [q0, q1, q2, (0, l3)] [(0, l3), (4, s0), (0, s1), (2, s2)] ds m Q) := P_nx k191_323 rfl
set_option maxRecDepth 20000 in
theorem k191_324 : mjCode 191 324 = some (.iconst 2, 1, 0, 0) := by decide +kernel
theorem p191_324 {s0 s1 s2 s3 : Int} {q0 q1 q2 q3 : MV} {ds : Ds} {m : Mm} {Q : Ds → Mm → List MV → Prop} : WP 191 324 [q0, q1, q2, q3] [(0, s0), (4, s1), (0, s2), (2, s3)] ds m Q = (WP 191 325 [q0, q1, q2, q3] [(0, 2), (0, s0), (4, s1), (0, s2), (2, s3)] ds m Q) := P_nx k191_324 rfl
set_option maxRecDepth 20000 in
theorem k191_325 : mjCode 191 325 = some (.iadd, 1, 0, 0) := by decide +kernel
theorem p191_325 {s0 s1 s2 s3 s4 : Int} {q0 q1 q2 q3 : MV} {ds : Ds} {m : Mm} {Q : Ds → Mm → List MV → Prop} : WP 191 325 [q0, q1, q2, q3] [(0, s0), (0, s1), (4, s2), (0, s3), (2, s4)] ds m Q = (WP 191 326 [q0, q1, q2, q3] [(0, w32 (s1 + s0)), (4, s2), (0, s3), (2, s4)] ds m Q) := P_nx k191_325 rfl
set_option maxRecDepth 20000 in
theorem k191_326 : mjCode 191 326 = some (.iaload, 1, 0, 0) := by decide +kernel
theorem p191_326 {s0 s1 s2 s3 : Int} {q0 q1 q2 q3 : MV} {ds : Ds} {m : Mm} {Q : Ds → Mm → List MV → Prop} : WP 191 326 [q0, q1, q2, q3] [(0, s0), (4, s1), (0, s2), (2, s3)] ds m Q = ((0 ≤ s0 ∧ s0 < m (-3) 0 ∧ WP 191 327 [q0, q1, q2, q3] [(0, m (-2) s0), (0, s2), (2, s3)] ds m Q)) := P_sc k191_326 rfl
set_option maxRecDepth 20000 in
theorem k191_327 : mjCode 191 327 = some (.aload_n 0, 1, 0, 0) := by decide +kernel
theorem p191_327 {l0 s0 s1 s2 : Int} {q1 q2 q3 : MV} {ds : Ds} {m : Mm} {Q : Ds → Mm → List MV → Prop} : WP 191 327 [(4, l0), q1, q2, q3] [(0, s0), (0, s1), (2, s2)] ds m Q = (WP 191 328 [(4, l0), q1, q2, q3] [(4, l0), (0, s0), (0, s1), (2, s2)] ds m Q) := P_nx k191_327 rfl
set_option maxRecDepth 20000 in
theorem k191_328 : mjCode 191 328 = some (.iload_n 3, 1, 0, 0) := by decide +kernel
theorem p191_328 {l3 s0 s1 s2 s3 : Int} {q0 q1 q2 : MV} {ds : Ds} {m : Mm} {Q : Ds → Mm → List MV → Prop} : WP 191 328 [q0, q1, q2, (0, l3)] [(4, s0), (0, s1), (0, s2), (2, s3)] ds m Q = (WP 191 329 [q0, q1, q2, (0, l3)] [(0, l3), (4, s0), (0, s1), (0, s2), (2, s3)] ds m Q) := P_nx k191_328 rfl
set_option maxRecDepth 20000 in
theorem k191_329 : mjCode 191 329 = some (.iconst 3, 1, 0, 0) := by decide +kernel
theorem p191_329 {s0 s1 s2 s3 s4 : Int} {q0 q1 q2 q3 : MV} {ds : Ds} {m : Mm} {Q : Ds → Mm → List MV → Prop} : WP 191 329 [q0, q1, q2, q3] [(0, s0), (4, s1), (0, s2), (0, s3), (2, s4)] ds m Q = (WP 191 330 [q0, q1, q2, q3] [(0, 3), (0, s0), (4, s1), (0, s2), (0, s3), (2, s4)] ds m Q) := P_nx k191_329 rfl
set_option maxRecDepth 20000 in
theorem k191_330 : mjCode 191 330 = some (.iadd, 1, 0, 0) := by decide +kernel
theorem p191_330 {s0 s1 s2 s3 s4 s5 : Int} {q0 q1 q2 q3 : MV} {ds : Ds} {m : Mm} {Q : Ds → Mm → List MV → Prop} : WP 191 330 [q0, q1, q2, q3] [(0, s0), (0, s1), (4, s2), (0, s3), (0, s4), (2, s5)] ds m Q = (WP 191 331 [q0, q1, q2, q3] [(0, w32 (s1 + s0)), (4, s2), (0, s3), (0, s4), (2, s5)] ds m Q) := P_nx k191_330 rfl
set_option maxRecDepth 20000 in
theorem k191_331 : mjCode 191 331 = some (.iaload, 1, 0, 0) := by decide +kernel
theorem p191_331 {s0 s1 s2 s3 s4 : Int} {q0 q1 q2 q3 : MV} {ds : Ds} {m : Mm} {Q : Ds → Mm → List MV → Prop} : WP 191 331 [q0, q1, q2, q3] [(0, s0), (4, s1), (0, s2), (0, s3), (2, s4)] ds m Q = ((0 ≤ s0 ∧ s0 < m (-3) 0 ∧ WP 191 332 [q0, q1, q2, q3] [(0, m (-2) s0), (0, s2), (0, s3), (2, s4)] ds m Q)) := P_sc k191_331 rfl
set_option maxRecDepth 20000 in
theorem k191_332 : mjCode 191 332 = some (.invokevirtual 31, 3, 71, 4) := by decide +kernel
theorem p191_332 {s0 s1 s2 s3 : Int} {q0 q1 q2 q3 : MV} {ds : Ds} {m : Mm} {Q : Ds → Mm → List MV → Prop} : WP 191 332 [q0, q1, q2, q3] [(0, s0), (0, s1), (0, s2), (2, s3)] ds m Q = ((dk ds s3 = 6 ∧ WP 70 0 [(2, s3), (0, s2), (0, s1), (0, s0)] [] ds m (fun d2 m2 r2 => WP 191 335 [q0, q1, q2, q3] (r2 ++ []) d2 m2 Q))) := P_cv k191_332 mx70 mo70 rfl rfl rfl rfl rfl rfl rfl rfl
set_option maxRecDepth 20000 in
theorem k191_335 : mjCode 191 335 = some (.aload_n 2, 1, 0, 0) := by decide +kernel
theorem p191_335 {l2 s0 : Int} {q0 q1 q3 : MV} {ds : Ds} {m : Mm} {Q : Ds → Mm → List MV → Prop} : WP 191 335 [q0, q1, (2, l2), q3] [(0, s0)] ds m Q = (WP 191 336 [q0, q1, (2, l2), q3] [(2, l2), (0, s0)] ds m Q) := P_nx k191_335 rfl
set_option maxRecDepth 20000 in
theorem k191_336 : mjCode 191 336 = some (.aload_n 0, 1, 0, 0) := by decide +kernel
theorem p191_336 {l0 s0 s1 : Int} {q1 q2 q3 : MV} {ds : Ds} {m : Mm} {Q : Ds → Mm → List MV → Prop} : WP 191 336 [(4, l0), q1, q2, q3] [(2, s0), (0, s1)] ds m Q = (WP 191 337 [(4, l0), q1, q2, q3] [(4, l0), (2, s0), (0, s1)] ds m Q) := P_nx k191_336 rfl
set_option maxRecDepth 20000 in
theorem k191_337 : mjCode 191 337 = some (.iload_n 3, 1, 0, 0) := by decide +kernel
theorem p191_337 {l3 s0 s1 s2 : Int} {q0 q1 q2 : MV} {ds : Ds} {m : Mm} {Q : Ds → Mm → List MV → Prop} : WP 191 337 [q0, q1, q2, (0, l3)] [(4, s0), (2, s1), (0, s2)] ds m Q = (WP 191 338 [q0, q1, q2, (0, l3)] [(0, l3), (4, s0), (2, s1), (0, s2)] ds m Q) := P_nx k191_337 rfl
set_option maxRecDepth 20000 in
theorem k191_338 : mjCode 191 338 = some (.iconst 1, 1, 0, 0) := by decide +kernel
theorem p191_338 {s0 s1 s2 s3 : Int} {q0 q1 q2 q3 : MV} {ds : Ds} {m : Mm} {Q : Ds → Mm → List MV → Prop} : WP 191 338 [q0, q1, q2, q3] [(0, s0), (4, s1), (2, s2), (0, s3)] ds m Q = (WP 191 339 [q0, q1, q2, q3] [(0, 1), (0, s0), (4, s1), (2, s2), (0, s3)] ds m Q) := P_nx k191_338 rfl
set_option maxRecDepth 20000 in
theorem k191_339 : mjCode 191 339 = some (.iadd, 1, 0, 0) := by decide +kernel
theorem p191_339 {s0 s1 s2 s3 s4 : Int} {q0 q1 q2 q3 : MV} {ds : Ds} {m : Mm} {Q : Ds → Mm → List MV → Prop} : WP 191 339 [q0, q1, q2, q3] [(0, s0), (0, s1), (4, s2), (2, s3), (0, s4)] ds m Q = (WP 191 340 [q0, q1, q2, q3] [(0, w32 (s1 + s0)), (4, s2), (2, s3), (0, s4)] ds m Q) := P_nx k191_339 rfl
set_option maxRecDepth 20000 in
theorem k191_340 : mjCode 191 340 = some (.iaload, 1, 0, 0) := by decide +kernel
theorem p191_340 {s0 s1 s2 s3 : Int} {q0 q1 q2 q3 : MV} {ds : Ds} {m : Mm} {Q : Ds → Mm → List MV → Prop} : WP 191 340 [q0, q1, q2, q3] [(0, s0), (4, s1), (2, s2), (0, s3)] ds m Q = ((0 ≤ s0 ∧ s0 < m (-3) 0 ∧ WP 191 341 [q0, q1, q2, q3] [(0, m (-2) s0), (2, s2), (0, s3)] ds m Q)) := P_sc k191_340 rfl
set_option maxRecDepth 20000 in
theorem k191_341 : mjCode 191 341 = some (.aload_n 0, 1, 0, 0) := by decide +kernel
theorem p191_341 {l0 s0 s1 s2 : Int} {q1 q2 q3 : MV} {ds : Ds} {m : Mm} {Q : Ds → Mm → List MV → Prop} : WP 191 341 [(4, l0), q1, q2, q3] [(0, s0), (2, s1), (0, s2)] ds m Q = (WP 191 342 [(4, l0), q1, q2, q3] [(4, l0), (0, s0), (2, s1), (0, s2)] ds m Q) := P_nx k191_341 rfl
set_option maxRecDepth 20000 in
theorem k191_342 : mjCode 191 342 = some (.iload_n 3, 1, 0, 0) := by decide +kernel
theorem p191_342 {l3 s0 s1 s2 s3 : Int} {q0 q1 q2 : MV} {ds : Ds} {m : Mm} {Q : Ds → Mm → List MV → Prop} : WP 191 342 [q0, q1, q2, (0, l3)] [(4, s0), (0, s1), (2, s2), (0, s3)] ds m Q = (WP 191 343 [q0, q1, q2, (0, l3)] [(0, l3), (4, s0), (0, s1), (2, s2), (0, s3)] ds m Q) := P_nx k191_342 rfl
set_option maxRecDepth 20000 in
theorem k191_343 : mjCode 191 343 = some (.iconst 2, 1, 0, 0) := by decide +kernel
theorem p191_343 {s0 s1 s2 s3 s4 : Int} {q0 q1 q2 q3 : MV} {ds : Ds} {m : Mm} {Q : Ds → Mm → List MV → Prop} : WP 191 343 [q0, q1, q2, q3] [(0, s0), (4, s1), (0, s2), (2, s3), (0, s4)] ds m Q = (WP 191 344 [q0, q1, q2, q3] [(0, 2), (0, s0), (4, s1), (0, s2), (2, s3), (0, s4)] ds m Q) := P_nx k191_343 rfl
set_option maxRecDepth 20000 in
theorem k191_344 : mjCode 191 344 = some (.iadd, 1, 0, 0) := by decide +kernel
theorem p191_344 {s0 s1 s2 s3 s4 s5 : Int} {q0 q1 q2 q3 : MV} {ds : Ds} {m : Mm} {Q : Ds → Mm → List MV → Prop} : WP 191 344 [q0, q1, q2, q3] [(0, s0), (0, s1), (4, s2), (0, s3), (2, s4), (0, s5)] ds m Q = (WP 191 345 [q0, q1, q2, q3] [(0, w32 (s1 + s0)), (4, s2), (0, s3), (2, s4), (0, s5)] ds m Q) := P_nx k191_344 rfl
set_option maxRecDepth 20000 in
theorem k191_345 : mjCode 191 345 = some (.iaload, 1, 0, 0) := by decide +kernel
theorem p191_345 {s0 s1 s2 s3 s4 : Int} {q0 q1 q2 q3 : MV} {ds : Ds} {m : Mm} {Q : Ds → Mm → List MV → Prop} : WP 191 345 [q0, q1, q2, q3] [(0, s0), (4, s1), (0, s2), (2, s3), (0, s4)] ds m Q = ((0 ≤ s0 ∧ s0 < m (-3) 0 ∧ WP 191 346 [q0, q1, q2, q3] [(0, m (-2) s0), (0, s2), (2, s3), (0, s4)] ds m Q)) := P_sc k191_345 rfl
set_option maxRecDepth 20000 in
theorem k191_346 : mjCode 191 346 = some (.aload_n 0, 1, 0, 0) := by decide +kernel
theorem p191_346 {l0 s0 s1 s2 s3 : Int} {q1 q2 q3 : MV} {ds : Ds} {m : Mm} {Q : Ds → Mm → List MV → Prop} : WP 191 346 [(4, l0), q1, q2, q3] [(0, s0), (0, s1), (2, s2), (0, s3)] ds m Q = (WP 191 347 [(4, l0), q1, q2, q3] [(4, l0), (0, s0), (0, s1), (2, s2), (0, s3)] ds m Q) := P_nx k191_346 rfl
set_option maxRecDepth 20000 in
theorem k191_347 : mjCode 191 347 = some (.iload_n 3, 1, 0, 0) := by decide +kernel
theorem p191_347 {l3 s0 s1 s2 s3 s4 : Int} {q0 q1 q2 : MV} {ds : Ds} {m : Mm} {Q : Ds → Mm → List MV → Prop} : WP 191 347 [q0, q1, q2, (0, l3)] [(4, s0), (0, s1), (0, s2), (2, s3), (0, s4)] ds m Q = (WP 191 348 [q0, q1, q2, (0, l3)] [(0, l3), (4, s0), (0, s1), (0, s2), (2, s3), (0, s4)] ds m Q) := P_nx k191_347 rfl
set_option maxRecDepth 20000 in
theorem k191_348 : mjCode 191 348 = some (.iconst 3, 1, 0, 0) := by decide +kernel
theorem p191_348 {s0 s1 s2 s3 s4 s5 : Int} {q0 q1 q2 q3 : MV} {ds : Ds} {m : Mm} {Q : Ds → Mm → List MV → Prop} : WP 191 348 [q0, q1, q2, q3] [(0, s0), (4, s1), (0, s2), (0, s3), (2, s4), (0, s5)] ds m Q = (WP 191 349 [q0, q1, q2, q3] [(0, 3), (0, s0), (4, s1), (0, s2), (0, s3), (2, s4), (0, s5)] ds m Q) := P_nx k191_348 rfl
set_option maxRecDepth 20000 in
theorem k191_349 : mjCode 191 349 = some (.iadd, 1, 0, 0) := by decide +kernel
theorem p191_349 {s0 s1 s2 s3 s4 s5 s6 : Int} {q0 q1 q2 q3 : MV} {ds : Ds} {m : Mm} {Q : Ds → Mm → List MV → Prop} : WP 191 349 [q0, q1, q2, q3] [(0, s0), (0, s1), (4, s2), (0, s3), (0, s4), (2, s5), (0, s6)] ds m Q = (WP 191 350 [q0, q1, q2, q3] [(0, w32 (s1 + s0)), (4, s2), (0, s3), (0, s4), (2, s5), (0, s6)] ds m Q) := P_nx k191_349 rfl
set_option maxRecDepth 20000 in
theorem k191_350 : mjCode 191 350 = some (.iaload, 1, 0, 0) := by decide +kernel
theorem p191_350 {s0 s1 s2 s3 s4 s5 : Int} {q0 q1 q2 q3 : MV} {ds : Ds} {m : Mm} {Q : Ds → Mm → List MV → Prop} : WP 191 350 [q0, q1, q2, q3] [(0, s0), (4, s1), (0, s2), (0, s3), (2, s4), (0, s5)] ds m Q = ((0 ≤ s0 ∧ s0 < m (-3) 0 ∧ WP 191 351 [q0, q1, q2, q3] [(0, m (-2) s0), (0, s2), (0, s3), (2, s4), (0, s5)] ds m Q)) := P_sc k191_350 rfl
set_option maxRecDepth 20000 in
theorem k191_351 : mjCode 191 351 = some (.invokevirtual 35, 3, 135, 4) := by decide +kernel
theorem p191_351 {s0 s1 s2 s3 s4 : Int} {q0 q1 q2 q3 : MV} {ds : Ds} {m : Mm} {Q : Ds → Mm → List MV → Prop} : WP 191 351 [q0, q1, q2, q3] [(0, s0), (0, s1), (0, s2), (2, s3), (0, s4)] ds m Q = ((dk ds s3 = 7 ∧ WP 134 0 [(2, s3), (0, s2), (0, s1), (0, s0)] [] ds m (fun d2 m2 r2 => WP 191 354 [q0, q1, q2, q3] (r2 ++ [(0, s4)]) d2 m2 Q))) := P_cv k191_351 mx134 mo134 rfl rfl rfl rfl rfl rfl rfl rfl
set_option maxRecDepth 20000 in
theorem k191_354 : mjCode 191 354 = some (.if_icmp .eq 748, 3, 1102, 0) := by decide +kernel
theorem p191_354 {s0 s1 : Int} {q0 q1 q2 q3 : MV} {ds : Ds} {m : Mm} {Q : Ds → Mm → List MV → Prop} : WP 191 354 [q0, q1, q2, q3] [(0, s0), (0, s1)] ds m Q = (if s1 = s0 then WP 191 1102 [q0, q1, q2, q3] [] ds m Q else WP 191 357 [q0, q1, q2, q3] [] ds m Q) := P_if k191_354 rfl
set_option maxRecDepth 20000 in
theorem k191_357 : mjCode 191 357 = some (.iconst 0, 1, 0, 0) := by decide +kernel
theorem p191_357 {q0 q1 q2 q3 : MV} {ds : Ds} {m : Mm} {Q : Ds → Mm → List MV → Prop} : WP 191 357 [q0, q1, q2, q3] [] ds m Q = (WP 191 358 [q0, q1, q2, q3] [(0, 0)] ds m Q) := P_nx k191_357 rfl
set_option maxRecDepth 20000 in
theorem k191_358 : mjCode 191 358 = some (.ireturn, 1, 0, 0) := by decide +kernel
theorem p191_358 {s0 : Int} {q0 q1 q2 q3 : MV} {ds : Ds} {m : Mm} {Q : Ds → Mm → List MV → Prop} : WP 191 358 [q0, q1, q2, q3] [(0, s0)] ds m Q = (((s0 = 0 ∨ s0 = 1) ∧ Q ds m [(0, s0)])) := P_rb k191_358 rk191
set_option maxRecDepth 20000 in
theorem k191_359 : mjCode 191 359 = some (.aload_n 1, 1, 0, 0) := by decide +kernel
theorem p191_359 {l1 : Int} {q0 q2 q3 : MV} {ds : Ds} {m : Mm} {Q : Ds → Mm → List MV → Prop} : WP 191 359 [q0, (2, l1), q2, q3] [] ds m Q = (WP 191 360 [q0, (2, l1), q2, q3] [(2, l1)] ds m Q) := P_nx k191_359 rfl
set_option maxRecDepth 20000 in
theorem k191_360 : mjCode 191 360 = some (.invokevirtual 36, 3, 72, 1) := by decide +kernel
theorem p191_360 {s0 : Int} {q0 q1 q2 q3 : MV} {ds : Ds} {m : Mm} {Q : Ds → Mm → List MV → Prop} : WP 191 360 [q0, q1, q2, q3] [(2, s0)] ds m Q = ((dk ds s0 = 6 ∧ WP 71 0 [(2, s0), (3, 0)] [] ds m (fun d2 m2 r2 => WP 191 363 [q0, q1, q2, q3] (r2 ++ []) d2 m2 Q))) := P_cv k191_360 mx71 mo71 rfl rfl rfl rfl rfl rfl rfl rfl
set_option maxRecDepth 20000 in
theorem k191_363 : mjCode 191 363 = some (.aload_n 2, 1, 0, 0) := by decide +kernel
theorem p191_363 {l2 s0 : Int} {q0 q1 q3 : MV} {ds : Ds} {m : Mm} {Q : Ds → Mm → List MV → Prop} : WP 191 363 [q0, q1, (2, l2), q3] [(0, s0)] ds m Q = (WP 191 364 [q0, q1, (2, l2), q3] [(2, l2), (0, s0)] ds m Q) := P_nx k191_363 rfl
set_option maxRecDepth 20000 in
theorem k191_364 : mjCode 191 364 = some (.invokevirtual 40, 3, 136, 1) := by decide +kernel
theorem p191_364 {s0 s1 : Int} {q0 q1 q2 q3 : MV} {ds : Ds} {m : Mm} {Q : Ds → Mm → List MV → Prop} : WP 191 364 [q0, q1, q2, q3] [(2, s0), (0, s1)] ds m Q = ((dk ds s0 = 7 ∧ WP 135 0 [(2, s0), (3, 0)] [] ds m (fun d2 m2 r2 => WP 191 367 [q0, q1, q2, q3] (r2 ++ [(0, s1)]) d2 m2 Q))) := P_cv k191_364 mx135 mo135 rfl rfl rfl rfl rfl rfl rfl rfl
set_option maxRecDepth 20000 in
theorem k191_367 : mjCode 191 367 = some (.if_icmp .eq 735, 3, 1102, 0) := by decide +kernel
theorem p191_367 {s0 s1 : Int} {q0 q1 q2 q3 : MV} {ds : Ds} {m : Mm} {Q : Ds → Mm → List MV → Prop} : WP 191 367 [q0, q1, q2, q3] [(0, s0), (0, s1)] ds m Q = (if s1 = s0 then WP 191 1102 [q0, q1, q2, q3] [] ds m Q else WP 191 370 [q0, q1, q2, q3] [] ds m Q) := P_if k191_367 rfl
set_option maxRecDepth 20000 in
theorem k191_370 : mjCode 191 370 = some (.iconst 0, 1, 0, 0) := by decide +kernel
theorem p191_370 {q0 q1 q2 q3 : MV} {ds : Ds} {m : Mm} {Q : Ds → Mm → List MV → Prop} : WP 191 370 [q0, q1, q2, q3] [] ds m Q = (WP 191 371 [q0, q1, q2, q3] [(0, 0)] ds m Q) := P_nx k191_370 rfl
set_option maxRecDepth 20000 in
theorem k191_371 : mjCode 191 371 = some (.ireturn, 1, 0, 0) := by decide +kernel
theorem p191_371 {s0 : Int} {q0 q1 q2 q3 : MV} {ds : Ds} {m : Mm} {Q : Ds → Mm → List MV → Prop} : WP 191 371 [q0, q1, q2, q3] [(0, s0)] ds m Q = (((s0 = 0 ∨ s0 = 1) ∧ Q ds m [(0, s0)])) := P_rb k191_371 rk191
set_option maxRecDepth 20000 in
theorem k191_372 : mjCode 191 372 = some (.aload_n 1, 1, 0, 0) := by decide +kernel
theorem p191_372 {l1 : Int} {q0 q2 q3 : MV} {ds : Ds} {m : Mm} {Q : Ds → Mm → List MV → Prop} : WP 191 372 [q0, (2, l1), q2, q3] [] ds m Q = (WP 191 373 [q0, (2, l1), q2, q3] [(2, l1)] ds m Q) := P_nx k191_372 rfl
set_option maxRecDepth 20000 in
theorem k191_373 : mjCode 191 373 = some (.aload_n 0, 1, 0, 0) := by decide +kernel
theorem p191_373 {l0 s0 : Int} {q1 q2 q3 : MV} {ds : Ds} {m : Mm} {Q : Ds → Mm → List MV → Prop} : WP 191 373 [(4, l0), q1, q2, q3] [(2, s0)] ds m Q = (WP 191 374 [(4, l0), q1, q2, q3] [(4, l0), (2, s0)] ds m Q) := P_nx k191_373 rfl
set_option maxRecDepth 20000 in
theorem k191_374 : mjCode 191 374 = some (.iload_n 3, 1, 0, 0) := by decide +kernel
theorem p191_374 {l3 s0 s1 : Int} {q0 q1 q2 : MV} {ds : Ds} {m : Mm} {Q : Ds → Mm → List MV → Prop} : WP 191 374 [q0, q1, q2, (0, l3)] [(4, s0), (2, s1)] ds m Q = (WP 191 375 [q0, q1, q2, (0, l3)] [(0, l3), (4, s0), (2, s1)] ds m Q) := P_nx k191_374 rfl
set_option maxRecDepth 20000 in
theorem k191_375 : mjCode 191 375 = some (.iconst 1, 1, 0, 0) := by decide +kernel
theorem p191_375 {s0 s1 s2 : Int} {q0 q1 q2 q3 : MV} {ds : Ds} {m : Mm} {Q : Ds → Mm → List MV → Prop} : WP 191 375 [q0, q1, q2, q3] [(0, s0), (4, s1), (2, s2)] ds m Q = (WP 191 376 [q0, q1, q2, q3] [(0, 1), (0, s0), (4, s1), (2, s2)] ds m Q) := P_nx k191_375 rfl
set_option maxRecDepth 20000 in
theorem k191_376 : mjCode 191 376 = some (.iadd, 1, 0, 0) := by decide +kernel
theorem p191_376 {s0 s1 s2 s3 : Int} {q0 q1 q2 q3 : MV} {ds : Ds} {m : Mm} {Q : Ds → Mm → List MV → Prop} : WP 191 376 [q0, q1, q2, q3] [(0, s0), (0, s1), (4, s2), (2, s3)] ds m Q = (WP 191 377 [q0, q1, q2, q3] [(0, w32 (s1 + s0)), (4, s2), (2, s3)] ds m Q) := P_nx k191_376 rfl
set_option maxRecDepth 20000 in
theorem k191_377 : mjCode 191 377 = some (.iaload, 1, 0, 0) := by decide +kernel
theorem p191_377 {s0 s1 s2 : Int} {q0 q1 q2 q3 : MV} {ds : Ds} {m : Mm} {Q : Ds → Mm → List MV → Prop} : WP 191 377 [q0, q1, q2, q3] [(0, s0), (4, s1), (2, s2)] ds m Q = ((0 ≤ s0 ∧ s0 < m (-3) 0 ∧ WP 191 378 [q0, q1, q2, q3] [(0, m (-2) s0), (2, s2)] ds m Q)) := P_sc k191_377 rfl
set_option maxRecDepth 20000 in
theorem k191_378 : mjCode 191 378 = some (.aload_n 0, 1, 0, 0) := by decide +kernel
theorem p191_378 {l0 s0 s1 : Int} {q1 q2 q3 : MV} {ds : Ds} {m : Mm} {Q : Ds → Mm → List MV → Prop} : WP 191 378 [(4, l0), q1, q2, q3] [(0, s0), (2, s1)] ds m Q = (WP 191 379 [(4, l0), q1, q2, q3] [(4, l0), (0, s0), (2, s1)] ds m Q) := P_nx k191_378 rfl
set_option maxRecDepth 20000 in
theorem k191_379 : mjCode 191 379 = some (.iload_n 3, 1, 0, 0) := by decide +kernel
theorem p191_379 {l3 s0 s1 s2 : Int} {q0 q1 q2 : MV} {ds : Ds} {m : Mm} {Q : Ds → Mm → List MV → Prop} : WP 191 379 [q0, q1, q2, (0, l3)] [(4, s0), (0, s1), (2, s2)] ds m Q = (WP 191 380 [q0, q1, q2, (0, l3)] [(0, l3), (4, s0), (0, s1), (2, s2)] ds m Q) := P_nx k191_379 rfl
set_option maxRecDepth 20000 in
theorem k191_380 : mjCode 191 380 = some (.iconst 2, 1, 0, 0) := by decide +kernel
theorem p191_380 {s0 s1 s2 s3 : Int} {q0 q1 q2 q3 : MV} {ds : Ds} {m : Mm} {Q : Ds → Mm → List MV → Prop} : WP 191 380 [q0, q1, q2, q3] [(0, s0), (4, s1), (0, s2), (2, s3)] ds m Q = (WP 191 381 [q0, q1, q2, q3] [(0, 2), (0, s0), (4, s1), (0, s2), (2, s3)] ds m Q) := P_nx k191_380 rfl
set_option maxRecDepth 20000 in
theorem k191_381 : mjCode 191 381 = some (.iadd, 1, 0, 0) := by decide +kernel
theorem p191_381 {s0 s1 s2 s3 s4 : Int} {q0 q1 q2 q3 : MV} {ds : Ds} {m : Mm} {Q : Ds → Mm → List MV → Prop} : WP 191 381 [q0, q1, q2, q3] [(0, s0), (0, s1), (4, s2), (0, s3), (2, s4)] ds m Q = (WP 191 382 [q0, q1, q2, q3] [(0, w32 (s1 + s0)), (4, s2), (0, s3), (2, s4)] ds m Q) := P_nx k191_381 rfl
set_option maxRecDepth 20000 in
theorem k191_382 : mjCode 191 382 = some (.iaload, 1, 0, 0) := by decide +kernel
theorem p191_382 {s0 s1 s2 s3 : Int} {q0 q1 q2 q3 : MV} {ds : Ds} {m : Mm} {Q : Ds → Mm → List MV → Prop} : WP 191 382 [q0, q1, q2, q3] [(0, s0), (4, s1), (0, s2), (2, s3)] ds m Q = ((0 ≤ s0 ∧ s0 < m (-3) 0 ∧ WP 191 383 [q0, q1, q2, q3] [(0, m (-2) s0), (0, s2), (2, s3)] ds m Q)) := P_sc k191_382 rfl
set_option maxRecDepth 20000 in
theorem k191_383 : mjCode 191 383 = some (.aload_n 0, 1, 0, 0) := by decide +kernel
theorem p191_383 {l0 s0 s1 s2 : Int} {q1 q2 q3 : MV} {ds : Ds} {m : Mm} {Q : Ds → Mm → List MV → Prop} : WP 191 383 [(4, l0), q1, q2, q3] [(0, s0), (0, s1), (2, s2)] ds m Q = (WP 191 384 [(4, l0), q1, q2, q3] [(4, l0), (0, s0), (0, s1), (2, s2)] ds m Q) := P_nx k191_383 rfl
set_option maxRecDepth 20000 in
theorem k191_384 : mjCode 191 384 = some (.iload_n 3, 1, 0, 0) := by decide +kernel
theorem p191_384 {l3 s0 s1 s2 s3 : Int} {q0 q1 q2 : MV} {ds : Ds} {m : Mm} {Q : Ds → Mm → List MV → Prop} : WP 191 384 [q0, q1, q2, (0, l3)] [(4, s0), (0, s1), (0, s2), (2, s3)] ds m Q = (WP 191 385 [q0, q1, q2, (0, l3)] [(0, l3), (4, s0), (0, s1), (0, s2), (2, s3)] ds m Q) := P_nx k191_384 rfl
set_option maxRecDepth 20000 in
theorem k191_385 : mjCode 191 385 = some (.iconst 3, 1, 0, 0) := by decide +kernel
theorem p191_385 {s0 s1 s2 s3 s4 : Int} {q0 q1 q2 q3 : MV} {ds : Ds} {m : Mm} {Q : Ds → Mm → List MV → Prop} : WP 191 385 [q0, q1, q2, q3] [(0, s0), (4, s1), (0, s2), (0, s3), (2, s4)] ds m Q = (WP 191 386 [q0, q1, q2, q3] [(0, 3), (0, s0), (4, s1), (0, s2), (0, s3), (2, s4)] ds m Q) := P_nx k191_385 rfl
set_option maxRecDepth 20000 in
theorem k191_386 : mjCode 191 386 = some (.iadd, 1, 0, 0) := by decide +kernel
theorem p191_386 {s0 s1 s2 s3 s4 s5 : Int} {q0 q1 q2 q3 : MV} {ds : Ds} {m : Mm} {Q : Ds → Mm → List MV → Prop} : WP 191 386 [q0, q1, q2, q3] [(0, s0), (0, s1), (4, s2), (0, s3), (0, s4), (2, s5)] ds m Q = (WP 191 387 [q0, q1, q2, q3] [(0, w32 (s1 + s0)), (4, s2), (0, s3), (0, s4), (2, s5)] ds m Q) := P_nx k191_386 rfl
set_option maxRecDepth 20000 in
theorem k191_387 : mjCode 191 387 = some (.iaload, 1, 0, 0) := by decide +kernel
theorem p191_387 {s0 s1 s2 s3 s4 : Int} {q0 q1 q2 q3 : MV} {ds : Ds} {m : Mm} {Q : Ds → Mm → List MV → Prop} : WP 191 387 [q0, q1, q2, q3] [(0, s0), (4, s1), (0, s2), (0, s3), (2, s4)] ds m Q = ((0 ≤ s0 ∧ s0 < m (-3) 0 ∧ WP 191 388 [q0, q1, q2, q3] [(0, m (-2) s0), (0, s2), (0, s3), (2, s4)] ds m Q)) := P_sc k191_387 rfl
set_option maxRecDepth 20000 in
theorem k191_388 : mjCode 191 388 = some (.invokevirtual 41, 3, 75, 4) := by decide +kernel
theorem p191_388 {s0 s1 s2 s3 : Int} {q0 q1 q2 q3 : MV} {ds : Ds} {m : Mm} {Q : Ds → Mm → List MV → Prop} : WP 191 388 [q0, q1, q2, q3] [(0, s0), (0, s1), (0, s2), (2, s3)] ds m Q = ((dk ds s3 = 6 ∧ WP 74 0 [(2, s3), (0, s2), (0, s1), (0, s0)] [] ds m (fun d2 m2 r2 => WP 191 391 [q0, q1, q2, q3] (r2 ++ []) d2 m2 Q))) := P_cv k191_388 mx74 mo74 rfl rfl rfl rfl rfl rfl rfl rfl
set_option maxRecDepth 20000 in
theorem k191_391 : mjCode 191 391 = some (.aload_n 2, 1, 0, 0) := by decide +kernel
theorem p191_391 {l2 s0 : Int} {q0 q1 q3 : MV} {ds : Ds} {m : Mm} {Q : Ds → Mm → List MV → Prop} : WP 191 391 [q0, q1, (2, l2), q3] [(0, s0)] ds m Q = (WP 191 392 [q0, q1, (2, l2), q3] [(2, l2), (0, s0)] ds m Q) := P_nx k191_391 rfl
set_option maxRecDepth 20000 in
theorem k191_392 : mjCode 191 392 = some (.aload_n 0, 1, 0, 0) := by decide +kernel
theorem p191_392 {l0 s0 s1 : Int} {q1 q2 q3 : MV} {ds : Ds} {m : Mm} {Q : Ds → Mm → List MV → Prop} : WP 191 392 [(4, l0), q1, q2, q3] [(2, s0), (0, s1)] ds m Q = (WP 191 393 [(4, l0), q1, q2, q3] [(4, l0), (2, s0), (0, s1)] ds m Q) := P_nx k191_392 rfl
set_option maxRecDepth 20000 in
theorem k191_393 : mjCode 191 393 = some (.iload_n 3, 1, 0, 0) := by decide +kernel
theorem p191_393 {l3 s0 s1 s2 : Int} {q0 q1 q2 : MV} {ds : Ds} {m : Mm} {Q : Ds → Mm → List MV → Prop} : WP 191 393 [q0, q1, q2, (0, l3)] [(4, s0), (2, s1), (0, s2)] ds m Q = (WP 191 394 [q0, q1, q2, (0, l3)] [(0, l3), (4, s0), (2, s1), (0, s2)] ds m Q) := P_nx k191_393 rfl
set_option maxRecDepth 20000 in
theorem k191_394 : mjCode 191 394 = some (.iconst 1, 1, 0, 0) := by decide +kernel
theorem p191_394 {s0 s1 s2 s3 : Int} {q0 q1 q2 q3 : MV} {ds : Ds} {m : Mm} {Q : Ds → Mm → List MV → Prop} : WP 191 394 [q0, q1, q2, q3] [(0, s0), (4, s1), (2, s2), (0, s3)] ds m Q = (WP 191 395 [q0, q1, q2, q3] [(0, 1), (0, s0), (4, s1), (2, s2), (0, s3)] ds m Q) := P_nx k191_394 rfl
set_option maxRecDepth 20000 in
theorem k191_395 : mjCode 191 395 = some (.iadd, 1, 0, 0) := by decide +kernel
theorem p191_395 {s0 s1 s2 s3 s4 : Int} {q0 q1 q2 q3 : MV} {ds : Ds} {m : Mm} {Q : Ds → Mm → List MV → Prop} : WP 191 395 [q0, q1, q2, q3] [(0, s0), (0, s1), (4, s2), (2, s3), (0, s4)] ds m Q = (WP 191 396 [q0, q1, q2, q3] [(0, w32 (s1 + s0)), (4, s2), (2, s3), (0, s4)] ds m Q) := P_nx k191_395 rfl
set_option maxRecDepth 20000 in
theorem k191_396 : mjCode 191 396 = some (.iaload, 1, 0, 0) := by decide +kernel
theorem p191_396 {s0 s1 s2 s3 : Int} {q0 q1 q2 q3 : MV} {ds : Ds} {m : Mm} {Q : Ds → Mm → List MV → Prop} : WP 191 396 [q0, q1, q2, q3] [(0, s0), (4, s1), (2, s2), (0, s3)] ds m Q = ((0 ≤ s0 ∧ s0 < m (-3) 0 ∧ WP 191 397 [q0, q1, q2, q3] [(0, m (-2) s0), (2, s2), (0, s3)] ds m Q)) := P_sc k191_396 rfl
set_option maxRecDepth 20000 in
theorem k191_397 : mjCode 191 397 = some (.aload_n 0, 1, 0, 0) := by decide +kernel
theorem p191_397 {l0 s0 s1 s2 : Int} {q1 q2 q3 : MV} {ds : Ds} {m : Mm} {Q : Ds → Mm → List MV → Prop} : WP 191 397 [(4, l0), q1, q2, q3] [(0, s0), (2, s1), (0, s2)] ds m Q = (WP 191 398 [(4, l0), q1, q2, q3] [(4, l0), (0, s0), (2, s1), (0, s2)] ds m Q) := P_nx k191_397 rfl
set_option maxRecDepth 20000 in
theorem k191_398 : mjCode 191 398 = some (.iload_n 3, 1, 0, 0) := by decide +kernel
theorem p191_398 {l3 s0 s1 s2 s3 : Int} {q0 q1 q2 : MV} {ds : Ds} {m : Mm} {Q : Ds → Mm → List MV → Prop} : WP 191 398 [q0, q1, q2, (0, l3)] [(4, s0), (0, s1), (2, s2), (0, s3)] ds m Q = (WP 191 399 [q0, q1, q2, (0, l3)] [(0, l3), (4, s0), (0, s1), (2, s2), (0, s3)] ds m Q) := P_nx k191_398 rfl
set_option maxRecDepth 20000 in
theorem k191_399 : mjCode 191 399 = some (.iconst 2, 1, 0, 0) := by decide +kernel
theorem p191_399 {s0 s1 s2 s3 s4 : Int} {q0 q1 q2 q3 : MV} {ds : Ds} {m : Mm} {Q : Ds → Mm → List MV → Prop} : WP 191 399 [q0, q1, q2, q3] [(0, s0), (4, s1), (0, s2), (2, s3), (0, s4)] ds m Q = (WP 191 400 [q0, q1, q2, q3] [(0, 2), (0, s0), (4, s1), (0, s2), (2, s3), (0, s4)] ds m Q) := P_nx k191_399 rfl
set_option maxRecDepth 20000 in
theorem k191_400 : mjCode 191 400 = some (.iadd, 1, 0, 0) := by decide +kernel
theorem p191_400 {s0 s1 s2 s3 s4 s5 : Int} {q0 q1 q2 q3 : MV} {ds : Ds} {m : Mm} {Q : Ds → Mm → List MV → Prop} : WP 191 400 [q0, q1, q2, q3] [(0, s0), (0, s1), (4, s2), (0, s3), (2, s4), (0, s5)] ds m Q = (WP 191 401 [q0, q1, q2, q3] [(0, w32 (s1 + s0)), (4, s2), (0, s3), (2, s4), (0, s5)] ds m Q) := P_nx k191_400 rfl
set_option maxRecDepth 20000 in
theorem k191_401 : mjCode 191 401 = some (.iaload, 1, 0, 0) := by decide +kernel
theorem p191_401 {s0 s1 s2 s3 s4 : Int} {q0 q1 q2 q3 : MV} {ds : Ds} {m : Mm} {Q : Ds → Mm → List MV → Prop} : WP 191 401 [q0, q1, q2, q3] [(0, s0), (4, s1), (0, s2), (2, s3), (0, s4)] ds m Q = ((0 ≤ s0 ∧ s0 < m (-3) 0 ∧ WP 191 402 [q0, q1, q2, q3] [(0, m (-2) s0), (0, s2), (2, s3), (0, s4)] ds m Q)) := P_sc k191_401 rfl
set_option maxRecDepth 20000 in
theorem k191_402 : mjCode 191 402 = some (.aload_n 0, 1, 0, 0) := by decide +kernel
theorem p191_402 {l0 s0 s1 s2 s3 : Int} {q1 q2 q3 : MV} {ds : Ds} {m : Mm} {Q : Ds → Mm → List MV → Prop} : WP 191 402 [(4, l0), q1, q2, q3] [(0, s0), (0, s1), (2, s2), (0, s3)] ds m Q = (WP 191 403 [(4, l0), q1, q2, q3] [(4, l0), (0, s0), (0, s1), (2, s2), (0, s3)] ds m Q) := P_nx k191_402 rfl
set_option maxRecDepth 20000 in
theorem k191_403 : mjCode 191 403 = some (.iload_n 3, 1, 0, 0) := by decide +kernel
theorem p191_403 {l3 s0 s1 s2 s3 s4 : Int} {q0 q1 q2 : MV} {ds : Ds} {m : Mm} {Q : Ds → Mm → List MV → Prop} : WP 191 403 [q0, q1, q2, (0, l3)] [(4, s0), (0, s1), (0, s2), (2, s3), (0, s4)] ds m Q = (WP 191 404 [q0, q1, q2, (0, l3)] [(0, l3), (4, s0), (0, s1), (0, s2), (2, s3), (0, s4)] ds m Q) := P_nx k191_403 rfl
set_option maxRecDepth 20000 in
theorem k191_404 : mjCode 191 404 = some (.iconst 3, 1, 0, 0) := by decide +kernel
theorem p191_404 {s0 s1 s2 s3 s4 s5 : Int} {q0 q1 q2 q3 : MV} {ds : Ds} {m : Mm} {Q : Ds → Mm → List MV → Prop} : WP 191 404 [q0, q1, q2, q3] [(0, s0), (4, s1), (0, s2), (0, s3), (2, s4), (0, s5)] ds m Q = (WP 191 405 [q0, q1, q2, q3] [(0, 3), (0, s0), (4, s1), (0, s2), (0, s3), (2, s4), (0, s5)] ds m Q) := P_nx k191_404 rfl
set_option maxRecDepth 20000 in
theorem k191_405 : mjCode 191 405 = some (.iadd, 1, 0, 0) := by decide +kernel
theorem p191_405 {s0 s1 s2 s3 s4 s5 s6 : Int} {q0 q1 q2 q3 : MV} {ds : Ds} {m : Mm} {Q : Ds → Mm → List MV → Prop} : WP 191 405 [q0, q1, q2, q3] [(0, s0), (0, s1), (4, s2), (0, s3), (0, s4), (2, s5), (0, s6)] ds m Q = (WP 191 406 [q0, q1, q2, q3] [(0, w32 (s1 + s0)), (4, s2), (0, s3), (0, s4), (2, s5), (0, s6)] ds m Q) := P_nx k191_405 rfl
set_option maxRecDepth 20000 in
theorem k191_406 : mjCode 191 406 = some (.iaload, 1, 0, 0) := by decide +kernel
theorem p191_406 {s0 s1 s2 s3 s4 s5 : Int} {q0 q1 q2 q3 : MV} {ds : Ds} {m : Mm} {Q : Ds → Mm → List MV → Prop} : WP 191 406 [q0, q1, q2, q3] [(0, s0), (4, s1), (0, s2), (0, s3), (2, s4), (0, s5)] ds m Q = ((0 ≤ s0 ∧ s0 < m (-3) 0 ∧ WP 191 407 [q0, q1, q2, q3] [(0, m (-2) s0), (0, s2), (0, s3), (2, s4), (0, s5)] ds m Q)) := P_sc k191_406 rfl
set_option maxRecDepth 20000 in
theorem k191_407 : mjCode 191 407 = some (.invokevirtual 44, 3, 144, 4) := by decide +kernel
theorem p191_407 {s0 s1 s2 s3 s4 : Int} {q0 q1 q2 q3 : MV} {ds : Ds} {m : Mm} {Q : Ds → Mm → List MV → Prop} : WP 191 407 [q0, q1, q2, q3] [(0, s0), (0, s1), (0, s2), (2, s3), (0, s4)] ds m Q = ((dk ds s3 = 7 ∧ WP 143 0 [(2, s3), (0, s2), (0, s1), (0, s0), (3, 0)] [] ds m (fun d2 m2 r2 => WP 191 410 [q0, q1, q2, q3] (r2 ++ [(0, s4)]) d2 m2 Q))) := P_cv k191_407 mx143 mo143 rfl rfl rfl rfl rfl rfl rfl rfl
set_option maxRecDepth 20000 in
theorem k191_410 : mjCode 191 410 = some (.if_icmp .eq 692, 3, 1102, 0) := by decide +kernel
theorem p191_410 {s0 s1 : Int} {q0 q1 q2 q3 : MV} {ds : Ds} {m : Mm} {Q : Ds → Mm → List MV → Prop} : WP 191 410 [q0, q1, q2, q3] [(0, s0), (0, s1)] ds m Q = (if s1 = s0 then WP 191 1102 [q0, q1, q2, q3] [] ds m Q else WP 191 413 [q0, q1, q2, q3] [] ds m Q) := P_if k191_410 rfl
set_option maxRecDepth 20000 in
theorem k191_413 : mjCode 191 413 = some (.iconst 0, 1, 0, 0) := by decide +kernel
theorem p191_413 {q0 q1 q2 q3 : MV} {ds : Ds} {m : Mm} {Q : Ds → Mm → List MV → Prop} : WP 191 413 [q0, q1, q2, q3] [] ds m Q = (WP 191 414 [q0, q1, q2, q3] [(0, 0)] ds m Q) := P_nx k191_413 rfl
set_option maxRecDepth 20000 in
theorem k191_414 : mjCode 191 414 = some (.ireturn, 1, 0, 0) := by decide +kernel
theorem p191_414 {s0 : Int} {q0 q1 q2 q3 : MV} {ds : Ds} {m : Mm} {Q : Ds → Mm → List MV → Prop} : WP 191 414 [q0, q1, q2, q3] [(0, s0)] ds m Q = (((s0 = 0 ∨ s0 = 1) ∧ Q ds m [(0, s0)])) := P_rb k191_414 rk191
set_option maxRecDepth 20000 in
theorem k191_415 : mjCode 191 415 = some (.aload_n 1, 1, 0, 0) := by decide +kernel
theorem p191_415 {l1 : Int} {q0 q2 q3 : MV} {ds : Ds} {m : Mm} {Q : Ds → Mm → List MV → Prop} : WP 191 415 [q0, (2, l1), q2, q3] [] ds m Q = (WP 191 416 [q0, (2, l1), q2, q3] [(2, l1)] ds m Q) := P_nx k191_415 rfl
set_option maxRecDepth 20000 in
theorem k191_416 : mjCode 191 416 = some (.aload_n 0, 1, 0, 0) := by decide +kernel
theorem p191_416 {l0 s0 : Int} {q1 q2 q3 : MV} {ds : Ds} {m : Mm} {Q : Ds → Mm → List MV → Prop} : WP 191 416 [(4, l0), q1, q2, q3] [(2, s0)] ds m Q = (WP 191 417 [(4, l0), q1, q2, q3] [(4, l0), (2, s0)] ds m Q) := P_nx k191_416 rfl
set_option maxRecDepth 20000 in
theorem k191_417 : mjCode 191 417 = some (.iload_n 3, 1, 0, 0) := by decide +kernel
theorem p191_417 {l3 s0 s1 : Int} {q0 q1 q2 : MV} {ds : Ds} {m : Mm} {Q : Ds → Mm → List MV → Prop} : WP 191 417 [q0, q1, q2, (0, l3)] [(4, s0), (2, s1)] ds m Q = (WP 191 418 [q0, q1, q2, (0, l3)] [(0, l3), (4, s0), (2, s1)] ds m Q) := P_nx k191_417 rfl
set_option maxRecDepth 20000 in
theorem k191_418 : mjCode 191 418 = some (.iconst 1, 1, 0, 0) := by decide +kernel
theorem p191_418 {s0 s1 s2 : Int} {q0 q1 q2 q3 : MV} {ds : Ds} {m : Mm} {Q : Ds → Mm → List MV → Prop} : WP 191 418 [q0, q1, q2, q3] [(0, s0), (4, s1), (2, s2)] ds m Q = (WP 191 419 [q0, q1, q2, q3] [(0, 1), (0, s0), (4, s1), (2, s2)] ds m Q) := P_nx k191_418 rfl
set_option maxRecDepth 20000 in
theorem k191_419 : mjCode 191 419 = some (.iadd, 1, 0, 0) := by decide +kernel
theorem p191_419 {s0 s1 s2 s3 : Int} {q0 q1 q2 q3 : MV} {ds : Ds} {m : Mm} {Q : Ds → Mm → List MV → Prop} : WP 191 419 [q0, q1, q2, q3] [(0, s0), (0, s1), (4, s2), (2, s3)] ds m Q = (WP 191 420 [q0, q1, q2, q3] [(0, w32 (s1 + s0)), (4, s2), (2, s3)] ds m Q) := P_nx k191_419 rfl
set_option maxRecDepth 20000 in
theorem k191_420 : mjCode 191 420 = some (.iaload, 1, 0, 0) := by decide +kernel
theorem p191_420 {s0 s1 s2 : Int} {q0 q1 q2 q3 : MV} {ds : Ds} {m : Mm} {Q : Ds → Mm → List MV → Prop} : WP 191 420 [q0, q1, q2, q3] [(0, s0), (4, s1), (2, s2)] ds m Q = ((0 ≤ s0 ∧ s0 < m (-3) 0 ∧ WP 191 421 [q0, q1, q2, q3] [(0, m (-2) s0), (2, s2)] ds m Q)) := P_sc k191_420 rfl
set_option maxRecDepth 20000 in
theorem k191_421 : mjCode 191 421 = some (.aload_n 0, 1, 0, 0) := by decide +kernel
theorem p191_421 {l0 s0 s1 : Int} {q1 q2 q3 : MV} {ds : Ds} {m : Mm} {Q : Ds → Mm → List MV → Prop} : WP 191 421 [(4, l0), q1, q2, q3] [(0, s0), (2, s1)] ds m Q = (WP 191 422 [(4, l0), q1, q2, q3] [(4, l0), (0, s0), (2, s1)] ds m Q) := P_nx k191_421 rfl
set_option maxRecDepth 20000 in
theorem k191_422 : mjCode 191 422 = some (.iload_n 3, 1, 0, 0) := by decide +kernel
theorem p191_422 {l3 s0 s1 s2 : Int} {q0 q1 q2 : MV} {ds : Ds} {m : Mm} {Q : Ds → Mm → List MV → Prop} : WP 191 422 [q0, q1, q2, (0, l3)] [(4, s0), (0, s1), (2, s2)] ds m Q = (WP 191 423 [q0, q1, q2, (0, l3)] [(0, l3), (4, s0), (0, s1), (2, s2)] ds m Q) := P_nx k191_422 rfl
set_option maxRecDepth 20000 in
theorem k191_423 : mjCode 191 423 = some (.iconst 2, 1, 0, 0) := by decide +kernel
theorem p191_423 {s0 s1 s2 s3 : Int} {q0 q1 q2 q3 : MV} {ds : Ds} {m : Mm} {Q : Ds → Mm → List MV → Prop} : WP 191 423 [q0, q1, q2, q3] [(0, s0), (4, s1), (0, s2), (2, s3)] ds m Q = (WP 191 424 [q0, q1, q2, q3] [(0, 2), (0, s0), (4, s1), (0, s2), (2, s3)] ds m Q) := P_nx k191_423 rfl
set_option maxRecDepth 20000 in
theorem k191_424 : mjCode 191 424 = some (.iadd, 1, 0, 0) := by decide +kernel
theorem p191_424 {s0 s1 s2 s3 s4 : Int} {q0 q1 q2 q3 : MV} {ds : Ds} {m : Mm} {Q : Ds → Mm → List MV → Prop} : WP 191 424 [q0, q1, q2, q3] [(0, s0), (0, s1), (4, s2), (0, s3), (2, s4)] ds m Q = (WP 191 425 [q0, q1, q2, q3] [(0, w32 (s1 + s0)), (4, s2), (0, s3), (2, s4)] ds m Q) := P_nx k191_424 rfl
set_option maxRecDepth 20000 in
theorem k191_425 : mjCode 191 425 = some (.iaload, 1, 0, 0) := by decide +kernel
theorem p191_425 {s0 s1 s2 s3 : Int} {q0 q1 q2 q3 : MV} {ds : Ds} {m : Mm} {Q : Ds → Mm → List MV → Prop} : WP 191 425 [q0, q1, q2, q3] [(0, s0), (4, s1), (0, s2), (2, s3)] ds m Q = ((0 ≤ s0 ∧ s0 < m (-3) 0 ∧ WP 191 426 [q0, q1, q2, q3] [(0, m (-2) s0), (0, s2), (2, s3)] ds m Q)) := P_sc k191_425 rfl
set_option maxRecDepth 20000 in
theorem k191_426 : mjCode 191 426 = some (.aload_n 0, 1, 0, 0) := by decide +kernel
theorem p191_426 {l0 s0 s1 s2 : Int} {q1 q2 q3 : MV} {ds : Ds} {m : Mm} {Q : Ds → Mm → List MV → Prop} : WP 191 426 [(4, l0), q1, q2, q3] [(0, s0), (0, s1), (2, s2)] ds m Q = (WP 191 427 [(4, l0), q1, q2, q3] [(4, l0), (0, s0), (0, s1), (2, s2)] ds m Q) := P_nx k191_426 rfl
set_option maxRecDepth 20000 in
theorem k191_427 : mjCode 191 427 = some (.iload_n 3, 1, 0, 0) := by decide +kernel
theorem p191_427 {l3 s0 s1 s2 s3 : Int} {q0 q1 q2 : MV} {ds : Ds} {m : Mm} {Q : Ds → Mm → List MV → Prop} : WP 191 427 [q0, q1, q2, (0, l3)] [(4, s0), (0, s1), (0, s2), (2, s3)] ds m Q = (WP 191 428 [q0, q1, q2, (0, l3)] [(0, l3), (4, s0), (0, s1), (0, s2), (2, s3)] ds m Q) := P_nx k191_427 rfl
set_option maxRecDepth 20000 in
theorem k191_428 : mjCode 191 428 = some (.iconst 3, 1, 0, 0) := by decide +kernel
theorem p191_428 {s0 s1 s2 s3 s4 : Int} {q0 q1 q2 q3 : MV} {ds : Ds} {m : Mm} {Q : Ds → Mm → List MV → Prop} : WP 191 428 [q0, q1, q2, q3] [(0, s0), (4, s1), (0, s2), (0, s3), (2, s4)] ds m Q = (WP 191 429 [q0, q1, q2, q3] [(0, 3), (0, s0), (4, s1), (0, s2), (0, s3), (2, s4)] ds m Q) := P_nx k191_428 rfl
set_option maxRecDepth 20000 in
theorem k191_429 : mjCode 191 429 = some (.iadd, 1, 0, 0) := by decide +kernel
theorem p191_429 {s0 s1 s2 s3 s4 s5 : Int} {q0 q1 q2 q3 : MV} {ds : Ds} {m : Mm} {Q : Ds → Mm → List MV → Prop} : WP 191 429 [q0, q1, q2, q3] [(0, s0), (0, s1), (4, s2), (0, s3), (0, s4), (2, s5)] ds m Q = (WP 191 430 [q0, q1, q2, q3] [(0, w32 (s1 + s0)), (4, s2), (0, s3), (0, s4), (2, s5)] ds m Q) := P_nx k191_429 rfl
set_option maxRecDepth 20000 in
theorem k191_430 : mjCode 191 430 = some (.iaload, 1, 0, 0) := by decide +kernel
theorem p191_430 {s0 s1 s2 s3 s4 : Int} {q0 q1 q2 q3 : MV} {ds : Ds} {m : Mm} {Q : Ds → Mm → List MV → Prop} : WP 191 430 [q0, q1, q2, q3] [(0, s0), (4, s1), (0, s2), (0, s3), (2, s4)] ds m Q = ((0 ≤ s0 ∧ s0 < m (-3) 0 ∧ WP 191 431 [q0, q1, q2, q3] [(0, m (-2) s0), (0, s2), (0, s3), (2, s4)] ds m Q)) := P_sc k191_430 rfl
set_option maxRecDepth 20000 in
theorem k191_431 : mjCode 191 431 = some (.i2l, 1, 0, 0) := by decide +kernel
theorem p191_431 {s0 s1 s2 s3 : Int} {q0 q1 q2 q3 : MV} {ds : Ds} {m : Mm} {Q : Ds → Mm → List MV → Prop} : WP 191 431 [q0, q1, q2, q3] [(0, s0), (0, s1), (0, s2), (2, s3)] ds m Q = (WP 191 432 [q0, q1, q2, q3] [(1, s0), (0, s1), (0, s2), (2, s3)] ds m Q) := P_nx k191_431 rfl
set_option maxRecDepth 20000 in
theorem k191_432 : mjCode 191 432 = some (.bipush 32, 2, 0, 0) := by decide +kernel
theorem p191_432 {s0 s1 s2 s3 : Int} {q0 q1 q2 q3 : MV} {ds : Ds} {m : Mm} {Q : Ds → Mm → List MV → Prop} : WP 191 432 [q0, q1, q2, q3] [(1, s0), (0, s1), (0, s2), (2, s3)] ds m Q = (WP 191 434 [q0, q1, q2, q3] [(0, 32), (1, s0), (0, s1), (0, s2), (2, s3)] ds m Q) := P_nx k191_432 rfl
set_option maxRecDepth 20000 in
theorem k191_434 : mjCode 191 434 = some (.lshl, 1, 0, 0) := by decide +kernel
theorem p191_434 {s0 s1 s2 s3 s4 : Int} {q0 q1 q2 q3 : MV} {ds : Ds} {m : Mm} {Q : Ds → Mm → List MV → Prop} : WP 191 434 [q0, q1, q2, q3] [(0, s0), (1, s1), (0, s2), (0, s3), (2, s4)] ds m Q = (WP 191 435 [q0, q1, q2, q3] [(1, jlshl s1 s0), (0, s2), (0, s3), (2, s4)] ds m Q) := P_nx k191_434 rfl
set_option maxRecDepth 20000 in
theorem k191_435 : mjCode 191 435 = some (.aload_n 0, 1, 0, 0) := by decide +kernel
theorem p191_435 {l0 s0 s1 s2 s3 : Int} {q1 q2 q3 : MV} {ds : Ds} {m : Mm} {Q : Ds → Mm → List MV → Prop} : WP 191 435 [(4, l0), q1, q2, q3] [(1, s0), (0, s1), (0, s2), (2, s3)] ds m Q = (WP 191 436 [(4, l0), q1, q2, q3] [(4, l0), (1, s0), (0, s1), (0, s2), (2, s3)] ds m Q) := P_nx k191_435 rfl
set_option maxRecDepth 20000 in
theorem k191_436 : mjCode 191 436 = some (.iload_n 3, 1, 0, 0) := by decide +kernel
theorem p191_436 {l3 s0 s1 s2 s3 s4 : Int} {q0 q1 q2 : MV} {ds : Ds} {m : Mm} {Q : Ds → Mm → List MV → Prop} : WP 191 436 [q0, q1, q2, (0, l3)] [(4, s0), (1, s1), (0, s2), (0, s3), (2, s4)] ds m Q = (WP 191 437 [q0, q1, q2, (0, l3)] [(0, l3), (4, s0), (1, s1), (0, s2), (0, s3), (2, s4)] ds m Q) := P_nx k191_436 rfl
set_option maxRecDepth 20000 in
theorem k191_437 : mjCode 191 437 = some (.iconst 4, 1, 0, 0) := by decide +kernel
theorem p191_437 {s0 s1 s2 s3 s4 s5 : Int} {q0 q1 q2 q3 : MV} {ds : Ds} {m : Mm} {Q : Ds → Mm → List MV → Prop} : WP 191 437 [q0, q1, q2, q3] [(0, s0), (4, s1), (1, s2), (0, s3), (0, s4), (2, s5)] ds m Q = (WP 191 438 [q0, q1, q2, q3] [(0, 4), (0, s0), (4, s1), (1, s2), (0, s3), (0, s4), (2, s5)] ds m Q) := P_nx k191_437 rfl
set_option maxRecDepth 20000 in
theorem k191_438 : mjCode 191 438 = some (.iadd, 1, 0, 0) := by decide +kernel
theorem p191_438 {s0 s1 s2 s3 s4 s5 s6 : Int} {q0 q1 q2 q3 : MV} {ds : Ds} {m : Mm} {Q : Ds → Mm → List MV → Prop} : WP 191 438 [q0, q1, q2, q3] [(0, s0), (0, s1), (4, s2), (1, s3), (0, s4), (0, s5), (2, s6)] ds m Q = (WP 191 439 [q0, q1, q2, q3] [(0, w32 (s1 + s0)), (4, s2), (1, s3), (0, s4), (0, s5), (2, s6)] ds m Q) := P_nx k191_438 rfl
set_option maxRecDepth 20000 in
theorem k191_439 : mjCode 191 439 = some (.iaload, 1, 0, 0) := by decide +kernel
theorem p191_439 {s0 s1 s2 s3 s4 s5 : Int} {q0 q1 q2 q3 : MV} {ds : Ds} {m : Mm} {Q : Ds → Mm → List MV → Prop} : WP 191 439 [q0, q1, q2, q3] [(0, s0), (4, s1), (1, s2), (0, s3), (0, s4), (2, s5)] ds m Q = ((0 ≤ s0 ∧ s0 < m (-3) 0 ∧ WP 191 440 [q0, q1, q2, q3] [(0, m (-2) s0), (1, s2), (0, s3), (0, s4), (2, s5)] ds m Q)) := P_sc k191_439 rfl
set_option maxRecDepth 20000 in
theorem k191_440 : mjCode 191 440 = some (.i2l, 1, 0, 0) := by decide +kernel
theorem p191_440 {s0 s1 s2 s3 s4 : Int} {q0 q1 q2 q3 : MV} {ds : Ds} {m : Mm} {Q : Ds → Mm → List MV → Prop} : WP 191 440 [q0, q1, q2, q3] [(0, s0), (1, s1), (0, s2), (0, s3), (2, s4)] ds m Q = (WP 191 441 [q0, q1, q2, q3] [(1, s0), (1, s1), (0, s2), (0, s3), (2, s4)] ds m Q) := P_nx k191_440 rfl
set_option maxRecDepth 20000 in
theorem k191_441 : mjCode 191 441 = some (.ldc2_w 45, 3, 4294967295, 0) := by decide +kernel
theorem p191_441 {s0 s1 s2 s3 s4 : Int} {q0 q1 q2 q3 : MV} {ds : Ds} {m : Mm} {Q : Ds → Mm → List MV → Prop} : WP 191 441 [q0, q1, q2, q3] [(1, s0), (1, s1), (0, s2), (0, s3), (2, s4)] ds m Q = (WP 191 444 [q0, q1, q2, q3] [(1, 4294967295), (1, s0), (1, s1), (0, s2), (0, s3), (2, s4)] ds m Q) := P_nx k191_441 rfl
set_option maxRecDepth 20000 in
theorem k191_444 : mjCode 191 444 = some (.land, 1, 0, 0) := by decide +kernel
theorem p191_444 {s0 s1 s2 s3 s4 s5 : Int} {q0 q1 q2 q3 : MV} {ds : Ds} {m : Mm} {Q : Ds → Mm → List MV → Prop} : WP 191 444 [q0, q1, q2, q3] [(1, s0), (1, s1), (1, s2), (0, s3), (0, s4), (2, s5)] ds m Q = (WP 191 445 [q0, q1, q2, q3] [(1, jland s1 s0), (1, s2), (0, s3), (0, s4), (2, s5)] ds m Q) := P_nx k191_444 rfl
set_option maxRecDepth 20000 in
theorem k191_445 : mjCode 191 445 = some (.lor, 1, 0, 0) := by decide +kernel
theorem p191_445 {s0 s1 s2 s3 s4 : Int} {q0 q1 q2 q3 : MV} {ds : Ds} {m : Mm} {Q : Ds → Mm → List MV → Prop} : WP 191 445 [q0, q1, q2, q3] [(1, s0), (1, s1), (0, s2), (0, s3), (2, s4)] ds m Q = (WP 191 446 [q0, q1, q2, q3] [(1, jlor s1 s0), (0, s2), (0, s3), (2, s4)] ds m Q) := P_nx k191_445 rfl
set_option maxRecDepth 20000 in
theorem k191_446 : mjCode 191 446 = some (.invokevirtual 47, 3, 76, 4) := by decide +kernel
theorem p191_446 {s0 s1 s2 s3 : Int} {q0 q1 q2 q3 : MV} {ds : Ds} {m : Mm} {Q : Ds → Mm → List MV → Prop} : WP 191 446 [q0, q1, q2, q3] [(1, s0), (0, s1), (0, s2), (2, s3)] ds m Q = ((dk ds s3 = 6 ∧ WP 75 0 [(2, s3), (0, s2), (0, s1), (1, s0), (3, 0), (3, 0)] [] ds m (fun d2 m2 r2 => WP 191 449 [q0, q1, q2, q3] (r2 ++ []) d2 m2 Q))) := P_cv k191_446 mx75 mo75 rfl rfl rfl rfl rfl rfl rfl rfl
set_option maxRecDepth 20000 in
theorem k191_449 : mjCode 191 449 = some (.aload_n 2, 1, 0, 0) := by decide +kernel
theorem p191_449 {l2 s0 : Int} {q0 q1 q3 : MV} {ds : Ds} {m : Mm} {Q : Ds → Mm → List MV → Prop} : WP 191 449 [q0, q1, (2, l2), q3] [(0, s0)] ds m Q = (WP 191 450 [q0, q1, (2, l2), q3] [(2, l2), (0, s0)] ds m Q) := P_nx k191_449 rfl
set_option maxRecDepth 20000 in
theorem k191_450 : mjCode 191 450 = some (.aload_n 0, 1, 0, 0) := by decide +kernel
theorem p191_450 {l0 s0 s1 : Int} {q1 q2 q3 : MV} {ds : Ds} {m : Mm} {Q : Ds → Mm → List MV → Prop} : WP 191 450 [(4, l0), q1, q2, q3] [(2, s0), (0, s1)] ds m Q = (WP 191 451 [(4, l0), q1, q2, q3] [(4, l0), (2, s0), (0, s1)] ds m Q) := P_nx k191_450 rfl
set_option maxRecDepth 20000 in
theorem k191_451 : mjCode 191 451 = some (.iload_n 3, 1, 0, 0) := by decide +kernel
theorem p191_451 {l3 s0 s1 s2 : Int} {q0 q1 q2 : MV} {ds : Ds} {m : Mm} {Q : Ds → Mm → List MV → Prop} : WP 191 451 [q0, q1, q2, (0, l3)] [(4, s0), (2, s1), (0, s2)] ds m Q = (WP 191 452 [q0, q1, q2, (0, l3)] [(0, l3), (4, s0), (2, s1), (0, s2)] ds m Q) := P_nx k191_451 rfl
set_option maxRecDepth 20000 in
theorem k191_452 : mjCode 191 452 = some (.iconst 1, 1, 0, 0) := by decide +kernel
theorem p191_452 {s0 s1 s2 s3 : Int} {q0 q1 q2 q3 : MV} {ds : Ds} {m : Mm} {Q : Ds → Mm → List MV → Prop} : WP 191 452 [q0, q1, q2, q3] [(0, s0), (4, s1), (2, s2), (0, s3)] ds m Q = (WP 191 453 [q0, q1, q2, q3] [(0, 1), (0, s0), (4, s1), (2, s2), (0, s3)] ds m Q) := P_nx k191_452 rfl
set_option maxRecDepth 20000 in
theorem k191_453 : mjCode 191 453 = some (.iadd, 1, 0, 0) := by decide +kernel
theorem p191_453 {s0 s1 s2 s3 s4 : Int} {q0 q1 q2 q3 : MV} {ds : Ds} {m : Mm} {Q : Ds → Mm → List MV → Prop} : WP 191 453 [q0, q1, q2, q3] [(0, s0), (0, s1), (4, s2), (2, s3), (0, s4)] ds m Q = (WP 191 454 [q0, q1, q2, q3] [(0, w32 (s1 + s0)), (4, s2), (2, s3), (0, s4)] ds m Q) := P_nx k191_453 rfl
set_option maxRecDepth 20000 in
theorem k191_454 : mjCode 191 454 = some (.iaload, 1, 0, 0) := by decide +kernel
theorem p191_454 {s0 s1 s2 s3 : Int} {q0 q1 q2 q3 : MV} {ds : Ds} {m : Mm} {Q : Ds → Mm → List MV → Prop} : WP 191 454 [q0, q1, q2, q3] [(0, s0), (4, s1), (2, s2), (0, s3)] ds m Q = ((0 ≤ s0 ∧ s0 < m (-3) 0 ∧ WP 191 455 [q0, q1, q2, q3] [(0, m (-2) s0), (2, s2), (0, s3)] ds m Q)) := P_sc k191_454 rfl
set_option maxRecDepth 20000 in
theorem k191_455 : mjCode 191 455 = some (.aload_n 0, 1, 0, 0) := by decide +kernel
theorem p191_455 {l0 s0 s1 s2 : Int} {q1 q2 q3 : MV} {ds : Ds} {m : Mm} {Q : Ds → Mm → List MV → Prop} : WP 191 455 [(4, l0), q1, q2, q3] [(0, s0), (2, s1), (0, s2)] ds m Q = (WP 191 456 [(4, l0), q1, q2, q3] [(4, l0), (0, s0), (2, s1), (0, s2)] ds m Q) := P_nx k191_455 rfl
set_option maxRecDepth 20000 in
theorem k191_456 : mjCode 191 456 = some (.iload_n 3, 1, 0, 0) := by decide +kernel
theorem p191_456 {l3 s0 s1 s2 s3 : Int} {q0 q1 q2 : MV} {ds : Ds} {m : Mm} {Q : Ds → Mm → List MV → Prop} : WP 191 456 [q0, q1, q2, (0, l3)] [(4, s0), (0, s1), (2, s2), (0, s3)] ds m Q = (WP 191 457 [q0, q1, q2, (0, l3)] [(0, l3), (4, s0), (0, s1), (2, s2), (0, s3)] ds m Q) := P_nx k191_456 rfl
set_option maxRecDepth 20000 in
theorem k191_457 : mjCode 191 457 = some (.iconst 2, 1, 0, 0) := by decide +kernel
theorem p191_457 {s0 s1 s2 s3 s4 : Int} {q0 q1 q2 q3 : MV} {ds : Ds} {m : Mm} {Q : Ds → Mm → List MV → Prop} : WP 191 457 [q0, q1, q2, q3] [(0, s0), (4, s1), (0, s2), (2, s3), (0, s4)] ds m Q = (WP 191 458 [q0, q1, q2, q3] [(0, 2), (0, s0), (4, s1), (0, s2), (2, s3), (0, s4)] ds m Q) := P_nx k191_457 rfl
set_option maxRecDepth 20000 in
theorem k191_458 : mjCode 191 458 = some (.iadd, 1, 0, 0) := by decide +kernel
theorem p191_458 {s0 s1 s2 s3 s4 s5 : Int} {q0 q1 q2 q3 : MV} {ds : Ds} {m : Mm} {Q : Ds → Mm → List MV → Prop} : WP 191 458 [q0, q1, q2, q3] [(0, s0), (0, s1), (4, s2), (0, s3), (2, s4), (0, s5)] ds m Q = (WP 191 459 [q0, q1, q2, q3] [(0, w32 (s1 + s0)), (4, s2), (0, s3), (2, s4), (0, s5)] ds m Q) := P_nx k191_458 rfl
set_option maxRecDepth 20000 in
theorem k191_459 : mjCode 191 459 = some (.iaload, 1, 0, 0) := by decide +kernel
theorem p191_459 {s0 s1 s2 s3 s4 : Int} {q0 q1 q2 q3 : MV} {ds : Ds} {m : Mm} {Q : Ds → Mm → List MV → Prop} : WP 191 459 [q0, q1, q2, q3] [(0, s0), (4, s1), (0, s2), (2, s3), (0, s4)] ds m Q = ((0 ≤ s0 ∧ s0 < m (-3) 0 ∧ WP 191 460 [q0, q1, q2, q3] [(0, m (-2) s0), (0, s2), (2, s3), (0, s4)] ds m Q)) := P_sc k191_459 rfl
set_option maxRecDepth 20000 in
theorem k191_460 : mjCode 191 460 = some (.aload_n 0, 1, 0, 0) := by decide +kernel
theorem p191_460 {l0 s0 s1 s2 s3 : Int} {q1 q2 q3 : MV} {ds : Ds} {m : Mm} {Q : Ds → Mm → List MV → Prop} : WP 191 460 [(4, l0), q1, q2, q3] [(0, s0), (0, s1), (2, s2), (0, s3)] ds m Q = (WP 191 461 [(4, l0), q1, q2, q3] [(4, l0), (0, s0), (0, s1), (2, s2), (0, s3)] ds m Q) := P_nx k191_460 rfl
set_option maxRecDepth 20000 in
theorem k191_461 : mjCode 191 461 = some (.iload_n 3, 1, 0, 0) := by decide +kernel
theorem p191_461 {l3 s0 s1 s2 s3 s4 : Int} {q0 q1 q2 : MV} {ds : Ds} {m : Mm} {Q : Ds → Mm → List MV → Prop} : WP 191 461 [q0, q1, q2, (0, l3)] [(4, s0), (0, s1), (0, s2), (2, s3), (0, s4)] ds m Q = (WP 191 462 [q0, q1, q2, (0, l3)] [(0, l3), (4, s0), (0, s1), (0, s2), (2, s3), (0, s4)] ds m Q) := P_nx k191_461 rfl
set_option maxRecDepth 20000 in
theorem k191_462 : mjCode 191 462 = some (.iconst 3, 1, 0, 0) := by decide +kernel
theorem p191_462 {s0 s1 s2 s3 s4 s5 : Int} {q0 q1 q2 q3 : MV} {ds : Ds} {m : Mm} {Q : Ds → Mm → List MV → Prop} : WP 191 462 [q0, q1, q2, q3] [(0, s0), (4, s1), (0, s2), (0, s3), (2, s4), (0, s5)] ds m Q = (WP 191 463 [q0, q1, q2, q3] [(0, 3), (0, s0), (4, s1), (0, s2), (0, s3), (2, s4), (0, s5)] ds m Q) := P_nx k191_462 rfl
set_option maxRecDepth 20000 in
theorem k191_463 : mjCode 191 463 = some (.iadd, 1, 0, 0) := by decide +kernel
theorem p191_463 {s0 s1 s2 s3 s4 s5 s6 : Int} {q0 q1 q2 q3 : MV} {ds : Ds} {m : Mm} {Q : Ds → Mm → List MV → Prop} : WP 191 463 [q0, q1, q2, q3] [(0, s0), (0, s1), (4, s2), (0, s3), (0, s4), (2, s5), (0, s6)] ds m Q = (WP 191 464 [q0, q1, q2, q3] [(0, w32 (s1 + s0)), (4, s2), (0, s3), (0, s4), (2, s5), (0, s6)] ds m Q) := P_nx k191_463 rfl
set_option maxRecDepth 20000 in
theorem k191_464 : mjCode 191 464 = some (.iaload, 1, 0, 0) := by decide +kernel
theorem p191_464 {s0 s1 s2 s3 s4 s5 : Int} {q0 q1 q2 q3 : MV} {ds : Ds} {m : Mm} {Q : Ds → Mm → List MV → Prop} : WP 191 464 [q0, q1, q2, q3] [(0, s0), (4, s1), (0, s2), (0, s3), (2, s4), (0, s5)] ds m Q = ((0 ≤ s0 ∧ s0 < m (-3) 0 ∧ WP 191 465 [q0, q1, q2, q3] [(0, m (-2) s0), (0, s2), (0, s3), (2, s4), (0, s5)] ds m Q)) := P_sc k191_464 rfl
set_option maxRecDepth 20000 in
theorem k191_465 : mjCode 191 465 = some (.i2l, 1, 0, 0) := by decide +kernel
theorem p191_465 {s0 s1 s2 s3 s4 : Int} {q0 q1 q2 q3 : MV} {ds : Ds} {m : Mm} {Q : Ds → Mm → List MV → Prop} : WP 191 465 [q0, q1, q2, q3] [(0, s0), (0, s1), (0, s2), (2, s3), (0, s4)] ds m Q = (WP 191 466 [q0, q1, q2, q3] [(1, s0), (0, s1), (0, s2), (2, s3), (0, s4)] ds m Q) := P_nx k191_465 rfl
set_option maxRecDepth 20000 in
theorem k191_466 : mjCode 191 466 = some (.bipush 32, 2, 0, 0) := by decide +kernel
theorem p191_466 {s0 s1 s2 s3 s4 : Int} {q0 q1 q2 q3 : MV} {ds : Ds} {m : Mm} {Q : Ds → Mm → List MV → Prop} : WP 191 466 [q0, q1, q2, q3] [(1, s0), (0, s1), (0, s2), (2, s3), (0, s4)] ds m Q = (WP 191 468 [q0, q1, q2, q3] [(0, 32), (1, s0), (0, s1), (0, s2), (2, s3), (0, s4)] ds m Q) := P_nx k191_466 rfl
set_option maxRecDepth 20000 in
theorem k191_468 : mjCode 191 468 = some (.lshl, 1, 0, 0) := by decide +kernel
theorem p191_468 {s0 s1 s2 s3 s4 s5 : Int} {q0 q1 q2 q3 : MV} {ds : Ds} {m : Mm} {Q : Ds → Mm → List MV → Prop} : WP 191 468 [q0, q1, q2, q3] [(0, s0), (1, s1), (0, s2), (0, s3), (2, s4), (0, s5)] ds m Q = (WP 191 469 [q0, q1, q2, q3] [(1, jlshl s1 s0), (0, s2), (0, s3), (2, s4), (0, s5)] ds m Q) := P_nx k191_468 rfl
set_option maxRecDepth 20000 in
theorem k191_469 : mjCode 191 469 = some (.aload_n 0, 1, 0, 0) := by decide +kernel
theorem p191_469 {l0 s0 s1 s2 s3 s4 : Int} {q1 q2 q3 : MV} {ds : Ds} {m : Mm} {Q : Ds → Mm → List MV → Prop} : WP 191 469 [(4, l0), q1, q2, q3] [(1, s0), (0, s1), (0, s2), (2, s3), (0, s4)] ds m Q = (WP 191 470 [(4, l0), q1, q2, q3] [(4, l0), (1, s0), (0, s1), (0, s2), (2, s3), (0, s4)] ds m Q) := P_nx k191_469 rfl
set_option maxRecDepth 20000 in
theorem k191_470 : mjCode 191 470 = some (.iload_n 3, 1, 0, 0) := by decide +kernel
theorem p191_470 {l3 s0 s1 s2 s3 s4 s5 : Int} {q0 q1 q2 : MV} {ds : Ds} {m : Mm} {Q : Ds → Mm → List MV → Prop} : WP 191 470 [q0, q1, q2, (0, l3)] [(4, s0), (1, s1), (0, s2), (0, s3), (2, s4), (0, s5)] ds m Q = (WP 191 471 [q0, q1, q2, (0, l3)] [(0, l3), (4, s0), (1, s1), (0, s2), (0, s3), (2, s4), (0, s5)] ds m Q) := P_nx k191_470 rfl
set_option maxRecDepth 20000 in
theorem k191_471 : mjCode 191 471 = some (.iconst 4, 1, 0, 0) := by decide +kernel
theorem p191_471 {s0 s1 s2 s3 s4 s5 s6 : Int} {q0 q1 q2 q3 : MV} {ds : Ds} {m : Mm} {Q : Ds → Mm → List MV → Prop} : WP 191 471 [q0, q1, q2, q3] [(0, s0), (4, s1), (1, s2), (0, s3), (0, s4), (2, s5), (0, s6)] ds m Q = (WP 191 472 [q0, q1, q2, q3] [(0, 4), (0, s0), (4, s1), (1, s2), (0, s3), (0, s4), (2, s5), (0, s6)] ds m Q) := P_nx k191_471 rfl
set_option maxRecDepth 20000 in
theorem k191_472 : mjCode 191 472 = some (.iadd, 1, 0, 0) := by decide +kernel
theorem p191_472 {s0 s1 s2 s3 s4 s5 s6 s7 : Int} {q0 q1 q2 q3 : MV} {ds : Ds} {m : Mm} {Q : Ds → Mm → List MV → Prop} : WP 191 472 [q0, q1, q2, q3] [(0, s0), (0, s1), (4, s2), (1, s3), (0, s4), (0, s5), (2, s6), (0, s7)] ds m Q = (WP 191 473 [q0, q1, q2, q3] [(0, w32 (s1 + s0)), (4, s2), (1, s3), (0, s4), (0, s5), (2, s6), (0, s7)] ds m Q) := P_nx k191_472 rfl
set_option maxRecDepth 20000 in
theorem k191_473 : mjCode 191 473 = some (.iaload, 1, 0, 0) := by decide +kernel
theorem p191_473 {s0 s1 s2 s3 s4 s5 s6 : Int} {q0 q1 q2 q3 : MV} {ds : Ds} {m : Mm} {Q : Ds → Mm → List MV → Prop} : WP 191 473 [q0, q1, q2, q3] [(0, s0), (4, s1), (1, s2), (0, s3), (0, s4), (2, s5), (0, s6)] ds m Q = ((0 ≤ s0 ∧ s0 < m (-3) 0 ∧ WP 191 474 [q0, q1, q2, q3] [(0, m (-2) s0), (1, s2), (0, s3), (0, s4), (2, s5), (0, s6)] ds m Q)) := P_sc k191_473 rfl
set_option maxRecDepth 20000 in
theorem k191_474 : mjCode 191 474 = some (.i2l, 1, 0, 0) := by decide +kernel
theorem p191_474 {s0 s1 s2 s3 s4 s5 : Int} {q0 q1 q2 q3 : MV} {ds : Ds} {m : Mm} {Q : Ds → Mm → List MV → Prop} : WP 191 474 [q0, q1, q2, q3] [(0, s0), (1, s1), (0, s2), (0, s3), (2, s4), (0, s5)] ds m Q = (WP 191 475 [q0, q1, q2, q3] [(1, s0), (1, s1), (0, s2), (0, s3), (2, s4), (0, s5)] ds m Q) := P_nx k191_474 rfl
set_option maxRecDepth 20000 in
theorem k191_475 : mjCode 191 475 = some (.ldc2_w 45, 3, 4294967295, 0) := by decide +kernel
theorem p191_475 {s0 s1 s2 s3 s4 s5 : Int} {q0 q1 q2 q3 : MV} {ds : Ds} {m : Mm} {Q : Ds → Mm → List MV → Prop} : WP 191 475 [q0, q1, q2, q3] [(1, s0), (1, s1), (0, s2), (0, s3), (2, s4), (0, s5)] ds m Q = (WP 191 478 [q0, q1, q2, q3] [(1, 4294967295), (1, s0), (1, s1), (0, s2), (0, s3), (2, s4), (0, s5)] ds m Q) := P_nx k191_475 rfl
set_option maxRecDepth 20000 in
theorem k191_478 : mjCode 191 478 = some (.land, 1, 0, 0) := by decide +kernel
theorem p191_478 {s0 s1 s2 s3 s4 s5 s6 : Int} {q0 q1 q2 q3 : MV} {ds : Ds} {m : Mm} {Q : Ds → Mm → List MV → Prop} : WP 191 478 [q0, q1, q2, q3] [(1, s0), (1, s1), (1, s2), (0, s3), (0, s4), (2, s5), (0, s6)] ds m Q = (WP 191 479 [q0, q1, q2, q3] [(1, jland s1 s0), (1, s2), (0, s3), (0, s4), (2, s5), (0, s6)] ds m Q) := P_nx k191_478 rfl
set_option maxRecDepth 20000 in
theorem k191_479 : mjCode 191 479 = some (.lor, 1, 0, 0) := by decide +kernel
theorem p191_479 {s0 s1 s2 s3 s4 s5 : Int} {q0 q1 q2 q3 : MV} {ds : Ds} {m : Mm} {Q : Ds → Mm → List MV → Prop} : WP 191 479 [q0, q1, q2, q3] [(1, s0), (1, s1), (0, s2), (0, s3), (2, s4), (0, s5)] ds m Q = (WP 191 480 [q0, q1, q2, q3] [(1, jlor s1 s0), (0, s2), (0, s3), (2, s4), (0, s5)] ds m Q) := P_nx k191_479 rfl
set_option maxRecDepth 20000 in
theorem k191_480 : mjCode 191 480 = some (.invokevirtual 51, 3, 145, 4) := by decide +kernel
theorem p191_480 {s0 s1 s2 s3 s4 : Int} {q0 q1 q2 q3 : MV} {ds : Ds} {m : Mm} {Q : Ds → Mm → List MV → Prop} : WP 191 480 [q0, q1, q2, q3] [(1, s0), (0, s1), (0, s2), (2, s3), (0, s4)] ds m Q = ((dk ds s3 = 7 ∧ WP 144 0 [(2, s3), (0, s2), (0, s1), (1, s0), (3, 0), (3, 0)] [] ds m (fun d2 m2 r2 => WP 191 483 [q0, q1, q2, q3] (r2 ++ [(0, s4)]) d2 m2 Q))) := P_cv k191_480 mx144 mo144 rfl rfl rfl rfl rfl rfl rfl rfl
set_option maxRecDepth 20000 in
theorem k191_483 : mjCode 191 483 = some (.if_icmp .eq 619, 3, 1102, 0) := by decide +kernel
theorem p191_483 {s0 s1 : Int} {q0 q1 q2 q3 : MV} {ds : Ds} {m : Mm} {Q : Ds → Mm → List MV → Prop} : WP 191 483 [q0, q1, q2, q3] [(0, s0), (0, s1)] ds m Q = (if s1 = s0 then WP 191 1102 [q0, q1, q2, q3] [] ds m Q else WP 191 486 [q0, q1, q2, q3] [] ds m Q) := P_if k191_483 rfl
set_option maxRecDepth 20000 in
theorem k191_486 : mjCode 191 486 = some (.iconst 0, 1, 0, 0) := by decide +kernel
theorem p191_486 {q0 q1 q2 q3 : MV} {ds : Ds} {m : Mm} {Q : Ds → Mm → List MV → Prop} : WP 191 486 [q0, q1, q2, q3] [] ds m Q = (WP 191 487 [q0, q1, q2, q3] [(0, 0)] ds m Q) := P_nx k191_486 rfl
set_option maxRecDepth 20000 in
theorem k191_487 : mjCode 191 487 = some (.ireturn, 1, 0, 0) := by decide +kernel
theorem p191_487 {s0 : Int} {q0 q1 q2 q3 : MV} {ds : Ds} {m : Mm} {Q : Ds → Mm → List MV → Prop} : WP 191 487 [q0, q1, q2, q3] [(0, s0)] ds m Q = (((s0 = 0 ∨ s0 = 1) ∧ Q ds m [(0, s0)])) := P_rb k191_487 rk191
set_option maxRecDepth 20000 in
theorem k191_488 : mjCode 191 488 = some (.aload_n 1, 1, 0, 0) := by decide +kernel
theorem p191_488 {l1 : Int} {q0 q2 q3 : MV} {ds : Ds} {m : Mm} {Q : Ds → Mm → List MV → Prop} : WP 191 488 [q0, (2, l1), q2, q3] [] ds m Q = (WP 191 489 [q0, (2, l1), q2, q3] [(2, l1)] ds m Q) := P_nx k191_488 rfl
set_option maxRecDepth 20000 in
theorem k191_489 : mjCode 191 489 = some (.aload_n 0, 1, 0, 0) := by decide +kernel
theorem p191_489 {l0 s0 : Int} {q1 q2 q3 : MV} {ds : Ds} {m : Mm} {Q : Ds → Mm → List MV → Prop} : WP 191 489 [(4, l0), q1, q2, q3] [(2, s0)] ds m Q = (WP 191 490 [(4, l0), q1, q2, q3] [(4, l0), (2, s0)] ds m Q) := P_nx k191_489 rfl
set_option maxRecDepth 20000 in
theorem k191_490 : mjCode 191 490 = some (.iload_n 3, 1, 0, 0) := by decide +kernel
theorem p191_490 {l3 s0 s1 : Int} {q0 q1 q2 : MV} {ds : Ds} {m : Mm} {Q : Ds → Mm → List MV → Prop} : WP 191 490 [q0, q1, q2, (0, l3)] [(4, s0), (2, s1)] ds m Q = (WP 191 491 [q0, q1, q2, (0, l3)] [(0, l3), (4, s0), (2, s1)] ds m Q) := P_nx k191_490 rfl
set_option maxRecDepth 20000 in
theorem k191_491 : mjCode 191 491 = some (.iconst 1, 1, 0, 0) := by decide +kernel
theorem p191_491 {s0 s1 s2 : Int} {q0 q1 q2 q3 : MV} {ds : Ds} {m : Mm} {Q : Ds → Mm → List MV → Prop} : WP 191 491 [q0, q1, q2, q3] [(0, s0), (4, s1), (2, s2)] ds m Q = (WP 191 492 [q0, q1, q2, q3] [(0, 1), (0, s0), (4, s1), (2, s2)] ds m Q) := P_nx k191_491 rfl
set_option maxRecDepth 20000 in
theorem k191_492 : mjCode 191 492 = some (.iadd, 1, 0, 0) := by decide +kernel
theorem p191_492 {s0 s1 s2 s3 : Int} {q0 q1 q2 q3 : MV} {ds : Ds} {m : Mm} {Q : Ds → Mm → List MV → Prop} : WP 191 492 [q0, q1, q2, q3] [(0, s0), (0, s1), (4, s2), (2, s3)] ds m Q = (WP 191 493 [q0, q1, q2, q3] [(0, w32 (s1 + s0)), (4, s2), (2, s3)] ds m Q) := P_nx k191_492 rfl
set_option maxRecDepth 20000 in
theorem k191_493 : mjCode 191 493 = some (.iaload, 1, 0, 0) := by decide +kernel
theorem p191_493 {s0 s1 s2 : Int} {q0 q1 q2 q3 : MV} {ds : Ds} {m : Mm} {Q : Ds → Mm → List MV → Prop} : WP 191 493 [q0, q1, q2, q3] [(0, s0), (4, s1), (2, s2)] ds m Q = ((0 ≤ s0 ∧ s0 < m (-3) 0 ∧ WP 191 494 [q0, q1, q2, q3] [(0, m (-2) s0), (2, s2)] ds m Q)) := P_sc k191_493 rfl
set_option maxRecDepth 20000 in
theorem k191_494 : mjCode 191 494 = some (.aload_n 0, 1, 0, 0) := by decide +kernel
theorem p191_494 {l0 s0 s1 : Int} {q1 q2 q3 : MV} {ds : Ds} {m : Mm} {Q : Ds → Mm → List MV → Prop} : WP 191 494 [(4, l0), q1, q2, q3] [(0, s0), (2, s1)] ds m Q = (WP 191 495 [(4, l0), q1, q2, q3] [(4, l0), (0, s0), (2, s1)] ds m Q) := P_nx k191_494 rfl
set_option maxRecDepth 20000 in
theorem k191_495 : mjCode 191 495 = some (.iload_n 3, 1, 0, 0) := by decide +kernel
theorem p191_495 {l3 s0 s1 s2 : Int} {q0 q1 q2 : MV} {ds : Ds} {m : Mm} {Q : Ds → Mm → List MV → Prop} : WP 191 495 [q0, q1, q2, (0, l3)] [(4, s0), (0, s1), (2, s2)] ds m Q = (WP 191 496 [q0, q1, q2, (0, l3)] [(0, l3), (4, s0), (0, s1), (2, s2)] ds m Q) := P_nx k191_495 rfl
set_option maxRecDepth 20000 in
theorem k191_496 : mjCode 191 496 = some (.iconst 2, 1, 0, 0) := by decide +kernel
theorem p191_496 {s0 s1 s2 s3 : Int} {q0 q1 q2 q3 : MV} {ds : Ds} {m : Mm} {Q : Ds → Mm → List MV → Prop} : WP 191 496 [q0, q1, q2, q3] [(0, s0), (4, s1), (0, s2), (2, s3)] ds m Q = (WP 191 497 [q0, q1, q2, q3] [(0, 2), (0, s0), (4, s1), (0, s2), (2, s3)] ds m Q) := P_nx k191_496 rfl
set_option maxRecDepth 20000 in
theorem k191_497 : mjCode 191 497 = some (.iadd, 1, 0, 0) := by decide +kernel
theorem p191_497 {s0 s1 s2 s3 s4 : Int} {q0 q1 q2 q3 : MV} {ds : Ds} {m : Mm} {Q : Ds → Mm → List MV → Prop} : WP 191 497 [q0, q1, q2, q3] [(0, s0), (0, s1), (4, s2), (0, s3), (2, s4)] ds m Q = (WP 191 498 [q0, q1, q2, q3] [(0, w32 (s1 + s0)), (4, s2), (0, s3), (2, s4)] ds m Q) := P_nx k191_497 rfl
set_option maxRecDepth 20000 in
theorem k191_498 : mjCode 191 498 = some (.iaload, 1, 0, 0) := by decide +kernel
theorem p191_498 {s0 s1 s2 s3 : Int} {q0 q1 q2 q3 : MV} {ds : Ds} {m : Mm} {Q : Ds → Mm → List MV → Prop} : WP 191 498 [q0, q1, q2, q3] [(0, s0), (4, s1), (0, s2), (2, s3)] ds m Q = ((0 ≤ s0 ∧ s0 < m (-3) 0 ∧ WP 191 499 [q0, q1, q2, q3] [(0, m (-2) s0), (0, s2), (2, s3)] ds m Q)) := P_sc k191_498 rfl
set_option maxRecDepth 20000 in
theorem k191_499 : mjCode 191 499 = some (.aload_n 0, 1, 0, 0) := by decide +kernel
theorem p191_499 {l0 s0 s1 s2 : Int} {q1 q2 q3 : MV} {ds : Ds} {m : Mm} {Q : Ds → Mm → List MV → Prop} : WP 191 499 [(4, l0), q1, q2, q3] [(0, s0), (0, s1), (2, s2)] ds m Q = (WP 191 500 [(4, l0), q1, q2, q3] [(4, l0), (0, s0), (0, s1), (2, s2)] ds m Q) := P_nx k191_499 rfl
set_option maxRecDepth 20000 in
theorem k191_500 : mjCode 191 500 = some (.iload_n 3, 1, 0, 0) := by decide +kernel
theorem p191_500 {l3 s0 s1 s2 s3 : Int} {q0 q1 q2 : MV} {ds : Ds} {m : Mm} {Q : Ds → Mm → List MV → Prop} : WP 191 500 [q0, q1, q2, (0, l3)] [(4, s0), (0, s1), (0, s2), (2, s3)] ds m Q = (WP 191 501 [q0, q1, q2, (0, l3)] [(0, l3), (4, s0), (0, s1), (0, s2), (2, s3)] ds m Q) := P_nx k191_500 rfl
set_option maxRecDepth 20000 in
theorem k191_501 : mjCode 191 501 = some (.iconst 3, 1, 0, 0) := by decide +kernel
theorem p191_501 {s0 s1 s2 s3 s4 : Int} {q0 q1 q2 q3 : MV} {ds : Ds} {m : Mm} {Q : Ds → Mm → List MV → Prop} : WP 191 501 [q0, q1, q2, q3] [(0, s0), (4, s1), (0, s2), (0, s3), (2, s4)] ds m Q = (WP 191 502 [q0, q1, q2, q3] [(0, 3), (0, s0), (4, s1), (0, s2), (0, s3), (2, s4)] ds m Q) := P_nx k191_501 rfl
set_option maxRecDepth 20000 in
theorem k191_502 : mjCode 191 502 = some (.iadd, 1, 0, 0) := by decide +kernel
theorem p191_502 {s0 s1 s2 s3 s4 s5 : Int} {q0 q1 q2 q3 : MV} {ds : Ds} {m : Mm} {Q : Ds → Mm → List MV → Prop} : WP 191 502 [q0, q1, q2, q3] [(0, s0), (0, s1), (4, s2), (0, s3), (0, s4), (2, s5)] ds m Q = (WP 191 503 [q0, q1, q2, q3] [(0, w32 (s1 + s0)), (4, s2), (0, s3), (0, s4), (2, s5)] ds m Q) := P_nx k191_502 rfl
set_option maxRecDepth 20000 in
theorem k191_503 : mjCode 191 503 = some (.iaload, 1, 0, 0) := by decide +kernel
theorem p191_503 {s0 s1 s2 s3 s4 : Int} {q0 q1 q2 q3 : MV} {ds : Ds} {m : Mm} {Q : Ds → Mm → List MV → Prop} : WP 191 503 [q0, q1, q2, q3] [(0, s0), (4, s1), (0, s2), (0, s3), (2, s4)] ds m Q = ((0 ≤ s0 ∧ s0 < m (-3) 0 ∧ WP 191 504 [q0, q1, q2, q3] [(0, m (-2) s0), (0, s2), (0, s3), (2, s4)] ds m Q)) := P_sc k191_503 rfl
set_option maxRecDepth 20000 in
theorem k191_504 : mjCode 191 504 = some (.aload_n 0, 1, 0, 0) := by decide +kernel
theorem p191_504 {l0 s0 s1 s2 s3 : Int} {q1 q2 q3 : MV} {ds : Ds} {m : Mm} {Q : Ds → Mm → List MV → Prop} : WP 191 504 [(4, l0), q1, q2, q3] [(0, s0), (0, s1), (0, s2), (2, s3)] ds m Q = (WP 191 505 [(4, l0), q1, q2, q3] [(4, l0), (0, s0), (0, s1), (0, s2), (2, s3)] ds m Q) := P_nx k191_504 rfl
set_option maxRecDepth 20000 in
theorem k191_505 : mjCode 191 505 = some (.iload_n 3, 1, 0, 0) := by decide +kernel
theorem p191_505 {l3 s0 s1 s2 s3 s4 : Int} {q0 q1 q2 : MV} {ds : Ds} {m : Mm} {Q : Ds → Mm → List MV → Prop} : WP 191 505 [q0, q1, q2, (0, l3)] [(4, s0), (0, s1), (0, s2), (0, s3), (2, s4)] ds m Q = (WP 191 506 [q0, q1, q2, (0, l3)] [(0, l3), (4, s0), (0, s1), (0, s2), (0, s3), (2, s4)] ds m Q) := P_nx k191_505 rfl
set_option maxRecDepth 20000 in
theorem k191_506 : mjCode 191 506 = some (.iconst 4, 1, 0, 0) := by decide +kernel
theorem p191_506 {s0 s1 s2 s3 s4 s5 : Int} {q0 q1 q2 q3 : MV} {ds : Ds} {m : Mm} {Q : Ds → Mm → List MV → Prop} : WP 191 506 [q0, q1, q2, q3] [(0, s0), (4, s1), (0, s2), (0, s3), (0, s4), (2, s5)] ds m Q = (WP 191 507 [q0, q1, q2, q3] [(0, 4), (0, s0), (4, s1), (0, s2), (0, s3), (0, s4), (2, s5)] ds m Q) := P_nx k191_506 rfl
set_option maxRecDepth 20000 in
theorem k191_507 : mjCode 191 507 = some (.iadd, 1, 0, 0) := by decide +kernel
theorem p191_507 {s0 s1 s2 s3 s4 s5 s6 : Int} {q0 q1 q2 q3 : MV} {ds : Ds} {m : Mm} {Q : Ds → Mm → List MV → Prop} : WP 191 507 [q0, q1, q2, q3] [(0, s0), (0, s1), (4, s2), (0, s3), (0, s4), (0, s5), (2, s6)] ds m Q = (WP 191 508 [q0, q1, q2, q3] [(0, w32 (s1 + s0)), (4, s2), (0, s3), (0, s4), (0, s5), (2, s6)] ds m Q) := P_nx k191_507 rfl
set_option maxRecDepth 20000 in
theorem k191_508 : mjCode 191 508 = some (.iaload, 1, 0, 0) := by decide +kernel
theorem p191_508 {s0 s1 s2 s3 s4 s5 : Int} {q0 q1 q2 q3 : MV} {ds : Ds} {m : Mm} {Q : Ds → Mm → List MV → Prop} : WP 191 508 [q0, q1, q2, q3] [(0, s0), (4, s1), (0, s2), (0, s3), (0, s4), (2, s5)] ds m Q = ((0 ≤ s0 ∧ s0 < m (-3) 0 ∧ WP 191 509 [q0, q1, q2, q3] [(0, m (-2) s0), (0, s2), (0, s3), (0, s4), (2, s5)] ds m Q)) := P_sc k191_508 rfl
set_option maxRecDepth 20000 in
theorem k191_509 : mjCode 191 509 = some (.aload_n 0, 1, 0, 0) := by decide +kernel
theorem p191_509 {l0 s0 s1 s2 s3 s4 : Int} {q1 q2 q3 : MV} {ds : Ds} {m : Mm} {Q : Ds → Mm → List MV → Prop} : WP 191 509 [(4, l0), q1, q2, q3] [(0, s0), (0, s1), (0, s2), (0, s3), (2, s4)] ds m Q = (WP 191 510 [(4, l0), q1, q2, q3] [(4, l0), (0, s0), (0, s1), (0, s2), (0, s3), (2, s4)] ds m Q) := P_nx k191_509 rfl
set_option maxRecDepth 20000 in
theorem k191_510 : mjCode 191 510 = some (.iload_n 3, 1, 0, 0) := by decide +kernel
theorem p191_510 {l3 s0 s1 s2 s3 s4 s5 : Int} {q0 q1 q2 : MV} {ds : Ds} {m : Mm} {Q : Ds → Mm → List MV → Prop} : WP 191 510 [q0, q1, q2, (0, l3)] [(4, s0), (0, s1), (0, s2), (0, s3), (0, s4), (2, s5)] ds m Q = (WP 191 511 [q0, q1, q2, (0, l3)] [(0, l3), (4, s0), (0, s1), (0, s2), (0, s3), (0, s4), (2, s5)] ds m Q) := P_nx k191_510 rfl
set_option maxRecDepth 20000 in
theorem k191_511 : mjCode 191 511 = some (.iconst 5, 1, 0, 0) := by decide +kernel
theorem p191_511 {s0 s1 s2 s3 s4 s5 s6 : Int} {q0 q1 q2 q3 : MV} {ds : Ds} {m : Mm} {Q : Ds → Mm → List MV → Prop} : WP 191 511 [q0, q1, q2, q3] [(0, s0), (4, s1), (0, s2), (0, s3), (0, s4), (0, s5), (2, s6)] ds m Q = (WP 191 512 [q0, q1, q2, q3] [(0, 5), (0, s0), (4, s1), (0, s2), (0, s3), (0, s4), (0, s5), (2, s6)] ds m Q) := P_nx k191_511 rfl
set_option maxRecDepth 20000 in
theorem k191_512 : mjCode 191 512 = some (.iadd, 1, 0, 0) := by decide +kernel
theorem p191_512 {s0 s1 s2 s3 s4 s5 s6 s7 : Int} {q0 q1 q2 q3 : MV} {ds : Ds} {m : Mm} {Q : Ds → Mm → List MV → Prop} : WP 191 512 [q0, q1, q2, q3] [(0, s0), (0, s1), (4, s2), (0, s3), (0, s4), (0, s5), (0, s6), (2, s7)] ds m Q = (WP 191 513 [q0, q1, q2, q3] [(0, w32 (s1 + s0)), (4, s2), (0, s3), (0, s4), (0, s5), (0, s6), (2, s7)] ds m Q) := P_nx k191_512 rfl
set_option maxRecDepth 20000 in
theorem k191_513 : mjCode 191 513 = some (.iaload, 1, 0, 0) := by decide +kernel
theorem p191_513 {s0 s1 s2 s3 s4 s5 s6 : Int} {q0 q1 q2 q3 : MV} {ds : Ds} {m : Mm} {Q : Ds → Mm → List MV → Prop} : WP 191 513 [q0, q1, q2, q3] [(0, s0), (4, s1), (0, s2), (0, s3), (0, s4), (0, s5), (2, s6)] ds m Q = ((0 ≤ s0 ∧ s0 < m (-3) 0 ∧ WP 191 514 [q0, q1, q2, q3] [(0, m (-2) s0), (0, s2), (0, s3), (0, s4), (0, s5), (2, s6)] ds m Q)) := P_sc k191_513 rfl
set_option maxRecDepth 20000 in
theorem k191_514 : mjCode 191 514 = some (.invokevirtual 52, 3, 77, 6) := by decide +kernel
theorem p191_514 {s0 s1 s2 s3 s4 s5 : Int} {q0 q1 q2 q3 : MV} {ds : Ds} {m : Mm} {Q : Ds → Mm → List MV → Prop} : WP 191 514 [q0, q1, q2, q3] [(0, s0), (0, s1), (0, s2), (0, s3), (0, s4), (2, s5)] ds m Q = ((dk ds s5 = 6 ∧ WP 76 0 [(2, s5), (0, s4), (0, s3), (0, s2), (0, s1), (0, s0), (3, 0), (3, 0), (3, 0)] [] ds m (fun d2 m2 r2 => WP 191 517 [q0, q1, q2, q3] (r2 ++ []) d2 m2 Q))) := P_cv k191_514 mx76 mo76 rfl rfl rfl rfl rfl rfl rfl rfl
set_option maxRecDepth 20000 in
theorem k191_517 : mjCode 191 517 = some (.aload_n 2, 1, 0, 0) := by decide +kernel
theorem p191_517 {l2 s0 : Int} {q0 q1 q3 : MV} {ds : Ds} {m : Mm} {Q : Ds → Mm → List MV → Prop} : WP 191 517 [q0, q1, (2, l2), q3] [(0, s0)] ds m Q = (WP 191 518 [q0, q1, (2, l2), q3] [(2, l2), (0, s0)] ds m Q) := P_nx k191_517 rfl
set_option maxRecDepth 20000 in
theorem k191_518 : mjCode 191 518 = some (.aload_n 0, 1, 0, 0) := by decide +kernel
theorem p191_518 {l0 s0 s1 : Int} {q1 q2 q3 : MV} {ds : Ds} {m : Mm} {Q : Ds → Mm → List MV → Prop} : WP 191 518 [(4, l0), q1, q2, q3] [(2, s0), (0, s1)] ds m Q = (WP 191 519 [(4, l0), q1, q2, q3] [(4, l0), (2, s0), (0, s1)] ds m Q) := P_nx k191_518 rfl
set_option maxRecDepth 20000 in
theorem k191_519 : mjCode 191 519 = some (.iload_n 3, 1, 0, 0) := by decide +kernel
theorem p191_519 {l3 s0 s1 s2 : Int} {q0 q1 q2 : MV} {ds : Ds} {m : Mm} {Q : Ds → Mm → List MV → Prop} : WP 191 519 [q0, q1, q2, (0, l3)] [(4, s0), (2, s1), (0, s2)] ds m Q = (WP 191 520 [q0, q1, q2, (0, l3)] [(0, l3), (4, s0), (2, s1), (0, s2)] ds m Q) := P_nx k191_519 rfl
set_option maxRecDepth 20000 in
theorem k191_520 : mjCode 191 520 = some (.iconst 1, 1, 0, 0) := by decide +kernel
theorem p191_520 {s0 s1 s2 s3 : Int} {q0 q1 q2 q3 : MV} {ds : Ds} {m : Mm} {Q : Ds → Mm → List MV → Prop} : WP 191 520 [q0, q1, q2, q3] [(0, s0), (4, s1), (2, s2), (0, s3)] ds m Q = (WP 191 521 [q0, q1, q2, q3] [(0, 1), (0, s0), (4, s1), (2, s2), (0, s3)] ds m Q) := P_nx k191_520 rfl
set_option maxRecDepth 20000 in
theorem k191_521 : mjCode 191 521 = some (.iadd, 1, 0, 0) := by decide +kernel
theorem p191_521 {s0 s1 s2 s3 s4 : Int} {q0 q1 q2 q3 : MV} {ds : Ds} {m : Mm} {Q : Ds → Mm → List MV → Prop} : WP 191 521 [q0, q1, q2, q3] [(0, s0), (0, s1), (4, s2), (2, s3), (0, s4)] ds m Q = (WP 191 522 [q0, q1, q2, q3] [(0, w32 (s1 + s0)), (4, s2), (2, s3), (0, s4)] ds m Q) := P_nx k191_521 rfl
set_option maxRecDepth 20000 in
theorem k191_522 : mjCode 191 522 = some (.iaload, 1, 0, 0) := by decide +kernel
theorem p191_522 {s0 s1 s2 s3 : Int} {q0 q1 q2 q3 : MV} {ds : Ds} {m : Mm} {Q : Ds → Mm → List MV → Prop} : WP 191 522 [q0, q1, q2, q3] [(0, s0), (4, s1), (2, s2), (0, s3)] ds m Q = ((0 ≤ s0 ∧ s0 < m (-3) 0 ∧ WP 191 523 [q0, q1, q2, q3] [(0, m (-2) s0), (2, s2), (0, s3)] ds m Q)) := P_sc k191_522 rfl
set_option maxRecDepth 20000 in
theorem k191_523 : mjCode 191 523 = some (.aload_n 0, 1, 0, 0) := by decide +kernel
theorem p191_523 {l0 s0 s1 s2 : Int} {q1 q2 q3 : MV} {ds : Ds} {m : Mm} {Q : Ds → Mm → List MV → Prop} : WP 191 523 [(4, l0), q1, q2, q3] [(0, s0), (2, s1), (0, s2)] ds m Q = (WP 191 524 [(4, l0), q1, q2, q3] [(4, l0), (0, s0), (2, s1), (0, s2)] ds m Q) := P_nx k191_523 rfl
set_option maxRecDepth 20000 in
theorem k191_524 : mjCode 191 524 = some (.iload_n 3, 1, 0, 0) := by decide +kernel
theorem p191_524 {l3 s0 s1 s2 s3 : Int} {q0 q1 q2 : MV} {ds : Ds} {m : Mm} {Q : Ds → Mm → List MV → Prop} : WP 191 524 [q0, q1, q2, (0, l3)] [(4, s0), (0, s1), (2, s2), (0, s3)] ds m Q = (WP 191 525 [q0, q1, q2, (0, l3)] [(0, l3), (4, s0), (0, s1), (2, s2), (0, s3)] ds m Q) := P_nx k191_524 rfl
set_option maxRecDepth 20000 in
theorem k191_525 : mjCode 191 525 = some (.iconst 2, 1, 0, 0) := by decide +kernel
theorem p191_525 {s0 s1 s2 s3 s4 : Int} {q0 q1 q2 q3 : MV} {ds : Ds} {m : Mm} {Q : Ds → Mm → List MV → Prop} : WP 191 525 [q0, q1, q2, q3] [(0, s0), (4, s1), (0, s2), (2, s3), (0, s4)] ds m Q = (WP 191 526 [q0, q1, q2, q3] [(0, 2), (0, s0), (4, s1), (0, s2), (2, s3), (0, s4)] ds m Q) := P_nx k191_525 rfl
set_option maxRecDepth 20000 in
theorem k191_526 : mjCode 191 526 = some (.iadd, 1, 0, 0) := by decide +kernel
theorem p191_526 {s0 s1 s2 s3 s4 s5 : Int} {q0 q1 q2 q3 : MV} {ds : Ds} {m : Mm} {Q : Ds → Mm → List MV → Prop} : WP 191 526 [q0, q1, q2, q3] [(0, s0), (0, s1), (4, s2), (0, s3), (2, s4), (0, s5)] ds m Q = (WP 191 527 [q0, q1, q2, q3] [(0, w32 (s1 + s0)), (4, s2), (0, s3), (2, s4), (0, s5)] ds m Q) := P_nx k191_526 rfl
set_option maxRecDepth 20000 in
theorem k191_527 : mjCode 191 527 = some (.iaload, 1, 0, 0) := by decide +kernel
theorem p191_527 {s0 s1 s2 s3 s4 : Int} {q0 q1 q2 q3 : MV} {ds : Ds} {m : Mm} {Q : Ds → Mm → List MV → Prop} : WP 191 527 [q0, q1, q2, q3] [(0, s0), (4, s1), (0, s2), (2, s3), (0, s4)] ds m Q = ((0 ≤ s0 ∧ s0 < m (-3) 0 ∧ WP 191 528 [q0, q1, q2, q3] [(0, m (-2) s0), (0, s2), (2, s3), (0, s4)] ds m Q)) := P_sc k191_527 rfl
set_option maxRecDepth 20000 in
theorem k191_528 : mjCode 191 528 = some (.aload_n 0, 1, 0, 0) := by decide +kernel
theorem p191_528 {l0 s0 s1 s2 s3 : Int} {q1 q2 q3 : MV} {ds : Ds} {m : Mm} {Q : Ds → Mm → List MV → Prop} : WP 191 528 [(4, l0), q1, q2, q3] [(0, s0), (0, s1), (2, s2), (0, s3)] ds m Q = (WP 191 529 [(4, l0), q1, q2, q3] [(4, l0), (0, s0), (0, s1), (2, s2), (0, s3)] ds m Q) := P_nx k191_528 rfl
set_option maxRecDepth 20000 in
theorem k191_529 : mjCode 191 529 = some (.iload_n 3, 1, 0, 0) := by decide +kernel
theorem p191_529 {l3 s0 s1 s2 s3 s4 : Int} {q0 q1 q2 : MV} {ds : Ds} {m : Mm} {Q : Ds → Mm → List MV → Prop} : WP 191 529 [q0, q1, q2, (0, l3)] [(4, s0), (0, s1), (0, s2), (2, s3), (0, s4)] ds m Q = (WP 191 530 [q0, q1, q2, (0, l3)] [(0, l3), (4, s0), (0, s1), (0, s2), (2, s3), (0, s4)] ds m Q) := P_nx k191_529 rfl
set_option maxRecDepth 20000 in
theorem k191_530 : mjCode 191 530 = some (.iconst 3, 1, 0, 0) := by decide +kernel
theorem p191_530 {s0 s1 s2 s3 s4 s5 : Int} {q0 q1 q2 q3 : MV} {ds : Ds} {m : Mm} {Q : Ds → Mm → List MV → Prop} : WP 191 530 [q0, q1, q2, q3] [(0, s0), (4, s1), (0, s2), (0, s3), (2, s4), (0, s5)] ds m Q = (WP 191 531 [q0, q1, q2, q3] [(0, 3), (0, s0), (4, s1), (0, s2), (0, s3), (2, s4), (0, s5)] ds m Q) := P_nx k191_530 rfl
set_option maxRecDepth 20000 in
theorem k191_531 : mjCode 191 531 = some (.iadd, 1, 0, 0) := by decide +kernel
theorem p191_531 {s0 s1 s2 s3 s4 s5 s6 : Int} {q0 q1 q2 q3 : MV} {ds : Ds} {m : Mm} {Q : Ds → Mm → List MV → Prop} : WP 191 531 [q0, q1, q2, q3] [(0, s0), (0, s1), (4, s2), (0, s3), (0, s4), (2, s5), (0, s6)] ds m Q = (WP 191 532 [q0, q1, q2, q3] [(0, w32 (s1 + s0)), (4, s2), (0, s3), (0, s4), (2, s5), (0, s6)] ds m Q) := P_nx k191_531 rfl
set_option maxRecDepth 20000 in
theorem k191_532 : mjCode 191 532 = some (.iaload, 1, 0, 0) := by decide +kernel
theorem p191_532 {s0 s1 s2 s3 s4 s5 : Int} {q0 q1 q2 q3 : MV} {ds : Ds} {m : Mm} {Q : Ds → Mm → List MV → Prop} : WP 191 532 [q0, q1, q2, q3] [(0, s0), (4, s1), (0, s2), (0, s3), (2, s4), (0, s5)] ds m Q = ((0 ≤ s0 ∧ s0 < m (-3) 0 ∧ WP 191 533 [q0, q1, q2, q3] [(0, m (-2) s0), (0, s2), (0, s3), (2, s4), (0, s5)] ds m Q)) := P_sc k191_532 rfl
set_option maxRecDepth 20000 in
theorem k191_533 : mjCode 191 533 = some (.aload_n 0, 1, 0, 0) := by decide +kernel
theorem p191_533 {l0 s0 s1 s2 s3 s4 : Int} {q1 q2 q3 : MV} {ds : Ds} {m : Mm} {Q : Ds → Mm → List MV → Prop} : WP 191 533 [(4, l0), q1, q2, q3] [(0, s0), (0, s1), (0, s2), (2, s3), (0, s4)] ds m Q = (WP 191 534 [(4, l0), q1, q2, q3] [(4, l0), (0, s0), (0, s1), (0, s2), (2, s3), (0, s4)] ds m Q) := P_nx k191_533 rfl
set_option maxRecDepth 20000 in
theorem k191_534 : mjCode 191 534 = some (.iload_n 3, 1, 0, 0) := by decide +kernel
theorem p191_534 {l3 s0 s1 s2 s3 s4 s5 : Int} {q0 q1 q2 : MV} {ds : Ds} {m : Mm} {Q : Ds → Mm → List MV → Prop} : WP 191 534 [q0, q1, q2, (0, l3)] [(4, s0), (0, s1), (0, s2), (0, s3), (2, s4), (0, s5)] ds m Q = (WP 191 535 [q0, q1, q2, (0, l3)] [(0, l3), (4, s0), (0, s1), (0, s2), (0, s3), (2, s4), (0, s5)] ds m Q) := P_nx k191_534 rfl
set_option maxRecDepth 20000 in
theorem k191_535 : mjCode 191 535 = some (.iconst 4, 1, 0, 0) := by decide +kernel
theorem p191_535 {s0 s1 s2 s3 s4 s5 s6 : Int} {q0 q1 q2 q3 : MV} {ds : Ds} {m : Mm} {Q : Ds → Mm → List MV → Prop} : WP 191 535 [q0, q1, q2, q3] [(0, s0), (4, s1), (0, s2), (0, s3), (0, s4), (2, s5), (0, s6)] ds m Q = (WP 191 536 [q0, q1, q2, q3] [(0, 4), (0, s0), (4, s1), (0, s2), (0, s3), (0, s4), (2, s5), (0, s6)] ds m Q) := P_nx k191_535 rfl
set_option maxRecDepth 20000 in
theorem k191_536 : mjCode 191 536 = some (.iadd, 1, 0, 0) := by decide +kernel
theorem p191_536 {s0 s1 s2 s3 s4 s5 s6 s7 : Int} {q0 q1 q2 q3 : MV} {ds : Ds} {m : Mm} {Q : Ds → Mm → List MV → Prop} : WP 191 536 [q0, q1, q2, q3] [(0, s0), (0, s1), (4, s2), (0, s3), (0, s4), (0, s5), (2, s6), (0, s7)] ds m Q = (WP 191 537 [q0, q1, q2, q3] [(0, w32 (s1 + s0)), (4, s2), (0, s3), (0, s4), (0, s5), (2, s6), (0, s7)] ds m Q) := P_nx k191_536 rfl
set_option maxRecDepth 20000 in
theorem k191_537 : mjCode 191 537 = some (.iaload, 1, 0, 0) := by decide +kernel
theorem p191_537 {s0 s1 s2 s3 s4 s5 s6 : Int} {q0 q1 q2 q3 : MV} {ds : Ds} {m : Mm} {Q : Ds → Mm → List MV → Prop} : WP 191 537 [q0, q1, q2, q3] [(0, s0), (4, s1), (0, s2), (0, s3), (0, s4), (2, s5), (0, s6)] ds m Q = ((0 ≤ s0 ∧ s0 < m (-3) 0 ∧ WP 191 538 [q0, q1, q2, q3] [(0, m (-2) s0), (0, s2), (0, s3), (0, s4), (2, s5), (0, s6)] ds m Q)) := P_sc k191_537 rfl
set_option maxRecDepth 20000 in
theorem k191_538 : mjCode 191 538 = some (.aload_n 0, 1, 0, 0) := by decide +kernel
theorem p191_538 {l0 s0 s1 s2 s3 s4 s5 : Int} {q1 q2 q3 : MV} {ds : Ds} {m : Mm} {Q : Ds → Mm → List MV → Prop} : WP 191 538 [(4, l0), q1, q2, q3] [(0, s0), (0, s1), (0, s2), (0, s3), (2, s4), (0, s5)] ds m Q = (WP 191 539 [(4, l0), q1, q2, q3] [(4, l0), (0, s0), (0, s1), (0, s2), (0, s3), (2, s4), (0, s5)] ds m Q) := P_nx k191_538 rfl
set_option maxRecDepth 20000 in
theorem k191_539 : mjCode 191 539 = some (.iload_n 3, 1, 0, 0) := by decide +kernel
theorem p191_539 {l3 s0 s1 s2 s3 s4 s5 s6 : Int} {q0 q1 q2 : MV} {ds : Ds} {m : Mm} {Q : Ds → Mm → List MV → Prop} : WP 191 539 [q0, q1, q2, (0, l3)] [(4, s0), (0, s1), (0, s2), (0, s3), (0, s4), (2, s5), (0, s6)] ds m Q = (WP 191 540 [q0, q1, q2, (0, l3)] [(0, l3), (4, s0), (0, s1), (0, s2), (0, s3), (0, s4), (2, s5), (0, s6)] ds m Q) := P_nx k191_539 rfl
set_option maxRecDepth 20000 in
theorem k191_540 : mjCode 191 540 = some (.iconst 5, 1, 0, 0) := by decide +kernel
theorem p191_540 {s0 s1 s2 s3 s4 s5 s6 s7 : Int} {q0 q1 q2 q3 : MV} {ds : Ds} {m : Mm} {Q : Ds → Mm → List MV → Prop} : WP 191 540 [q0, q1, q2, q3] [(0, s0), (4, s1), (0, s2), (0, s3), (0, s4), (0, s5), (2, s6), (0, s7)] ds m Q = (WP 191 541 [q0, q1, q2, q3] [(0, 5), (0, s0), (4, s1), (0, s2), (0, s3), (0, s4), (0, s5), (2, s6), (0, s7)] ds m Q) := P_nx k191_540 rfl
set_option maxRecDepth 20000 in
theorem k191_541 : mjCode 191 541 = some (.iadd, 1, 0, 0) := by decide +kernel
theorem p191_541 {s0 s1 s2 s3 s4 s5 s6 s7 s8 : Int} {q0 q1 q2 q3 : MV} {ds : Ds} {m : Mm} {Q : Ds → Mm → List MV → Prop} : WP 191 541 [q0, q1, q2, q3] [(0, s0), (0, s1), (4, s2), (0, s3), (0, s4), (0, s5), (0, s6), (2, s7), (0, s8)] ds m Q = (WP 191 542 [q0, q1, q2, q3] [(0, w32 (s1 + s0)), (4, s2), (0, s3), (0, s4), (0, s5), (0, s6), (2, s7), (0, s8)] ds m Q) := P_nx k191_541 rfl
set_option maxRecDepth 20000 in
theorem k191_542 : mjCode 191 542 = some (.iaload, 1, 0, 0) := by decide +kernel
theorem p191_542 {s0 s1 s2 s3 s4 s5 s6 s7 : Int} {q0 q1 q2 q3 : MV} {ds : Ds} {m : Mm} {Q : Ds → Mm → List MV → Prop} : WP 191 542 [q0, q1, q2, q3] [(0, s0), (4, s1), (0, s2), (0, s3), (0, s4), (0, s5), (2, s6), (0, s7)] ds m Q = ((0 ≤ s0 ∧ s0 < m (-3) 0 ∧ WP 191 543 [q0, q1, q2, q3] [(0, m (-2) s0), (0, s2), (0, s3), (0, s4), (0, s5), (2, s6), (0, s7)] ds m Q)) := P_sc k191_542 rfl
set_option maxRecDepth 20000 in
theorem k191_543 : mjCode 191 543 = some (.invokevirtual 56, 3, 146, 6) := by decide +kernel
theorem p191_543 {s0 s1 s2 s3 s4 s5 s6 : Int} {q0 q1 q2 q3 : MV} {ds : Ds} {m : Mm} {Q : Ds → Mm → List MV → Prop} : WP 191 543 [q0, q1, q2, q3] [(0, s0), (0, s1), (0, s2), (0, s3), (0, s4), (2, s5), (0, s6)] ds m Q = ((dk ds s5 = 7 ∧ WP 145 0 [(2, s5), (0, s4), (0, s3), (0, s2), (0, s1), (0, s0), (3, 0)] [] ds m (fun d2 m2 r2 => WP 191 546 [q0, q1, q2, q3] (r2 ++ [(0, s6)]) d2 m2 Q))) := P_cv k191_543 mx145 mo145 rfl rfl rfl rfl rfl rfl rfl rfl
set_option maxRecDepth 20000 in
theorem k191_546 : mjCode 191 546 = some (.if_icmp .eq 556, 3, 1102, 0) := by decide +kernel
theorem p191_546 {s0 s1 : Int} {q0 q1 q2 q3 : MV} {ds : Ds} {m : Mm} {Q : Ds → Mm → List MV → Prop} : WP 191 546 [q0, q1, q2, q3] [(0, s0), (0, s1)] ds m Q = (if s1 = s0 then WP 191 1102 [q0, q1, q2, q3] [] ds m Q else WP 191 549 [q0, q1, q2, q3] [] ds m Q) := P_if k191_546 rfl
set_option maxRecDepth 20000 in
theorem k191_549 : mjCode 191 549 = some (.iconst 0, 1, 0, 0) := by decide +kernel
theorem p191_549 {q0 q1 q2 q3 : MV} {ds : Ds} {m : Mm} {Q : Ds → Mm → List MV → Prop} : WP 191 549 [q0, q1, q2, q3] [] ds m Q = (WP 191 550 [q0, q1, q2, q3] [(0, 0)] ds m Q) := P_nx k191_549 rfl
set_option maxRecDepth 20000 in
theorem k191_550 : mjCode 191 550 = some (.ireturn, 1, 0, 0) := by decide +kernel
theorem p191_550 {s0 : Int} {q0 q1 q2 q3 : MV} {ds : Ds} {m : Mm} {Q : Ds → Mm → List MV → Prop} : WP 191 550 [q0, q1, q2, q3] [(0, s0)] ds m Q = (((s0 = 0 ∨ s0 = 1) ∧ Q ds m [(0, s0)])) := P_rb k191_550 rk191
set_option maxRecDepth 20000 in
theorem k191_551 : mjCode 191 551 = some (.aload_n 1, 1, 0, 0) := by decide +kernel
theorem p191_551 {l1 : Int} {q0 q2 q3 : MV} {ds : Ds} {m : Mm} {Q : Ds → Mm → List MV → Prop} : WP 191 551 [q0, (2, l1), q2, q3] [] ds m Q = (WP 191 552 [q0, (2, l1), q2, q3] [(2, l1)] ds m Q) := P_nx k191_551 rfl
set_option maxRecDepth 20000 in
theorem k191_552 : mjCode 191 552 = some (.aload_n 0, 1, 0, 0) := by decide +kernel
theorem p191_552 {l0 s0 : Int} {q1 q2 q3 : MV} {ds : Ds} {m : Mm} {Q : Ds → Mm → List MV → Prop} : WP 191 552 [(4, l0), q1, q2, q3] [(2, s0)] ds m Q = (WP 191 553 [(4, l0), q1, q2, q3] [(4, l0), (2, s0)] ds m Q) := P_nx k191_552 rfl
set_option maxRecDepth 20000 in
theorem k191_553 : mjCode 191 553 = some (.iload_n 3, 1, 0, 0) := by decide +kernel
theorem p191_553 {l3 s0 s1 : Int} {q0 q1 q2 : MV} {ds : Ds} {m : Mm} {Q : Ds → Mm → List MV → Prop} : WP 191 553 [q0, q1, q2, (0, l3)] [(4, s0), (2, s1)] ds m Q = (WP 191 554 [q0, q1, q2, (0, l3)] [(0, l3), (4, s0), (2, s1)] ds m Q) := P_nx k191_553 rfl
set_option maxRecDepth 20000 in
theorem k191_554 : mjCode 191 554 = some (.iconst 1, 1, 0, 0) := by decide +kernel
theorem p191_554 {s0 s1 s2 : Int} {q0 q1 q2 q3 : MV} {ds : Ds} {m : Mm} {Q : Ds → Mm → List MV → Prop} : WP 191 554 [q0, q1, q2, q3] [(0, s0), (4, s1), (2, s2)] ds m Q = (WP 191 555 [q0, q1, q2, q3] [(0, 1), (0, s0), (4, s1), (2, s2)] ds m Q) := P_nx k191_554 rfl
set_option maxRecDepth 20000 in
theorem k191_555 : mjCode 191 555 = some (.iadd, 1, 0, 0) := by decide +kernel
theorem p191_555 {s0 s1 s2 s3 : Int} {q0 q1 q2 q3 : MV} {ds : Ds} {m : Mm} {Q : Ds → Mm → List MV → Prop} : WP 191 555 [q0, q1, q2, q3] [(0, s0), (0, s1), (4, s2), (2, s3)] ds m Q = (WP 191 556 [q0, q1, q2, q3] [(0, w32 (s1 + s0)), (4, s2), (2, s3)] ds m Q) := P_nx k191_555 rfl
set_option maxRecDepth 20000 in
theorem k191_556 : mjCode 191 556 = some (.iaload, 1, 0, 0) := by decide +kernel
theorem p191_556 {s0 s1 s2 : Int} {q0 q1 q2 q3 : MV} {ds : Ds} {m : Mm} {Q : Ds → Mm → List MV → Prop} : WP 191 556 [q0, q1, q2, q3] [(0, s0), (4, s1), (2, s2)] ds m Q = ((0 ≤ s0 ∧ s0 < m (-3) 0 ∧ WP 191 557 [q0, q1, q2, q3] [(0, m (-2) s0), (2, s2)] ds m Q)) := P_sc k191_556 rfl
set_option maxRecDepth 20000 in
theorem k191_557 : mjCode 191 557 = some (.aload_n 0, 1, 0, 0) := by decide +kernel
theorem p191_557 {l0 s0 s1 : Int} {q1 q2 q3 : MV} {ds : Ds} {m : Mm} {Q : Ds → Mm → List MV → Prop} : WP 191 557 [(4, l0), q1, q2, q3] [(0, s0), (2, s1)] ds m Q = (WP 191 558 [(4, l0), q1, q2, q3] [(4, l0), (0, s0), (2, s1)] ds m Q) := P_nx k191_557 rfl
set_option maxRecDepth 20000 in
theorem k191_558 : mjCode 191 558 = some (.iload_n 3, 1, 0, 0) := by decide +kernel
theorem p191_558 {l3 s0 s1 s2 : Int} {q0 q1 q2 : MV} {ds : Ds} {m : Mm} {Q : Ds → Mm → List MV → Prop} : WP 191 558 [q0, q1, q2, (0, l3)] [(4, s0), (0, s1), (2, s2)] ds m Q = (WP 191 559 [q0, q1, q2, (0, l3)] [(0, l3), (4, s0), (0, s1), (2, s2)] ds m Q) := P_nx k191_558 rfl
set_option maxRecDepth 20000 in
theorem k191_559 : mjCode 191 559 = some (.iconst 2, 1, 0, 0) := by decide +kernel
theorem p191_559 {s0 s1 s2 s3 : Int} {q0 q1 q2 q3 : MV} {ds : Ds} {m : Mm} {Q : Ds → Mm → List MV → Prop} : WP 191 559 [q0, q1, q2, q3] [(0, s0), (4, s1), (0, s2), (2, s3)] ds m Q = (WP 191 560 [q0, q1, q2, q3] [(0, 2), (0, s0), (4, s1), (0, s2), (2, s3)] ds m Q) := P_nx k191_559 rfl
set_option maxRecDepth 20000 in
theorem k191_560 : mjCode 191 560 = some (.iadd, 1, 0, 0) := by decide +kernel
theorem p191_560 {s0 s1 s2 s3 s4 : Int} {q0 q1 q2 q3 : MV} {ds : Ds} {m : Mm} {Q : Ds → Mm → List MV → Prop} : WP 191 560 [q0, q1, q2, q3] [(0, s0), (0, s1), (4, s2), (0, s3), (2, s4)] ds m Q = (WP 191 561 [q0, q1, q2, q3] [(0, w32 (s1 + s0)), (4, s2), (0, s3), (2, s4)] ds m Q) := P_nx k191_560 rfl
set_option maxRecDepth 20000 in
theorem k191_561 : mjCode 191 561 = some (.iaload, 1, 0, 0) := by decide +kernel
theorem p191_561 {s0 s1 s2 s3 : Int} {q0 q1 q2 q3 : MV} {ds : Ds} {m : Mm} {Q : Ds → Mm → List MV → Prop} : WP 191 561 [q0, q1, q2, q3] [(0, s0), (4, s1), (0, s2), (2, s3)] ds m Q = ((0 ≤ s0 ∧ s0 < m (-3) 0 ∧ WP 191 562 [q0, q1, q2, q3] [(0, m (-2) s0), (0, s2), (2, s3)] ds m Q)) := P_sc k191_561 rfl
set_option maxRecDepth 20000 in
theorem k191_562 : mjCode 191 562 = some (.invokevirtual 57, 3, 78, 3) := by decide +kernel
theorem p191_562 {s0 s1 s2 : Int} {q0 q1 q2 q3 : MV} {ds : Ds} {m : Mm} {Q : Ds → Mm → List MV → Prop} : WP 191 562 [q0, q1, q2, q3] [(0, s0), (0, s1), (2, s2)] ds m Q = ((dk ds s2 = 6 ∧ WP 77 0 [(2, s2), (0, s1), (0, s0), (3, 0)] [] ds m (fun d2 m2 r2 => WP 191 565 [q0, q1, q2, q3] (r2 ++ []) d2 m2 Q))) := P_cv k191_562 mx77 mo77 rfl rfl rfl rfl rfl rfl rfl rfl
set_option maxRecDepth 20000 in
theorem k191_565 : mjCode 191 565 = some (.aload_n 2, 1, 0, 0) := by decide +kernel
theorem p191_565 {l2 s0 : Int} {q0 q1 q3 : MV} {ds : Ds} {m : Mm} {Q : Ds → Mm → List MV → Prop} : WP 191 565 [q0, q1, (2, l2), q3] [(1, s0)] ds m Q = (WP 191 566 [q0, q1, (2, l2), q3] [(2, l2), (1, s0)] ds m Q) := P_nx k191_565 rfl
set_option maxRecDepth 20000 in
theorem k191_566 : mjCode 191 566 = some (.aload_n 0, 1, 0, 0) := by decide +kernel
theorem p191_566 {l0 s0 s1 : Int} {q1 q2 q3 : MV} {ds : Ds} {m : Mm} {Q : Ds → Mm → List MV → Prop} : WP 191 566 [(4, l0), q1, q2, q3] [(2, s0), (1, s1)] ds m Q = (WP 191 567 [(4, l0), q1, q2, q3] [(4, l0), (2, s0), (1, s1)] ds m Q) := P_nx k191_566 rfl
set_option maxRecDepth 20000 in
theorem k191_567 : mjCode 191 567 = some (.iload_n 3, 1, 0, 0) := by decide +kernel
theorem p191_567 {l3 s0 s1 s2 : Int} {q0 q1 q2 : MV} {ds : Ds} {m : Mm} {Q : Ds → Mm → List MV → Prop} : WP 191 567 [q0, q1, q2, (0, l3)] [(4, s0), (2, s1), (1, s2)] ds m Q = (WP 191 568 [q0, q1, q2, (0, l3)] [(0, l3), (4, s0), (2, s1), (1, s2)] ds m Q) := P_nx k191_567 rfl
set_option maxRecDepth 20000 in
theorem k191_568 : mjCode 191 568 = some (.iconst 1, 1, 0, 0) := by decide +kernel
theorem p191_568 {s0 s1 s2 s3 : Int} {q0 q1 q2 q3 : MV} {ds : Ds} {m : Mm} {Q : Ds → Mm → List MV → Prop} : WP 191 568 [q0, q1, q2, q3] [(0, s0), (4, s1), (2, s2), (1, s3)] ds m Q = (WP 191 569 [q0, q1, q2, q3] [(0, 1), (0, s0), (4, s1), (2, s2), (1, s3)] ds m Q) := P_nx k191_568 rfl
set_option maxRecDepth 20000 in
theorem k191_569 : mjCode 191 569 = some (.iadd, 1, 0, 0) := by decide +kernel
theorem p191_569 {s0 s1 s2 s3 s4 : Int} {q0 q1 q2 q3 : MV} {ds : Ds} {m : Mm} {Q : Ds → Mm → List MV → Prop} : WP 191 569 [q0, q1, q2, q3] [(0, s0), (0, s1), (4, s2), (2, s3), (1, s4)] ds m Q = (WP 191 570 [q0, q1, q2, q3] [(0, w32 (s1 + s0)), (4, s2), (2, s3), (1, s4)] ds m Q) := P_nx k191_569 rfl
set_option maxRecDepth 20000 in
theorem k191_570 : mjCode 191 570 = some (.iaload, 1, 0, 0) := by decide +kernel
theorem p191_570 {s0 s1 s2 s3 : Int} {q0 q1 q2 q3 : MV} {ds : Ds} {m : Mm} {Q : Ds → Mm → List MV → Prop} : WP 191 570 [q0, q1, q2, q3] [(0, s0), (4, s1), (2, s2), (1, s3)] ds m Q = ((0 ≤ s0 ∧ s0 < m (-3) 0 ∧ WP 191 571 [q0, q1, q2, q3] [(0, m (-2) s0), (2, s2), (1, s3)] ds m Q)) := P_sc k191_570 rfl
set_option maxRecDepth 20000 in
theorem k191_571 : mjCode 191 571 = some (.aload_n 0, 1, 0, 0) := by decide +kernel
theorem p191_571 {l0 s0 s1 s2 : Int} {q1 q2 q3 : MV} {ds : Ds} {m : Mm} {Q : Ds → Mm → List MV → Prop} : WP 191 571 [(4, l0), q1, q2, q3] [(0, s0), (2, s1), (1, s2)] ds m Q = (WP 191 572 [(4, l0), q1, q2, q3] [(4, l0), (0, s0), (2, s1), (1, s2)] ds m Q) := P_nx k191_571 rfl
set_option maxRecDepth 20000 in
theorem k191_572 : mjCode 191 572 = some (.iload_n 3, 1, 0, 0) := by decide +kernel
theorem p191_572 {l3 s0 s1 s2 s3 : Int} {q0 q1 q2 : MV} {ds : Ds} {m : Mm} {Q : Ds → Mm → List MV → Prop} : WP 191 572 [q0, q1, q2, (0, l3)] [(4, s0), (0, s1), (2, s2), (1, s3)] ds m Q = (WP 191 573 [q0, q1, q2, (0, l3)] [(0, l3), (4, s0), (0, s1), (2, s2), (1, s3)] ds m Q) := P_nx k191_572 rfl
set_option maxRecDepth 20000 in
theorem k191_573 : mjCode 191 573 = some (.iconst 2, 1, 0, 0) := by decide +kernel
theorem p191_573 {s0 s1 s2 s3 s4 : Int} {q0 q1 q2 q3 : MV} {ds : Ds} {m : Mm} {Q : Ds → Mm → List MV → Prop} : WP 191 573 [q0, q1, q2, q3] [(0, s0), (4, s1), (0, s2), (2, s3), (1, s4)] ds m Q = (WP 191 574 [q0, q1, q2, q3] [(0, 2), (0, s0), (4, s1), (0, s2), (2, s3), (1, s4)] ds m Q) := P_nx k191_573 rfl
set_option maxRecDepth 20000 in
theorem k191_574 : mjCode 191 574 = some (.iadd, 1, 0, 0) := by decide +kernel
theorem p191_574 {s0 s1 s2 s3 s4 s5 : Int} {q0 q1 q2 q3 : MV} {ds : Ds} {m : Mm} {Q : Ds → Mm → List MV → Prop} : WP 191 574 [q0, q1, q2, q3] [(0, s0), (0, s1), (4, s2), (0, s3), (2, s4), (1, s5)] ds m Q = (WP 191 575 [q0, q1, q2, q3] [(0, w32 (s1 + s0)), (4, s2), (0, s3), (2, s4), (1, s5)] ds m Q) := P_nx k191_574 rfl
set_option maxRecDepth 20000 in
theorem k191_575 : mjCode 191 575 = some (.iaload, 1, 0, 0) := by decide +kernel
theorem p191_575 {s0 s1 s2 s3 s4 : Int} {q0 q1 q2 q3 : MV} {ds : Ds} {m : Mm} {Q : Ds → Mm → List MV → Prop} : WP 191 575 [q0, q1, q2, q3] [(0, s0), (4, s1), (0, s2), (2, s3), (1, s4)] ds m Q = ((0 ≤ s0 ∧ s0 < m (-3) 0 ∧ WP 191 576 [q0, q1, q2, q3] [(0, m (-2) s0), (0, s2), (2, s3), (1, s4)] ds m Q)) := P_sc k191_575 rfl
set_option maxRecDepth 20000 in
theorem k191_576 : mjCode 191 576 = some (.invokevirtual 61, 3, 147, 3) := by decide +kernel
theorem p191_576 {s0 s1 s2 s3 : Int} {q0 q1 q2 q3 : MV} {ds : Ds} {m : Mm} {Q : Ds → Mm → List MV → Prop} : WP 191 576 [q0, q1, q2, q3] [(0, s0), (0, s1), (2, s2), (1, s3)] ds m Q = ((dk ds s2 = 7 ∧ WP 146 0 [(2, s2), (0, s1), (0, s0)] [] ds m (fun d2 m2 r2 => WP 191 579 [q0, q1, q2, q3] (r2 ++ [(1, s3)]) d2 m2 Q))) := P_cv k191_576 mx146 mo146 rfl rfl rfl rfl rfl rfl rfl rfl
set_option maxRecDepth 20000 in
theorem k191_579 : mjCode 191 579 = some (.lcmp, 1, 0, 0) := by decide +kernel
theorem p191_579 {s0 s1 : Int} {q0 q1 q2 q3 : MV} {ds : Ds} {m : Mm} {Q : Ds → Mm → List MV → Prop} : WP 191 579 [q0, q1, q2, q3] [(1, s0), (1, s1)] ds m Q = (WP 191 580 [q0, q1, q2, q3] [(0, jcmp s1 s0)] ds m Q) := P_nx k191_579 rfl
set_option maxRecDepth 20000 in
theorem k191_580 : mjCode 191 580 = some (.ifCond .eq 522, 3, 1102, 0) := by decide +kernel
theorem p191_580 {s0 : Int} {q0 q1 q2 q3 : MV} {ds : Ds} {m : Mm} {Q : Ds → Mm → List MV → Prop} : WP 191 580 [q0, q1, q2, q3] [(0, s0)] ds m Q = (if s0 = 0 then WP 191 1102 [q0, q1, q2, q3] [] ds m Q else WP 191 583 [q0, q1, q2, q3] [] ds m Q) := P_if k191_580 rfl
set_option maxRecDepth 20000 in
theorem k191_583 : mjCode 191 583 = some (.iconst 0, 1, 0, 0) := by decide +kernel
theorem p191_583 {q0 q1 q2 q3 : MV} {ds : Ds} {m : Mm} {Q : Ds → Mm → List MV → Prop} : WP 191 583 [q0, q1, q2, q3] [] ds m Q = (WP 191 584 [q0, q1, q2, q3] [(0, 0)] ds m Q) := P_nx k191_583 rfl
set_option maxRecDepth 20000 in
theorem k191_584 : mjCode 191 584 = some (.ireturn, 1, 0, 0) := by decide +kernel
theorem p191_584 {s0 : Int} {q0 q1 q2 q3 : MV} {ds : Ds} {m : Mm} {Q : Ds → Mm → List MV → Prop} : WP 191 584 [q0, q1, q2, q3] [(0, s0)] ds m Q = (((s0 = 0 ∨ s0 = 1) ∧ Q ds m [(0, s0)])) := P_rb k191_584 rk191
set_option maxRecDepth 20000 in
theorem k191_585 : mjCode 191 585 = some (.aload_n 1, 1, 0, 0) := by decide +kernel
theorem p191_585 {l1 : Int} {q0 q2 q3 : MV} {ds : Ds} {m : Mm} {Q : Ds → Mm → List MV → Prop} : WP 191 585 [q0, (2, l1), q2, q3] [] ds m Q = (WP 191 586 [q0, (2, l1), q2, q3] [(2, l1)] ds m Q) := P_nx k191_585 rfl
set_option maxRecDepth 20000 in
theorem k191_586 : mjCode 191 586 = some (.aload_n 0, 1, 0, 0) := by decide +kernel
theorem p191_586 {l0 s0 : Int} {q1 q2 q3 : MV} {ds : Ds} {m : Mm} {Q : Ds → Mm → List MV → Prop} : WP 191 586 [(4, l0), q1, q2, q3] [(2, s0)] ds m Q = (WP 191 587 [(4, l0), q1, q2, q3] [(4, l0), (2, s0)] ds m Q) := P_nx k191_586 rfl
set_option maxRecDepth 20000 in
theorem k191_587 : mjCode 191 587 = some (.iload_n 3, 1, 0, 0) := by decide +kernel
theorem p191_587 {l3 s0 s1 : Int} {q0 q1 q2 : MV} {ds : Ds} {m : Mm} {Q : Ds → Mm → List MV → Prop} : WP 191 587 [q0, q1, q2, (0, l3)] [(4, s0), (2, s1)] ds m Q = (WP 191 588 [q0, q1, q2, (0, l3)] [(0, l3), (4, s0), (2, s1)] ds m Q) := P_nx k191_587 rfl
set_option maxRecDepth 20000 in
theorem k191_588 : mjCode 191 588 = some (.iconst 1, 1, 0, 0) := by decide +kernel
theorem p191_588 {s0 s1 s2 : Int} {q0 q1 q2 q3 : MV} {ds : Ds} {m : Mm} {Q : Ds → Mm → List MV → Prop} : WP 191 588 [q0, q1, q2, q3] [(0, s0), (4, s1), (2, s2)] ds m Q = (WP 191 589 [q0, q1, q2, q3] [(0, 1), (0, s0), (4, s1), (2, s2)] ds m Q) := P_nx k191_588 rfl
set_option maxRecDepth 20000 in
theorem k191_589 : mjCode 191 589 = some (.iadd, 1, 0, 0) := by decide +kernel
theorem p191_589 {s0 s1 s2 s3 : Int} {q0 q1 q2 q3 : MV} {ds : Ds} {m : Mm} {Q : Ds → Mm → List MV → Prop} : WP 191 589 [q0, q1, q2, q3] [(0, s0), (0, s1), (4, s2), (2, s3)] ds m Q = (WP 191 590 [q0, q1, q2, q3] [(0, w32 (s1 + s0)), (4, s2), (2, s3)] ds m Q) := P_nx k191_589 rfl
set_option maxRecDepth 20000 in
theorem k191_590 : mjCode 191 590 = some (.iaload, 1, 0, 0) := by decide +kernel
theorem p191_590 {s0 s1 s2 : Int} {q0 q1 q2 q3 : MV} {ds : Ds} {m : Mm} {Q : Ds → Mm → List MV → Prop} : WP 191 590 [q0, q1, q2, q3] [(0, s0), (4, s1), (2, s2)] ds m Q = ((0 ≤ s0 ∧ s0 < m (-3) 0 ∧ WP 191 591 [q0, q1, q2, q3] [(0, m (-2) s0), (2, s2)] ds m Q)) := P_sc k191_590 rfl
set_option maxRecDepth 20000 in
theorem k191_591 : mjCode 191 591 = some (.invokevirtual 62, 3, 79, 2) := by decide +kernel
theorem p191_591 {s0 s1 : Int} {q0 q1 q2 q3 : MV} {ds : Ds} {m : Mm} {Q : Ds → Mm → List MV → Prop} : WP 191 591 [q0, q1, q2, q3] [(0, s0), (2, s1)] ds m Q = ((dk ds s1 = 6 ∧ WP 78 0 [(2, s1), (0, s0), (3, 0)] [] ds m (fun d2 m2 r2 => WP 191 594 [q0, q1, q2, q3] (r2 ++ []) d2 m2 Q))) := P_cv k191_591 mx78 mo78 rfl rfl rfl rfl rfl rfl rfl rfl
set_option maxRecDepth 20000 in
theorem k191_594 : mjCode 191 594 = some (.aload_n 2, 1, 0, 0) := by decide +kernel
theorem p191_594 {l2 s0 : Int} {q0 q1 q3 : MV} {ds : Ds} {m : Mm} {Q : Ds → Mm → List MV → Prop} : WP 191 594 [q0, q1, (2, l2), q3] [(0, s0)] ds m Q = (WP 191 595 [q0, q1, (2, l2), q3] [(2, l2), (0, s0)] ds m Q) := P_nx k191_594 rfl
set_option maxRecDepth 20000 in
theorem k191_595 : mjCode 191 595 = some (.aload_n 0, 1, 0, 0) := by decide +kernel
theorem p191_595 {l0 s0 s1 : Int} {q1 q2 q3 : MV} {ds : Ds} {m : Mm} {Q : Ds → Mm → List MV → Prop} : WP 191 595 [(4, l0), q1, q2, q3] [(2, s0), (0, s1)] ds m Q = (WP 191 596 [(4, l0), q1, q2, q3] [(4, l0), (2, s0), (0, s1)] ds m Q) := P_nx k191_595 rfl
set_option maxRecDepth 20000 in
theorem k191_596 : mjCode 191 596 = some (.iload_n 3, 1, 0, 0) := by decide +kernel
theorem p191_596 {l3 s0 s1 s2 : Int} {q0 q1 q2 : MV} {ds : Ds} {m : Mm} {Q : Ds → Mm → List MV → Prop} : WP 191 596 [q0, q1, q2, (0, l3)] [(4, s0), (2, s1), (0, s2)] ds m Q = (WP 191 597 [q0, q1, q2, (0, l3)] [(0, l3), (4, s0), (2, s1), (0, s2)] ds m Q) := P_nx k191_596 rfl
set_option maxRecDepth 20000 in
theorem k191_597 : mjCode 191 597 = some (.iconst 1, 1, 0, 0) := by decide +kernel
theorem p191_597 {s0 s1 s2 s3 : Int} {q0 q1 q2 q3 : MV} {ds : Ds} {m : Mm} {Q : Ds → Mm → List MV → Prop} : WP 191 597 [q0, q1, q2, q3] [(0, s0), (4, s1), (2, s2), (0, s3)] ds m Q = (WP 191 598 [q0, q1, q2, q3] [(0, 1), (0, s0), (4, s1), (2, s2), (0, s3)] ds m Q) := P_nx k191_597 rfl
set_option maxRecDepth 20000 in
theorem k191_598 : mjCode 191 598 = some (.iadd, 1, 0, 0) := by decide +kernel
theorem p191_598 {s0 s1 s2 s3 s4 : Int} {q0 q1 q2 q3 : MV} {ds : Ds} {m : Mm} {Q : Ds → Mm → List MV → Prop} : WP 191 598 [q0, q1, q2, q3] [(0, s0), (0, s1), (4, s2), (2, s3), (0, s4)] ds m Q = (WP 191 599 [q0, q1, q2, q3] [(0, w32 (s1 + s0)), (4, s2), (2, s3), (0, s4)] ds m Q) := P_nx k191_598 rfl
set_option maxRecDepth 20000 in
theorem k191_599 : mjCode 191 599 = some (.iaload, 1, 0, 0) := by decide +kernel
theorem p191_599 {s0 s1 s2 s3 : Int} {q0 q1 q2 q3 : MV} {ds : Ds} {m : Mm} {Q : Ds → Mm → List MV → Prop} : WP 191 599 [q0, q1, q2, q3] [(0, s0), (4, s1), (2, s2), (0, s3)] ds m Q = ((0 ≤ s0 ∧ s0 < m (-3) 0 ∧ WP 191 600 [q0, q1, q2, q3] [(0, m (-2) s0), (2, s2), (0, s3)] ds m Q)) := P_sc k191_599 rfl
set_option maxRecDepth 20000 in
theorem k191_600 : mjCode 191 600 = some (.invokevirtual 65, 3, 148, 2) := by decide +kernel
theorem p191_600 {s0 s1 s2 : Int} {q0 q1 q2 q3 : MV} {ds : Ds} {m : Mm} {Q : Ds → Mm → List MV → Prop} : WP 191 600 [q0, q1, q2, q3] [(0, s0), (2, s1), (0, s2)] ds m Q = ((dk ds s1 = 7 ∧ WP 147 0 [(2, s1), (0, s0)] [] ds m (fun d2 m2 r2 => WP 191 603 [q0, q1, q2, q3] (r2 ++ [(0, s2)]) d2 m2 Q))) := P_cv k191_600 mx147 mo147 rfl rfl rfl rfl rfl rfl rfl rfl
set_option maxRecDepth 20000 in
theorem k191_603 : mjCode 191 603 = some (.if_icmp .eq 499, 3, 1102, 0) := by decide +kernel
theorem p191_603 {s0 s1 : Int} {q0 q1 q2 q3 : MV} {ds : Ds} {m : Mm} {Q : Ds → Mm → List MV → Prop} : WP 191 603 [q0, q1, q2, q3] [(0, s0), (0, s1)] ds m Q = (if s1 = s0 then WP 191 1102 [q0, q1, q2, q3] [] ds m Q else WP 191 606 [q0, q1, q2, q3] [] ds m Q) := P_if k191_603 rfl
set_option maxRecDepth 20000 in
theorem k191_606 : mjCode 191 606 = some (.iconst 0, 1, 0, 0) := by decide +kernel
theorem p191_606 {q0 q1 q2 q3 : MV} {ds : Ds} {m : Mm} {Q : Ds → Mm → List MV → Prop} : WP 191 606 [q0, q1, q2, q3] [] ds m Q = (WP 191 607 [q0, q1, q2, q3] [(0, 0)] ds m Q) := P_nx k191_606 rfl
set_option maxRecDepth 20000 in
theorem k191_607 : mjCode 191 607 = some (.ireturn, 1, 0, 0) := by decide +kernel
theorem p191_607 {s0 : Int} {q0 q1 q2 q3 : MV} {ds : Ds} {m : Mm} {Q : Ds → Mm → List MV → Prop} : WP 191 607 [q0, q1, q2, q3] [(0, s0)] ds m Q = (((s0 = 0 ∨ s0 = 1) ∧ Q ds m [(0, s0)])) := P_rb k191_607 rk191
set_option maxRecDepth 20000 in
theorem k191_608 : mjCode 191 608 = some (.aload_n 1, 1, 0, 0) := by decide +kernel
theorem p191_608 {l1 : Int} {q0 q2 q3 : MV} {ds : Ds} {m : Mm} {Q : Ds → Mm → List MV → Prop} : WP 191 608 [q0, (2, l1), q2, q3] [] ds m Q = (WP 191 609 [q0, (2, l1), q2, q3] [(2, l1)] ds m Q) := P_nx k191_608 rfl
set_option maxRecDepth 20000 in
theorem k191_609 : mjCode 191 609 = some (.aload_n 0, 1, 0, 0) := by decide +kernel
theorem p191_609 {l0 s0 : Int} {q1 q2 q3 : MV} {ds : Ds} {m : Mm} {Q : Ds → Mm → List MV → Prop} : WP 191 609 [(4, l0), q1, q2, q3] [(2, s0)] ds m Q = (WP 191 610 [(4, l0), q1, q2, q3] [(4, l0), (2, s0)] ds m Q) := P_nx k191_609 rfl
set_option maxRecDepth 20000 in
theorem k191_610 : mjCode 191 610 = some (.iload_n 3, 1, 0, 0) := by decide +kernel
theorem p191_610 {l3 s0 s1 : Int} {q0 q1 q2 : MV} {ds : Ds} {m : Mm} {Q : Ds → Mm → List MV → Prop} : WP 191 610 [q0, q1, q2, (0, l3)] [(4, s0), (2, s1)] ds m Q = (WP 191 611 [q0, q1, q2, (0, l3)] [(0, l3), (4, s0), (2, s1)] ds m Q) := P_nx k191_610 rfl
set_option maxRecDepth 20000 in
theorem k191_611 : mjCode 191 611 = some (.iconst 1, 1, 0, 0) := by decide +kernel
theorem p191_611 {s0 s1 s2 : Int} {q0 q1 q2 q3 : MV} {ds : Ds} {m : Mm} {Q : Ds → Mm → List MV → Prop} : WP 191 611 [q0, q1, q2, q3] [(0, s0), (4, s1), (2, s2)] ds m Q = (WP 191 612 [q0, q1, q2, q3] [(0, 1), (0, s0), (4, s1), (2, s2)] ds m Q) := P_nx k191_611 rfl
set_option maxRecDepth 20000 in
theorem k191_612 : mjCode 191 612 = some (.iadd, 1, 0, 0) := by decide +kernel
theorem p191_612 {s0 s1 s2 s3 : Int} {q0 q1 q2 q3 : MV} {ds : Ds} {m : Mm} {Q : Ds → Mm → List MV → Prop} : WP 191 612 [q0, q1, q2, q3] [(0, s0), (0, s1), (4, s2), (2, s3)] ds m Q = (WP 191 613 [q0, q1, q2, q3] [(0, w32 (s1 + s0)), (4, s2), (2, s3)] ds m Q) := P_nx k191_612 rfl
set_option maxRecDepth 20000 in
theorem k191_613 : mjCode 191 613 = some (.iaload, 1, 0, 0) := by decide +kernel
theorem p191_613 {s0 s1 s2 : Int} {q0 q1 q2 q3 : MV} {ds : Ds} {m : Mm} {Q : Ds → Mm → List MV → Prop} : WP 191 613 [q0, q1, q2, q3] [(0, s0), (4, s1), (2, s2)] ds m Q = ((0 ≤ s0 ∧ s0 < m (-3) 0 ∧ WP 191 614 [q0, q1, q2, q3] [(0, m (-2) s0), (2, s2)] ds m Q)) := P_sc k191_613 rfl
set_option maxRecDepth 20000 in
theorem k191_614 : mjCode 191 614 = some (.invokevirtual 66, 3, 80, 2) := by decide +kernel
theorem p191_614 {s0 s1 : Int} {q0 q1 q2 q3 : MV} {ds : Ds} {m : Mm} {Q : Ds → Mm → List MV → Prop} : WP 191 614 [q0, q1, q2, q3] [(0, s0), (2, s1)] ds m Q = ((dk ds s1 = 6 ∧ WP 79 0 [(2, s1), (0, s0), (3, 0), (3, 0), (3, 0)] [] ds m (fun d2 m2 r2 => WP 191 617 [q0, q1, q2, q3] (r2 ++ []) d2 m2 Q))) := P_cv k191_614 mx79 mo79 rfl rfl rfl rfl rfl rfl rfl rfl
set_option maxRecDepth 20000 in
theorem k191_617 : mjCode 191 617 = some (.aload_n 2, 1, 0, 0) := by decide +kernel
theorem p191_617 {l2 s0 : Int} {q0 q1 q3 : MV} {ds : Ds} {m : Mm} {Q : Ds → Mm → List MV → Prop} : WP 191 617 [q0, q1, (2, l2), q3] [(0, s0)] ds m Q = (WP 191 618 [q0, q1, (2, l2), q3] [(2, l2), (0, s0)] ds m Q) := P_nx k191_617 rfl
set_option maxRecDepth 20000 in
theorem k191_618 : mjCode 191 618 = some (.aload_n 0, 1, 0, 0) := by decide +kernel
theorem p191_618 {l0 s0 s1 : Int} {q1 q2 q3 : MV} {ds : Ds} {m : Mm} {Q : Ds → Mm → List MV → Prop} : WP 191 618 [(4, l0), q1, q2, q3] [(2, s0), (0, s1)] ds m Q = (WP 191 619 [(4, l0), q1, q2, q3] [(4, l0), (2, s0), (0, s1)] ds m Q) := P_nx k191_618 rfl
set_option maxRecDepth 20000 in
theorem k191_619 : mjCode 191 619 = some (.iload_n 3, 1, 0, 0) := by decide +kernel
theorem p191_619 {l3 s0 s1 s2 : Int} {q0 q1 q2 : MV} {ds : Ds} {m : Mm} {Q : Ds → Mm → List MV → Prop} : WP 191 619 [q0, q1, q2, (0, l3)] [(4, s0), (2, s1), (0, s2)] ds m Q = (WP 191 620 [q0, q1, q2, (0, l3)] [(0, l3), (4, s0), (2, s1), (0, s2)] ds m Q) := P_nx k191_619 rfl
set_option maxRecDepth 20000 in
theorem k191_620 : mjCode 191 620 = some (.iconst 1, 1, 0, 0) := by decide +kernel
theorem p191_620 {s0 s1 s2 s3 : Int} {q0 q1 q2 q3 : MV} {ds : Ds} {m : Mm} {Q : Ds → Mm → List MV → Prop} : WP 191 620 [q0, q1, q2, q3] [(0, s0), (4, s1), (2, s2), (0, s3)] ds m Q = (WP 191 621 [q0, q1, q2, q3] [(0, 1), (0, s0), (4, s1), (2, s2), (0, s3)] ds m Q) := P_nx k191_620 rfl
set_option maxRecDepth 20000 in
theorem k191_621 : mjCode 191 621 = some (.iadd, 1, 0, 0) := by decide +kernel
theorem p191_621 {s0 s1 s2 s3 s4 : Int} {q0 q1 q2 q3 : MV} {ds : Ds} {m : Mm} {Q : Ds → Mm → List MV → Prop} : WP 191 621 [q0, q1, q2, q3] [(0, s0), (0, s1), (4, s2), (2, s3), (0, s4)] ds m Q = (WP 191 622 [q0, q1, q2, q3] [(0, w32 (s1 + s0)), (4, s2), (2, s3), (0, s4)] ds m Q) := P_nx k191_621 rfl
set_option maxRecDepth 20000 in
theorem k191_622 : mjCode 191 622 = some (.iaload, 1, 0, 0) := by decide +kernel
theorem p191_622 {s0 s1 s2 s3 : Int} {q0 q1 q2 q3 : MV} {ds : Ds} {m : Mm} {Q : Ds → Mm → List MV → Prop} : WP 191 622 [q0, q1, q2, q3] [(0, s0), (4, s1), (2, s2), (0, s3)] ds m Q = ((0 ≤ s0 ∧ s0 < m (-3) 0 ∧ WP 191 623 [q0, q1, q2, q3] [(0, m (-2) s0), (2, s2), (0, s3)] ds m Q)) := P_sc k191_622 rfl
set_option maxRecDepth 20000 in
theorem k191_623 : mjCode 191 623 = some (.invokevirtual 69, 3, 153, 2) := by decide +kernel
theorem p191_623 {s0 s1 s2 : Int} {q0 q1 q2 q3 : MV} {ds : Ds} {m : Mm} {Q : Ds → Mm → List MV → Prop} : WP 191 623 [q0, q1, q2, q3] [(0, s0), (2, s1), (0, s2)] ds m Q = ((dk ds s1 = 7 ∧ WP 152 0 [(2, s1), (0, s0), (3, 0), (3, 0), (3, 0)] [] ds m (fun d2 m2 r2 => WP 191 626 [q0, q1, q2, q3] (r2 ++ [(0, s2)]) d2 m2 Q))) := P_cv k191_623 mx152 mo152 rfl rfl rfl rfl rfl rfl rfl rfl
set_option maxRecDepth 20000 in
theorem k191_626 : mjCode 191 626 = some (.if_icmp .eq 476, 3, 1102, 0) := by decide +kernel
theorem p191_626 {s0 s1 : Int} {q0 q1 q2 q3 : MV} {ds : Ds} {m : Mm} {Q : Ds → Mm → List MV → Prop} : WP 191 626 [q0, q1, q2, q3] [(0, s0), (0, s1)] ds m Q = (if s1 = s0 then WP 191 1102 [q0, q1, q2, q3] [] ds m Q else WP 191 629 [q0, q1, q2, q3] [] ds m Q) := P_if k191_626 rfl
set_option maxRecDepth 20000 in
theorem k191_629 : mjCode 191 629 = some (.iconst 0, 1, 0, 0) := by decide +kernel
theorem p191_629 {q0 q1 q2 q3 : MV} {ds : Ds} {m : Mm} {Q : Ds → Mm → List MV → Prop} : WP 191 629 [q0, q1, q2, q3] [] ds m Q = (WP 191 630 [q0, q1, q2, q3] [(0, 0)] ds m Q) := P_nx k191_629 rfl
set_option maxRecDepth 20000 in
theorem k191_630 : mjCode 191 630 = some (.ireturn, 1, 0, 0) := by decide +kernel
theorem p191_630 {s0 : Int} {q0 q1 q2 q3 : MV} {ds : Ds} {m : Mm} {Q : Ds → Mm → List MV → Prop} : WP 191 630 [q0, q1, q2, q3] [(0, s0)] ds m Q = (((s0 = 0 ∨ s0 = 1) ∧ Q ds m [(0, s0)])) := P_rb k191_630 rk191
set_option maxRecDepth 20000 in
theorem k191_631 : mjCode 191 631 = some (.aload_n 1, 1, 0, 0) := by decide +kernel
theorem p191_631 {l1 : Int} {q0 q2 q3 : MV} {ds : Ds} {m : Mm} {Q : Ds → Mm → List MV → Prop} : WP 191 631 [q0, (2, l1), q2, q3] [] ds m Q = (WP 191 632 [q0, (2, l1), q2, q3] [(2, l1)] ds m Q) := P_nx k191_631 rfl
set_option maxRecDepth 20000 in
theorem k191_632 : mjCode 191 632 = some (.aload_n 0, 1, 0, 0) := by decide +kernel
theorem p191_632 {l0 s0 : Int} {q1 q2 q3 : MV} {ds : Ds} {m : Mm} {Q : Ds → Mm → List MV → Prop} : WP 191 632 [(4, l0), q1, q2, q3] [(2, s0)] ds m Q = (WP 191 633 [(4, l0), q1, q2, q3] [(4, l0), (2, s0)] ds m Q) := P_nx k191_632 rfl
set_option maxRecDepth 20000 in
theorem k191_633 : mjCode 191 633 = some (.iload_n 3, 1, 0, 0) := by decide +kernel
theorem p191_633 {l3 s0 s1 : Int} {q0 q1 q2 : MV} {ds : Ds} {m : Mm} {Q : Ds → Mm → List MV → Prop} : WP 191 633 [q0, q1, q2, (0, l3)] [(4, s0), (2, s1)] ds m Q = (WP 191 634 [q0, q1, q2, (0, l3)] [(0, l3), (4, s0), (2, s1)] ds m Q) := P_nx k191_633 rfl
set_option maxRecDepth 20000 in
theorem k191_634 : mjCode 191 634 = some (.iconst 1, 1, 0, 0) := by decide +kernel
theorem p191_634 {s0 s1 s2 : Int} {q0 q1 q2 q3 : MV} {ds : Ds} {m : Mm} {Q : Ds → Mm → List MV → Prop} : WP 191 634 [q0, q1, q2, q3] [(0, s0), (4, s1), (2, s2)] ds m Q = (WP 191 635 [q0, q1, q2, q3] [(0, 1), (0, s0), (4, s1), (2, s2)] ds m Q) := P_nx k191_634 rfl
set_option maxRecDepth 20000 in
theorem k191_635 : mjCode 191 635 = some (.iadd, 1, 0, 0) := by decide +kernel
theorem p191_635 {s0 s1 s2 s3 : Int} {q0 q1 q2 q3 : MV} {ds : Ds} {m : Mm} {Q : Ds → Mm → List MV → Prop} : WP 191 635 [q0, q1, q2, q3] [(0, s0), (0, s1), (4, s2), (2, s3)] ds m Q = (WP 191 636 [q0, q1, q2, q3] [(0, w32 (s1 + s0)), (4, s2), (2, s3)] ds m Q) := P_nx k191_635 rfl
set_option maxRecDepth 20000 in
theorem k191_636 : mjCode 191 636 = some (.iaload, 1, 0, 0) := by decide +kernel
theorem p191_636 {s0 s1 s2 : Int} {q0 q1 q2 q3 : MV} {ds : Ds} {m : Mm} {Q : Ds → Mm → List MV → Prop} : WP 191 636 [q0, q1, q2, q3] [(0, s0), (4, s1), (2, s2)] ds m Q = ((0 ≤ s0 ∧ s0 < m (-3) 0 ∧ WP 191 637 [q0, q1, q2, q3] [(0, m (-2) s0), (2, s2)] ds m Q)) := P_sc k191_636 rfl
set_option maxRecDepth 20000 in
theorem k191_637 : mjCode 191 637 = some (.invokevirtual 70, 3, 81, 2) := by decide +kernel
theorem p191_637 {s0 s1 : Int} {q0 q1 q2 q3 : MV} {ds : Ds} {m : Mm} {Q : Ds → Mm → List MV → Prop} : WP 191 637 [q0, q1, q2, q3] [(0, s0), (2, s1)] ds m Q = ((dk ds s1 = 6 ∧ WP 80 0 [(2, s1), (0, s0), (3, 0)] [] ds m (fun d2 m2 r2 => WP 191 640 [q0, q1, q2, q3] (r2 ++ []) d2 m2 Q))) := P_cv k191_637 mx80 mo80 rfl rfl rfl rfl rfl rfl rfl rfl
set_option maxRecDepth 20000 in
theorem k191_640 : mjCode 191 640 = some (.aload_n 2, 1, 0, 0) := by decide +kernel
theorem p191_640 {l2 s0 : Int} {q0 q1 q3 : MV} {ds : Ds} {m : Mm} {Q : Ds → Mm → List MV → Prop} : WP 191 640 [q0, q1, (2, l2), q3] [(0, s0)] ds m Q = (WP 191 641 [q0, q1, (2, l2), q3] [(2, l2), (0, s0)] ds m Q) := P_nx k191_640 rfl
set_option maxRecDepth 20000 in
theorem k191_641 : mjCode 191 641 = some (.aload_n 0, 1, 0, 0) := by decide +kernel
theorem p191_641 {l0 s0 s1 : Int} {q1 q2 q3 : MV} {ds : Ds} {m : Mm} {Q : Ds → Mm → List MV → Prop} : WP 191 641 [(4, l0), q1, q2, q3] [(2, s0), (0, s1)] ds m Q = (WP 191 642 [(4, l0), q1, q2, q3] [(4, l0), (2, s0), (0, s1)] ds m Q) := P_nx k191_641 rfl
set_option maxRecDepth 20000 in
theorem k191_642 : mjCode 191 642 = some (.iload_n 3, 1, 0, 0) := by decide +kernel
theorem p191_642 {l3 s0 s1 s2 : Int} {q0 q1 q2 : MV} {ds : Ds} {m : Mm} {Q : Ds → Mm → List MV → Prop} : WP 191 642 [q0, q1, q2, (0, l3)] [(4, s0), (2, s1), (0, s2)] ds m Q = (WP 191 643 [q0, q1, q2, (0, l3)] [(0, l3), (4, s0), (2, s1), (0, s2)] ds m Q) := P_nx k191_642 rfl
set_option maxRecDepth 20000 in
theorem k191_643 : mjCode 191 643 = some (.iconst 1, 1, 0, 0) := by decide +kernel
theorem p191_643 {s0 s1 s2 s3 : Int} {q0 q1 q2 q3 : MV} {ds : Ds} {m : Mm} {Q : Ds → Mm → List MV → Prop} : WP 191 643 [q0, q1, q2, q3] [(0, s0), (4, s1), (2, s2), (0, s3)] ds m Q = (WP 191 644 [q0, q1, q2, q3] [(0, 1), (0, s0), (4, s1), (2, s2), (0, s3)] ds m Q) := P_nx k191_643 rfl
set_option maxRecDepth 20000 in
theorem k191_644 : mjCode 191 644 = some (.iadd, 1, 0, 0) := by decide +kernel
theorem p191_644 {s0 s1 s2 s3 s4 : Int} {q0 q1 q2 q3 : MV} {ds : Ds} {m : Mm} {Q : Ds → Mm → List MV → Prop} : WP 191 644 [q0, q1, q2, q3] [(0, s0), (0, s1), (4, s2), (2, s3), (0, s4)] ds m Q = (WP 191 645 [q0, q1, q2, q3] [(0, w32 (s1 + s0)), (4, s2), (2, s3), (0, s4)] ds m Q) := P_nx k191_644 rfl
set_option maxRecDepth 20000 in
theorem k191_645 : mjCode 191 645 = some (.iaload, 1, 0, 0) := by decide +kernel
theorem p191_645 {s0 s1 s2 s3 : Int} {q0 q1 q2 q3 : MV} {ds : Ds} {m : Mm} {Q : Ds → Mm → List MV → Prop} : WP 191 645 [q0, q1, q2, q3] [(0, s0), (4, s1), (2, s2), (0, s3)] ds m Q = ((0 ≤ s0 ∧ s0 < m (-3) 0 ∧ WP 191 646 [q0, q1, q2, q3] [(0, m (-2) s0), (2, s2), (0, s3)] ds m Q)) := P_sc k191_645 rfl
set_option maxRecDepth 20000 in
theorem k191_646 : mjCode 191 646 = some (.invokevirtual 73, 3, 154, 2) := by decide +kernel
theorem p191_646 {s0 s1 s2 : Int} {q0 q1 q2 q3 : MV} {ds : Ds} {m : Mm} {Q : Ds → Mm → List MV → Prop} : WP 191 646 [q0, q1, q2, q3] [(0, s0), (2, s1), (0, s2)] ds m Q = ((dk ds s1 = 7 ∧ WP 153 0 [(2, s1), (0, s0)] [] ds m (fun d2 m2 r2 => WP 191 649 [q0, q1, q2, q3] (r2 ++ [(0, s2)]) d2 m2 Q))) := P_cv k191_646 mx153 mo153 rfl rfl rfl rfl rfl rfl rfl rfl
set_option maxRecDepth 20000 in
theorem k191_649 : mjCode 191 649 = some (.if_icmp .eq 453, 3, 1102, 0) := by decide +kernel
theorem p191_649 {s0 s1 : Int} {q0 q1 q2 q3 : MV} {ds : Ds} {m : Mm} {Q : Ds → Mm → List MV → Prop} : WP 191 649 [q0, q1, q2, q3] [(0, s0), (0, s1)] ds m Q = (if s1 = s0 then WP 191 1102 [q0, q1, q2, q3] [] ds m Q else WP 191 652 [q0, q1, q2, q3] [] ds m Q) := P_if k191_649 rfl
set_option maxRecDepth 20000 in
theorem k191_652 : mjCode 191 652 = some (.iconst 0, 1, 0, 0) := by decide +kernel
theorem p191_652 {q0 q1 q2 q3 : MV} {ds : Ds} {m : Mm} {Q : Ds → Mm → List MV → Prop} : WP 191 652 [q0, q1, q2, q3] [] ds m Q = (WP 191 653 [q0, q1, q2, q3] [(0, 0)] ds m Q) := P_nx k191_652 rfl
set_option maxRecDepth 20000 in
theorem k191_653 : mjCode 191 653 = some (.ireturn, 1, 0, 0) := by decide +kernel
theorem p191_653 {s0 : Int} {q0 q1 q2 q3 : MV} {ds : Ds} {m : Mm} {Q : Ds → Mm → List MV → Prop} : WP 191 653 [q0, q1, q2, q3] [(0, s0)] ds m Q = (((s0 = 0 ∨ s0 = 1) ∧ Q ds m [(0, s0)])) := P_rb k191_653 rk191
set_option maxRecDepth 20000 in
theorem k191_654 : mjCode 191 654 = some (.aload_n 1, 1, 0, 0) := by decide +kernel
theorem p191_654 {l1 : Int} {q0 q2 q3 : MV} {ds : Ds} {m : Mm} {Q : Ds → Mm → List MV → Prop} : WP 191 654 [q0, (2, l1), q2, q3] [] ds m Q = (WP 191 655 [q0, (2, l1), q2, q3] [(2, l1)] ds m Q) := P_nx k191_654 rfl
set_option maxRecDepth 20000 in
theorem k191_655 : mjCode 191 655 = some (.aload_n 0, 1, 0, 0) := by decide +kernel
theorem p191_655 {l0 s0 : Int} {q1 q2 q3 : MV} {ds : Ds} {m : Mm} {Q : Ds → Mm → List MV → Prop} : WP 191 655 [(4, l0), q1, q2, q3] [(2, s0)] ds m Q = (WP 191 656 [(4, l0), q1, q2, q3] [(4, l0), (2, s0)] ds m Q) := P_nx k191_655 rfl
set_option maxRecDepth 20000 in
theorem k191_656 : mjCode 191 656 = some (.iload_n 3, 1, 0, 0) := by decide +kernel
theorem p191_656 {l3 s0 s1 : Int} {q0 q1 q2 : MV} {ds : Ds} {m : Mm} {Q : Ds → Mm → List MV → Prop} : WP 191 656 [q0, q1, q2, (0, l3)] [(4, s0), (2, s1)] ds m Q = (WP 191 657 [q0, q1, q2, (0, l3)] [(0, l3), (4, s0), (2, s1)] ds m Q) := P_nx k191_656 rfl
set_option maxRecDepth 20000 in
theorem k191_657 : mjCode 191 657 = some (.iconst 1, 1, 0, 0) := by decide +kernel
theorem p191_657 {s0 s1 s2 : Int} {q0 q1 q2 q3 : MV} {ds : Ds} {m : Mm} {Q : Ds → Mm → List MV → Prop} : WP 191 657 [q0, q1, q2, q3] [(0, s0), (4, s1), (2, s2)] ds m Q = (WP 191 658 [q0, q1, q2, q3] [(0, 1), (0, s0), (4, s1), (2, s2)] ds m Q) := P_nx k191_657 rfl
set_option maxRecDepth 20000 in
theorem k191_658 : mjCode 191 658 = some (.iadd, 1, 0, 0) := by decide +kernel
theorem p191_658 {s0 s1 s2 s3 : Int} {q0 q1 q2 q3 : MV} {ds : Ds} {m : Mm} {Q : Ds → Mm → List MV → Prop} : WP 191 658 [q0, q1, q2, q3] [(0, s0), (0, s1), (4, s2), (2, s3)] ds m Q = (WP 191 659 [q0, q1, q2, q3] [(0, w32 (s1 + s0)), (4, s2), (2, s3)] ds m Q) := P_nx k191_658 rfl
set_option maxRecDepth 20000 in
theorem k191_659 : mjCode 191 659 = some (.iaload, 1, 0, 0) := by decide +kernel
theorem p191_659 {s0 s1 s2 : Int} {q0 q1 q2 q3 : MV} {ds : Ds} {m : Mm} {Q : Ds → Mm → List MV → Prop} : WP 191 659 [q0, q1, q2, q3] [(0, s0), (4, s1), (2, s2)] ds m Q = ((0 ≤ s0 ∧ s0 < m (-3) 0 ∧ WP 191 660 [q0, q1, q2, q3] [(0, m (-2) s0), (2, s2)] ds m Q)) := P_sc k191_659 rfl
set_option maxRecDepth 20000 in
theorem k191_660 : mjCode 191 660 = some (.invokevirtual 74, 3, 82, 2) := by decide +kernel
theorem p191_660 {s0 s1 : Int} {q0 q1 q2 q3 : MV} {ds : Ds} {m : Mm} {Q : Ds → Mm → List MV → Prop} : WP 191 660 [q0, q1, q2, q3] [(0, s0), (2, s1)] ds m Q = ((dk ds s1 = 6 ∧ WP 81 0 [(2, s1), (0, s0), (3, 0)] [] ds m (fun d2 m2 r2 => WP 191 663 [q0, q1, q2, q3] (r2 ++ []) d2 m2 Q))) := P_cv k191_660 mx81 mo81 rfl rfl rfl rfl rfl rfl rfl rfl
set_option maxRecDepth 20000 in
theorem k191_663 : mjCode 191 663 = some (.aload_n 2, 1, 0, 0) := by decide +kernel
theorem p191_663 {l2 s0 : Int} {q0 q1 q3 : MV} {ds : Ds} {m : Mm} {Q : Ds → Mm → List MV → Prop} : WP 191 663 [q0, q1, (2, l2), q3] [(0, s0)] ds m Q = (WP 191 664 [q0, q1, (2, l2), q3] [(2, l2), (0, s0)] ds m Q) := P_nx k191_663 rfl
set_option maxRecDepth 20000 in
theorem k191_664 : mjCode 191 664 = some (.aload_n 0, 1, 0, 0) := by decide +kernel
theorem p191_664 {l0 s0 s1 : Int} {q1 q2 q3 : MV} {ds : Ds} {m : Mm} {Q : Ds → Mm → List MV → Prop} : WP 191 664 [(4, l0), q1, q2, q3] [(2, s0), (0, s1)] ds m Q = (WP 191 665 [(4, l0), q1, q2, q3] [(4, l0), (2, s0), (0, s1)] ds m Q) := P_nx k191_664 rfl
set_option maxRecDepth 20000 in
theorem k191_665 : mjCode 191 665 = some (.iload_n 3, 1, 0, 0) := by decide +kernel
theorem p191_665 {l3 s0 s1 s2 : Int} {q0 q1 q2 : MV} {ds : Ds} {m : Mm} {Q : Ds → Mm → List MV → Prop} : WP 191 665 [q0, q1, q2, (0, l3)] [(4, s0), (2, s1), (0, s2)] ds m Q = (WP 191 666 [q0, q1, q2, (0, l3)] [(0, l3), (4, s0), (2, s1), (0, s2)] ds m Q) := P_nx k191_665 rfl
set_option maxRecDepth 20000 in
theorem k191_666 : mjCode 191 666 = some (.iconst 1, 1, 0, 0) := by decide +kernel
theorem p191_666 {s0 s1 s2 s3 : Int} {q0 q1 q2 q3 : MV} {ds : Ds} {m : Mm} {Q : Ds → Mm → List MV → Prop} : WP 191 666 [q0, q1, q2, q3] [(0, s0), (4, s1), (2, s2), (0, s3)] ds m Q = (WP 191 667 [q0, q1, q2, q3] [(0, 1), (0, s0), (4, s1), (2, s2), (0, s3)] ds m Q) := P_nx k191_666 rfl
set_option maxRecDepth 20000 in
theorem k191_667 : mjCode 191 667 = some (.iadd, 1, 0, 0) := by decide +kernel
theorem p191_667 {s0 s1 s2 s3 s4 : Int} {q0 q1 q2 q3 : MV} {ds : Ds} {m : Mm} {Q : Ds → Mm → List MV → Prop} : WP 191 667 [q0, q1, q2, q3] [(0, s0), (0, s1), (4, s2), (2, s3), (0, s4)] ds m Q = (WP 191 668 [q0, q1, q2, q3] [(0, w32 (s1 + s0)), (4, s2), (2, s3), (0, s4)] ds m Q) := P_nx k191_667 rfl
set_option maxRecDepth 20000 in
theorem k191_668 : mjCode 191 668 = some (.iaload, 1, 0, 0) := by decide +kernel
theorem p191_668 {s0 s1 s2 s3 : Int} {q0 q1 q2 q3 : MV} {ds : Ds} {m : Mm} {Q : Ds → Mm → List MV → Prop} : WP 191 668 [q0, q1, q2, q3] [(0, s0), (4, s1), (2, s2), (0, s3)] ds m Q = ((0 ≤ s0 ∧ s0 < m (-3) 0 ∧ WP 191 669 [q0, q1, q2, q3] [(0, m (-2) s0), (2, s2), (0, s3)] ds m Q)) := P_sc k191_668 rfl
set_option maxRecDepth 20000 in
theorem k191_669 : mjCode 191 669 = some (.invokevirtual 77, 3, 155, 2) := by decide +kernel
theorem p191_669 {s0 s1 s2 : Int} {q0 q1 q2 q3 : MV} {ds : Ds} {m : Mm} {Q : Ds → Mm → List MV → Prop} : WP 191 669 [q0, q1, q2, q3] [(0, s0), (2, s1), (0, s2)] ds m Q = ((dk ds s1 = 7 ∧ WP 154 0 [(2, s1), (0, s0)] [] ds m (fun d2 m2 r2 => WP 191 672 [q0, q1, q2, q3] (r2 ++ [(0, s2)]) d2 m2 Q))) := P_cv k191_669 mx154 mo154 rfl rfl rfl rfl rfl rfl rfl rfl
set_option maxRecDepth 20000 in
theorem k191_672 : mjCode 191 672 = some (.if_icmp .eq 430, 3, 1102, 0) := by decide +kernel
theorem p191_672 {s0 s1 : Int} {q0 q1 q2 q3 : MV} {ds : Ds} {m : Mm} {Q : Ds → Mm → List MV → Prop} : WP 191 672 [q0, q1, q2, q3] [(0, s0), (0, s1)] ds m Q = (if s1 = s0 then WP 191 1102 [q0, q1, q2, q3] [] ds m Q else WP 191 675 [q0, q1, q2, q3] [] ds m Q) := P_if k191_672 rfl
set_option maxRecDepth 20000 in
theorem k191_675 : mjCode 191 675 = some (.iconst 0, 1, 0, 0) := by decide +kernel
theorem p191_675 {q0 q1 q2 q3 : MV} {ds : Ds} {m : Mm} {Q : Ds → Mm → List MV → Prop} : WP 191 675 [q0, q1, q2, q3] [] ds m Q = (WP 191 676 [q0, q1, q2, q3] [(0, 0)] ds m Q) := P_nx k191_675 rfl
set_option maxRecDepth 20000 in
theorem k191_676 : mjCode 191 676 = some (.ireturn, 1, 0, 0) := by decide +kernel
theorem p191_676 {s0 : Int} {q0 q1 q2 q3 : MV} {ds : Ds} {m : Mm} {Q : Ds → Mm → List MV → Prop} : WP 191 676 [q0, q1, q2, q3] [(0, s0)] ds m Q = (((s0 = 0 ∨ s0 = 1) ∧ Q ds m [(0, s0)])) := P_rb k191_676 rk191
set_option maxRecDepth 20000 in
theorem k191_677 : mjCode 191 677 = some (.aload_n 1, 1, 0, 0) := by decide +kernel
theorem p191_677 {l1 : Int} {q0 q2 q3 : MV} {ds : Ds} {m : Mm} {Q : Ds → Mm → List MV → Prop} : WP 191 677 [q0, (2, l1), q2, q3] [] ds m Q = (WP 191 678 [q0, (2, l1), q2, q3] [(2, l1)] ds m Q) := P_nx k191_677 rfl
set_option maxRecDepth 20000 in
theorem k191_678 : mjCode 191 678 = some (.aload_n 0, 1, 0, 0) := by decide +kernel
theorem p191_678 {l0 s0 : Int} {q1 q2 q3 : MV} {ds : Ds} {m : Mm} {Q : Ds → Mm → List MV → Prop} : WP 191 678 [(4, l0), q1, q2, q3] [(2, s0)] ds m Q = (WP 191 679 [(4, l0), q1, q2, q3] [(4, l0), (2, s0)] ds m Q) := P_nx k191_678 rfl
set_option maxRecDepth 20000 in
theorem k191_679 : mjCode 191 679 = some (.iload_n 3, 1, 0, 0) := by decide +kernel
theorem p191_679 {l3 s0 s1 : Int} {q0 q1 q2 : MV} {ds : Ds} {m : Mm} {Q : Ds → Mm → List MV → Prop} : WP 191 679 [q0, q1, q2, (0, l3)] [(4, s0), (2, s1)] ds m Q = (WP 191 680 [q0, q1, q2, (0, l3)] [(0, l3), (4, s0), (2, s1)] ds m Q) := P_nx k191_679 rfl
set_option maxRecDepth 20000 in
theorem k191_680 : mjCode 191 680 = some (.iconst 1, 1, 0, 0) := by decide +kernel
theorem p191_680 {s0 s1 s2 : Int} {q0 q1 q2 q3 : MV} {ds : Ds} {m : Mm} {Q : Ds → Mm → List MV → Prop} : WP 191 680 [q0, q1, q2, q3] [(0, s0), (4, s1), (2, s2)] ds m Q = (WP 191 681 [q0, q1, q2, q3] [(0, 1), (0, s0), (4, s1), (2, s2)] ds m Q) := P_nx k191_680 rfl
set_option maxRecDepth 20000 in
theorem k191_681 : mjCode 191 681 = some (.iadd, 1, 0, 0) := by decide +kernel
theorem p191_681 {s0 s1 s2 s3 : Int} {q0 q1 q2 q3 : MV} {ds : Ds} {m : Mm} {Q : Ds → Mm → List MV → Prop} : WP 191 681 [q0, q1, q2, q3] [(0, s0), (0, s1), (4, s2), (2, s3)] ds m Q = (WP 191 682 [q0, q1, q2, q3] [(0, w32 (s1 + s0)), (4, s2), (2, s3)] ds m Q) := P_nx k191_681 rfl
set_option maxRecDepth 20000 in
theorem k191_682 : mjCode 191 682 = some (.iaload, 1, 0, 0) := by decide +kernel
theorem p191_682 {s0 s1 s2 : Int} {q0 q1 q2 q3 : MV} {ds : Ds} {m : Mm} {Q : Ds → Mm → List MV → Prop} : WP 191 682 [q0, q1, q2, q3] [(0, s0), (4, s1), (2, s2)] ds m Q = ((0 ≤ s0 ∧ s0 < m (-3) 0 ∧ WP 191 683 [q0, q1, q2, q3] [(0, m (-2) s0), (2, s2)] ds m Q)) := P_sc k191_682 rfl
set_option maxRecDepth 20000 in
theorem k191_683 : mjCode 191 683 = some (.aload_n 0, 1, 0, 0) := by decide +kernel
theorem p191_683 {l0 s0 s1 : Int} {q1 q2 q3 : MV} {ds : Ds} {m : Mm} {Q : Ds → Mm → List MV → Prop} : WP 191 683 [(4, l0), q1, q2, q3] [(0, s0), (2, s1)] ds m Q = (WP 191 684 [(4, l0), q1, q2, q3] [(4, l0), (0, s0), (2, s1)] ds m Q) := P_nx k191_683 rfl
set_option maxRecDepth 20000 in
theorem k191_684 : mjCode 191 684 = some (.iload_n 3, 1, 0, 0) := by decide +kernel
theorem p191_684 {l3 s0 s1 s2 : Int} {q0 q1 q2 : MV} {ds : Ds} {m : Mm} {Q : Ds → Mm → List MV → Prop} : WP 191 684 [q0, q1, q2, (0, l3)] [(4, s0), (0, s1), (2, s2)] ds m Q = (WP 191 685 [q0, q1, q2, (0, l3)] [(0, l3), (4, s0), (0, s1), (2, s2)] ds m Q) := P_nx k191_684 rfl
set_option maxRecDepth 20000 in
theorem k191_685 : mjCode 191 685 = some (.iconst 2, 1, 0, 0) := by decide +kernel
theorem p191_685 {s0 s1 s2 s3 : Int} {q0 q1 q2 q3 : MV} {ds : Ds} {m : Mm} {Q : Ds → Mm → List MV → Prop} : WP 191 685 [q0, q1, q2, q3] [(0, s0), (4, s1), (0, s2), (2, s3)] ds m Q = (WP 191 686 [q0, q1, q2, q3] [(0, 2), (0, s0), (4, s1), (0, s2), (2, s3)] ds m Q) := P_nx k191_685 rfl
set_option maxRecDepth 20000 in
theorem k191_686 : mjCode 191 686 = some (.iadd, 1, 0, 0) := by decide +kernel
theorem p191_686 {s0 s1 s2 s3 s4 : Int} {q0 q1 q2 q3 : MV} {ds : Ds} {m : Mm} {Q : Ds → Mm → List MV → Prop} : WP 191 686 [q0, q1, q2, q3] [(0, s0), (0, s1), (4, s2), (0, s3), (2, s4)] ds m Q = (WP 191 687 [q0, q1, q2, q3] [(0, w32 (s1 + s0)), (4, s2), (0, s3), (2, s4)] ds m Q) := P_nx k191_686 rfl
set_option maxRecDepth 20000 in
theorem k191_687 : mjCode 191 687 = some (.iaload, 1, 0, 0) := by decide +kernel
theorem p191_687 {s0 s1 s2 s3 : Int} {q0 q1 q2 q3 : MV} {ds : Ds} {m : Mm} {Q : Ds → Mm → List MV → Prop} : WP 191 687 [q0, q1, q2, q3] [(0, s0), (4, s1), (0, s2), (2, s3)] ds m Q = ((0 ≤ s0 ∧ s0 < m (-3) 0 ∧ WP 191 688 [q0, q1, q2, q3] [(0, m (-2) s0), (0, s2), (2, s3)] ds m Q)) := P_sc k191_687 rfl
set_option maxRecDepth 20000 in
theorem k191_688 : mjCode 191 688 = some (.invokevirtual 78, 3, 73, 3) := by decide +kernel
theorem p191_688 {s0 s1 s2 : Int} {q0 q1 q2 q3 : MV} {ds : Ds} {m : Mm} {Q : Ds → Mm → List MV → Prop} : WP 191 688 [q0, q1, q2, q3] [(0, s0), (0, s1), (2, s2)] ds m Q = ((dk ds s2 = 6 ∧ WP 72 0 [(2, s2), (0, s1), (0, s0)] [] ds m (fun d2 m2 r2 => WP 191 691 [q0, q1, q2, q3] (r2 ++ []) d2 m2 Q))) := P_cv k191_688 mx72 mo72 rfl rfl rfl rfl rfl rfl rfl rfl
set_option maxRecDepth 20000 in
theorem k191_691 : mjCode 191 691 = some (.aload_n 2, 1, 0, 0) := by decide +kernel
theorem p191_691 {l2 s0 : Int} {q0 q1 q3 : MV} {ds : Ds} {m : Mm} {Q : Ds → Mm → List MV → Prop} : WP 191 691 [q0, q1, (2, l2), q3] [(0, s0)] ds m Q = (WP 191 692 [q0, q1, (2, l2), q3] [(2, l2), (0, s0)] ds m Q) := P_nx k191_691 rfl
set_option maxRecDepth 20000 in
theorem k191_692 : mjCode 191 692 = some (.aload_n 0, 1, 0, 0) := by decide +kernel
theorem p191_692 {l0 s0 s1 : Int} {q1 q2 q3 : MV} {ds : Ds} {m : Mm} {Q : Ds → Mm → List MV → Prop} : WP 191 692 [(4, l0), q1, q2, q3] [(2, s0), (0, s1)] ds m Q = (WP 191 693 [(4, l0), q1, q2, q3] [(4, l0), (2, s0), (0, s1)] ds m Q) := P_nx k191_692 rfl
set_option maxRecDepth 20000 in
theorem k191_693 : mjCode 191 693 = some (.iload_n 3, 1, 0, 0) := by decide +kernel
theorem p191_693 {l3 s0 s1 s2 : Int} {q0 q1 q2 : MV} {ds : Ds} {m : Mm} {Q : Ds → Mm → List MV → Prop} : WP 191 693 [q0, q1, q2, (0, l3)] [(4, s0), (2, s1), (0, s2)] ds m Q = (WP 191 694 [q0, q1, q2, (0, l3)] [(0, l3), (4, s0), (2, s1), (0, s2)] ds m Q) := P_nx k191_693 rfl
set_option maxRecDepth 20000 in
theorem k191_694 : mjCode 191 694 = some (.iconst 1, 1, 0, 0) := by decide +kernel
theorem p191_694 {s0 s1 s2 s3 : Int} {q0 q1 q2 q3 : MV} {ds : Ds} {m : Mm} {Q : Ds → Mm → List MV → Prop} : WP 191 694 [q0, q1, q2, q3] [(0, s0), (4, s1), (2, s2), (0, s3)] ds m Q = (WP 191 695 [q0, q1, q2, q3] [(0, 1), (0, s0), (4, s1), (2, s2), (0, s3)] ds m Q) := P_nx k191_694 rfl
set_option maxRecDepth 20000 in
theorem k191_695 : mjCode 191 695 = some (.iadd, 1, 0, 0) := by decide +kernel
theorem p191_695 {s0 s1 s2 s3 s4 : Int} {q0 q1 q2 q3 : MV} {ds : Ds} {m : Mm} {Q : Ds → Mm → List MV → Prop} : WP 191 695 [q0, q1, q2, q3] [(0, s0), (0, s1), (4, s2), (2, s3), (0, s4)] ds m Q = (WP 191 696 [q0, q1, q2, q3] [(0, w32 (s1 + s0)), (4, s2), (2, s3), (0, s4)] ds m Q) := P_nx k191_695 rfl
set_option maxRecDepth 20000 in
theorem k191_696 : mjCode 191 696 = some (.iaload, 1, 0, 0) := by decide +kernel
theorem p191_696 {s0 s1 s2 s3 : Int} {q0 q1 q2 q3 : MV} {ds : Ds} {m : Mm} {Q : Ds → Mm → List MV → Prop} : WP 191 696 [q0, q1, q2, q3] [(0, s0), (4, s1), (2, s2), (0, s3)] ds m Q = ((0 ≤ s0 ∧ s0 < m (-3) 0 ∧ WP 191 697 [q0, q1, q2, q3] [(0, m (-2) s0), (2, s2), (0, s3)] ds m Q)) := P_sc k191_696 rfl
set_option maxRecDepth 20000 in
theorem k191_697 : mjCode 191 697 = some (.aload_n 0, 1, 0, 0) := by decide +kernel
theorem p191_697 {l0 s0 s1 s2 : Int} {q1 q2 q3 : MV} {ds : Ds} {m : Mm} {Q : Ds → Mm → List MV → Prop} : WP 191 697 [(4, l0), q1, q2, q3] [(0, s0), (2, s1), (0, s2)] ds m Q = (WP 191 698 [(4, l0), q1, q2, q3] [(4, l0), (0, s0), (2, s1), (0, s2)] ds m Q) := P_nx k191_697 rfl
set_option maxRecDepth 20000 in
theorem k191_698 : mjCode 191 698 = some (.iload_n 3, 1, 0, 0) := by decide +kernel
theorem p191_698 {l3 s0 s1 s2 s3 : Int} {q0 q1 q2 : MV} {ds : Ds} {m : Mm} {Q : Ds → Mm → List MV → Prop} : WP 191 698 [q0, q1, q2, (0, l3)] [(4, s0), (0, s1), (2, s2), (0, s3)] ds m Q = (WP 191 699 [q0, q1, q2, (0, l3)] [(0, l3), (4, s0), (0, s1), (2, s2), (0, s3)] ds m Q) := P_nx k191_698 rfl
set_option maxRecDepth 20000 in
theorem k191_699 : mjCode 191 699 = some (.iconst 2, 1, 0, 0) := by decide +kernel
theorem p191_699 {s0 s1 s2 s3 s4 : Int} {q0 q1 q2 q3 : MV} {ds : Ds} {m : Mm} {Q : Ds → Mm → List MV → Prop} : WP 191 699 [q0, q1, q2, q3] [(0, s0), (4, s1), (0, s2), (2, s3), (0, s4)] ds m Q = (WP 191 700 [q0, q1, q2, q3] [(0, 2), (0, s0), (4, s1), (0, s2), (2, s3), (0, s4)] ds m Q) := P_nx k191_699 rfl
set_option maxRecDepth 20000 in
theorem k191_700 : mjCode 191 700 = some (.iadd, 1, 0, 0) := by decide +kernel
theorem p191_700 {s0 s1 s2 s3 s4 s5 : Int} {q0 q1 q2 q3 : MV} {ds : Ds} {m : Mm} {Q : Ds → Mm → List MV → Prop} : WP 191 700 [q0, q1, q2, q3] [(0, s0), (0, s1), (4, s2), (0, s3), (2, s4), (0, s5)] ds m Q = (WP 191 701 [q0, q1, q2, q3] [(0, w32 (s1 + s0)), (4, s2), (0, s3), (2, s4), (0, s5)] ds m Q) := P_nx k191_700 rfl
set_option maxRecDepth 20000 in
theorem k191_701 : mjCode 191 701 = some (.iaload, 1, 0, 0) := by decide +kernel
theorem p191_701 {s0 s1 s2 s3 s4 : Int} {q0 q1 q2 q3 : MV} {ds : Ds} {m : Mm} {Q : Ds → Mm → List MV → Prop} : WP 191 701 [q0, q1, q2, q3] [(0, s0), (4, s1), (0, s2), (2, s3), (0, s4)] ds m Q = ((0 ≤ s0 ∧ s0 < m (-3) 0 ∧ WP 191 702 [q0, q1, q2, q3] [(0, m (-2) s0), (0, s2), (2, s3), (0, s4)] ds m Q)) := P_sc k191_701 rfl
set_option maxRecDepth 20000 in
theorem k191_702 : mjCode 191 702 = some (.invokevirtual 82, 3, 139, 3) := by decide +kernel
theorem p191_702 {s0 s1 s2 s3 : Int} {q0 q1 q2 q3 : MV} {ds : Ds} {m : Mm} {Q : Ds → Mm → List MV → Prop} : WP 191 702 [q0, q1, q2, q3] [(0, s0), (0, s1), (2, s2), (0, s3)] ds m Q = ((dk ds s2 = 7 ∧ WP 138 0 [(2, s2), (0, s1), (0, s0)] [] ds m (fun d2 m2 r2 => WP 191 705 [q0, q1, q2, q3] (r2 ++ [(0, s3)]) d2 m2 Q))) := P_cv k191_702 mx138 mo138 rfl rfl rfl rfl rfl rfl rfl rfl
set_option maxRecDepth 20000 in
theorem k191_705 : mjCode 191 705 = some (.if_icmp .eq 397, 3, 1102, 0) := by decide +kernel
theorem p191_705 {s0 s1 : Int} {q0 q1 q2 q3 : MV} {ds : Ds} {m : Mm} {Q : Ds → Mm → List MV → Prop} : WP 191 705 [q0, q1, q2, q3] [(0, s0), (0, s1)] ds m Q = (if s1 = s0 then WP 191 1102 [q0, q1, q2, q3] [] ds m Q else WP 191 708 [q0, q1, q2, q3] [] ds m Q) := P_if k191_705 rfl
set_option maxRecDepth 20000 in
theorem k191_708 : mjCode 191 708 = some (.iconst 0, 1, 0, 0) := by decide +kernel
theorem p191_708 {q0 q1 q2 q3 : MV} {ds : Ds} {m : Mm} {Q : Ds → Mm → List MV → Prop} : WP 191 708 [q0, q1, q2, q3] [] ds m Q = (WP 191 709 [q0, q1, q2, q3] [(0, 0)] ds m Q) := P_nx k191_708 rfl
set_option maxRecDepth 20000 in
theorem k191_709 : mjCode 191 709 = some (.ireturn, 1, 0, 0) := by decide +kernel
theorem p191_709 {s0 : Int} {q0 q1 q2 q3 : MV} {ds : Ds} {m : Mm} {Q : Ds → Mm → List MV → Prop} : WP 191 709 [q0, q1, q2, q3] [(0, s0)] ds m Q = (((s0 = 0 ∨ s0 = 1) ∧ Q ds m [(0, s0)])) := P_rb k191_709 rk191
set_option maxRecDepth 20000 in
theorem k191_710 : mjCode 191 710 = some (.aload_n 1, 1, 0, 0) := by decide +kernel
theorem p191_710 {l1 : Int} {q0 q2 q3 : MV} {ds : Ds} {m : Mm} {Q : Ds → Mm → List MV → Prop} : WP 191 710 [q0, (2, l1), q2, q3] [] ds m Q = (WP 191 711 [q0, (2, l1), q2, q3] [(2, l1)] ds m Q) := P_nx k191_710 rfl
set_option maxRecDepth 20000 in
theorem k191_711 : mjCode 191 711 = some (.invokevirtual 83, 3, 83, 1) := by decide +kernel
theorem p191_711 {s0 : Int} {q0 q1 q2 q3 : MV} {ds : Ds} {m : Mm} {Q : Ds → Mm → List MV → Prop} : WP 191 711 [q0, q1, q2, q3] [(2, s0)] ds m Q = ((dk ds s0 = 6 ∧ WP 82 0 [(2, s0)] [] ds m (fun d2 m2 r2 => WP 191 714 [q0, q1, q2, q3] (r2 ++ []) d2 m2 Q))) := P_cv k191_711 mx82 mo82 rfl rfl rfl rfl rfl rfl rfl rfl
set_option maxRecDepth 20000 in
theorem k191_714 : mjCode 191 714 = some (.aload_n 2, 1, 0, 0) := by decide +kernel
theorem p191_714 {l2 s0 : Int} {q0 q1 q3 : MV} {ds : Ds} {m : Mm} {Q : Ds → Mm → List MV → Prop} : WP 191 714 [q0, q1, (2, l2), q3] [(0, s0)] ds m Q = (WP 191 715 [q0, q1, (2, l2), q3] [(2, l2), (0, s0)] ds m Q) := P_nx k191_714 rfl
set_option maxRecDepth 20000 in
theorem k191_715 : mjCode 191 715 = some (.invokevirtual 86, 3, 168, 1) := by decide +kernel
theorem p191_715 {s0 s1 : Int} {q0 q1 q2 q3 : MV} {ds : Ds} {m : Mm} {Q : Ds → Mm → List MV → Prop} : WP 191 715 [q0, q1, q2, q3] [(2, s0), (0, s1)] ds m Q = ((dk ds s0 = 7 ∧ WP 167 0 [(2, s0), (3, 0)] [] ds m (fun d2 m2 r2 => WP 191 718 [q0, q1, q2, q3] (r2 ++ [(0, s1)]) d2 m2 Q))) := P_cv k191_715 mx167 mo167 rfl rfl rfl rfl rfl rfl rfl rfl
set_option maxRecDepth 20000 in
theorem k191_718 : mjCode 191 718 = some (.if_icmp .eq 384, 3, 1102, 0) := by decide +kernel
theorem p191_718 {s0 s1 : Int} {q0 q1 q2 q3 : MV} {ds : Ds} {m : Mm} {Q : Ds → Mm → List MV → Prop} : WP 191 718 [q0, q1, q2, q3] [(0, s0), (0, s1)] ds m Q = (if s1 = s0 then WP 191 1102 [q0, q1, q2, q3] [] ds m Q else WP 191 721 [q0, q1, q2, q3] [] ds m Q) := P_if k191_718 rfl
set_option maxRecDepth 20000 in
theorem k191_721 : mjCode 191 721 = some (.iconst 0, 1, 0, 0) := by decide +kernel
theorem p191_721 {q0 q1 q2 q3 : MV} {ds : Ds} {m : Mm} {Q : Ds → Mm → List MV → Prop} : WP 191 721 [q0, q1, q2, q3] [] ds m Q = (WP 191 722 [q0, q1, q2, q3] [(0, 0)] ds m Q) := P_nx k191_721 rfl
set_option maxRecDepth 20000 in
theorem k191_722 : mjCode 191 722 = some (.ireturn, 1, 0, 0) := by decide +kernel
theorem p191_722 {s0 : Int} {q0 q1 q2 q3 : MV} {ds : Ds} {m : Mm} {Q : Ds → Mm → List MV → Prop} : WP 191 722 [q0, q1, q2, q3] [(0, s0)] ds m Q = (((s0 = 0 ∨ s0 = 1) ∧ Q ds m [(0, s0)])) := P_rb k191_722 rk191
set_option maxRecDepth 20000 in
theorem k191_723 : mjCode 191 723 = some (.aload_n 1, 1, 0, 0) := by decide +kernel
theorem p191_723 {l1 : Int} {q0 q2 q3 : MV} {ds : Ds} {m : Mm} {Q : Ds → Mm → List MV → Prop} : WP 191 723 [q0, (2, l1), q2, q3] [] ds m Q = (WP 191 724 [q0, (2, l1), q2, q3] [(2, l1)] ds m Q) := P_nx k191_723 rfl
set_option maxRecDepth 20000 in
theorem k191_724 : mjCode 191 724 = some (.aload_n 0, 1, 0, 0) := by decide +kernel
theorem p191_724 {l0 s0 : Int} {q1 q2 q3 : MV} {ds : Ds} {m : Mm} {Q : Ds → Mm → List MV → Prop} : WP 191 724 [(4, l0), q1, q2, q3] [(2, s0)] ds m Q = (WP 191 725 [(4, l0), q1, q2, q3] [(4, l0), (2, s0)] ds m Q) := P_nx k191_724 rfl
set_option maxRecDepth 20000 in
theorem k191_725 : mjCode 191 725 = some (.iload_n 3, 1, 0, 0) := by decide +kernel
theorem p191_725 {l3 s0 s1 : Int} {q0 q1 q2 : MV} {ds : Ds} {m : Mm} {Q : Ds → Mm → List MV → Prop} : WP 191 725 [q0, q1, q2, (0, l3)] [(4, s0), (2, s1)] ds m Q = (WP 191 726 [q0, q1, q2, (0, l3)] [(0, l3), (4, s0), (2, s1)] ds m Q) := P_nx k191_725 rfl
set_option maxRecDepth 20000 in
theorem k191_726 : mjCode 191 726 = some (.iconst 1, 1, 0, 0) := by decide +kernel
theorem p191_726 {s0 s1 s2 : Int} {q0 q1 q2 q3 : MV} {ds : Ds} {m : Mm} {Q : Ds → Mm → List MV → Prop} : WP 191 726 [q0, q1, q2, q3] [(0, s0), (4, s1), (2, s2)] ds m Q = (WP 191 727 [q0, q1, q2, q3] [(0, 1), (0, s0), (4, s1), (2, s2)] ds m Q) := P_nx k191_726 rfl
set_option maxRecDepth 20000 in
theorem k191_727 : mjCode 191 727 = some (.iadd, 1, 0, 0) := by decide +kernel
theorem p191_727 {s0 s1 s2 s3 : Int} {q0 q1 q2 q3 : MV} {ds : Ds} {m : Mm} {Q : Ds → Mm → List MV → Prop} : WP 191 727 [q0, q1, q2, q3] [(0, s0), (0, s1), (4, s2), (2, s3)] ds m Q = (WP 191 728 [q0, q1, q2, q3] [(0, w32 (s1 + s0)), (4, s2), (2, s3)] ds m Q) := P_nx k191_727 rfl
set_option maxRecDepth 20000 in
theorem k191_728 : mjCode 191 728 = some (.iaload, 1, 0, 0) := by decide +kernel
theorem p191_728 {s0 s1 s2 : Int} {q0 q1 q2 q3 : MV} {ds : Ds} {m : Mm} {Q : Ds → Mm → List MV → Prop} : WP 191 728 [q0, q1, q2, q3] [(0, s0), (4, s1), (2, s2)] ds m Q = ((0 ≤ s0 ∧ s0 < m (-3) 0 ∧ WP 191 729 [q0, q1, q2, q3] [(0, m (-2) s0), (2, s2)] ds m Q)) := P_sc k191_728 rfl
set_option maxRecDepth 20000 in
theorem k191_729 : mjCode 191 729 = some (.invokevirtual 87, 3, 84, 2) := by decide +kernel
theorem p191_729 {s0 s1 : Int} {q0 q1 q2 q3 : MV} {ds : Ds} {m : Mm} {Q : Ds → Mm → List MV → Prop} : WP 191 729 [q0, q1, q2, q3] [(0, s0), (2, s1)] ds m Q = ((dk ds s1 = 6 ∧ WP 83 0 [(2, s1), (0, s0)] [] ds m (fun d2 m2 r2 => WP 191 732 [q0, q1, q2, q3] (r2 ++ []) d2 m2 Q))) := P_cv k191_729 mx83 mo83 rfl rfl rfl rfl rfl rfl rfl rfl
set_option maxRecDepth 20000 in
theorem k191_732 : mjCode 191 732 = some (.aload_n 2, 1, 0, 0) := by decide +kernel
theorem p191_732 {l2 s0 : Int} {q0 q1 q3 : MV} {ds : Ds} {m : Mm} {Q : Ds → Mm → List MV → Prop} : WP 191 732 [q0, q1, (2, l2), q3] [(0, s0)] ds m Q = (WP 191 733 [q0, q1, (2, l2), q3] [(2, l2), (0, s0)] ds m Q) := P_nx k191_732 rfl
set_option maxRecDepth 20000 in
theorem k191_733 : mjCode 191 733 = some (.aload_n 0, 1, 0, 0) := by decide +kernel
theorem p191_733 {l0 s0 s1 : Int} {q1 q2 q3 : MV} {ds : Ds} {m : Mm} {Q : Ds → Mm → List MV → Prop} : WP 191 733 [(4, l0), q1, q2, q3] [(2, s0), (0, s1)] ds m Q = (WP 191 734 [(4, l0), q1, q2, q3] [(4, l0), (2, s0), (0, s1)] ds m Q) := P_nx k191_733 rfl
set_option maxRecDepth 20000 in
theorem k191_734 : mjCode 191 734 = some (.iload_n 3, 1, 0, 0) := by decide +kernel
theorem p191_734 {l3 s0 s1 s2 : Int} {q0 q1 q2 : MV} {ds : Ds} {m : Mm} {Q : Ds → Mm → List MV → Prop} : WP 191 734 [q0, q1, q2, (0, l3)] [(4, s0), (2, s1), (0, s2)] ds m Q = (WP 191 735 [q0, q1, q2, (0, l3)] [(0, l3), (4, s0), (2, s1), (0, s2)] ds m Q) := P_nx k191_734 rfl
set_option maxRecDepth 20000 in
theorem k191_735 : mjCode 191 735 = some (.iconst 1, 1, 0, 0) := by decide +kernel
theorem p191_735 {s0 s1 s2 s3 : Int} {q0 q1 q2 q3 : MV} {ds : Ds} {m : Mm} {Q : Ds → Mm → List MV → Prop} : WP 191 735 [q0, q1, q2, q3] [(0, s0), (4, s1), (2, s2), (0, s3)] ds m Q = (WP 191 736 [q0, q1, q2, q3] [(0, 1), (0, s0), (4, s1), (2, s2), (0, s3)] ds m Q) := P_nx k191_735 rfl
set_option maxRecDepth 20000 in
theorem k191_736 : mjCode 191 736 = some (.iadd, 1, 0, 0) := by decide +kernel
theorem p191_736 {s0 s1 s2 s3 s4 : Int} {q0 q1 q2 q3 : MV} {ds : Ds} {m : Mm} {Q : Ds → Mm → List MV → Prop} : WP 191 736 [q0, q1, q2, q3] [(0, s0), (0, s1), (4, s2), (2, s3), (0, s4)] ds m Q = (WP 191 737 [q0, q1, q2, q3] [(0, w32 (s1 + s0)), (4, s2), (2, s3), (0, s4)] ds m Q) := P_nx k191_736 rfl
set_option maxRecDepth 20000 in
theorem k191_737 : mjCode 191 737 = some (.iaload, 1, 0, 0) := by decide +kernel
theorem p191_737 {s0 s1 s2 s3 : Int} {q0 q1 q2 q3 : MV} {ds : Ds} {m : Mm} {Q : Ds → Mm → List MV → Prop} : WP 191 737 [q0, q1, q2, q3] [(0, s0), (4, s1), (2, s2), (0, s3)] ds m Q = ((0 ≤ s0 ∧ s0 < m (-3) 0 ∧ WP 191 738 [q0, q1, q2, q3] [(0, m (-2) s0), (2, s2), (0, s3)] ds m Q)) := P_sc k191_737 rfl
set_option maxRecDepth 20000 in
theorem k191_738 : mjCode 191 738 = some (.invokevirtual 90, 3, 169, 2) := by decide +kernel
theorem p191_738 {s0 s1 s2 : Int} {q0 q1 q2 q3 : MV} {ds : Ds} {m : Mm} {Q : Ds → Mm → List MV → Prop} : WP 191 738 [q0, q1, q2, q3] [(0, s0), (2, s1), (0, s2)] ds m Q = ((dk ds s1 = 7 ∧ WP 168 0 [(2, s1), (0, s0)] [] ds m (fun d2 m2 r2 => WP 191 741 [q0, q1, q2, q3] (r2 ++ [(0, s2)]) d2 m2 Q))) := P_cv k191_738 mx168 mo168 rfl rfl rfl rfl rfl rfl rfl rfl
set_option maxRecDepth 20000 in
theorem k191_741 : mjCode 191 741 = some (.if_icmp .eq 361, 3, 1102, 0) := by decide +kernel
theorem p191_741 {s0 s1 : Int} {q0 q1 q2 q3 : MV} {ds : Ds} {m : Mm} {Q : Ds → Mm → List MV → Prop} : WP 191 741 [q0, q1, q2, q3] [(0, s0), (0, s1)] ds m Q = (if s1 = s0 then WP 191 1102 [q0, q1, q2, q3] [] ds m Q else WP 191 744 [q0, q1, q2, q3] [] ds m Q) := P_if k191_741 rfl
set_option maxRecDepth 20000 in
theorem k191_744 : mjCode 191 744 = some (.iconst 0, 1, 0, 0) := by decide +kernel
theorem p191_744 {q0 q1 q2 q3 : MV} {ds : Ds} {m : Mm} {Q : Ds → Mm → List MV → Prop} : WP 191 744 [q0, q1, q2, q3] [] ds m Q = (WP 191 745 [q0, q1, q2, q3] [(0, 0)] ds m Q) := P_nx k191_744 rfl
set_option maxRecDepth 20000 in
theorem k191_745 : mjCode 191 745 = some (.ireturn, 1, 0, 0) := by decide +kernel
theorem p191_745 {s0 : Int} {q0 q1 q2 q3 : MV} {ds : Ds} {m : Mm} {Q : Ds → Mm → List MV → Prop} : WP 191 745 [q0, q1, q2, q3] [(0, s0)] ds m Q = (((s0 = 0 ∨ s0 = 1) ∧ Q ds m [(0, s0)])) := P_rb k191_745 rk191
set_option maxRecDepth 20000 in
theorem k191_746 : mjCode 191 746 = some (.aload_n 1, 1, 0, 0) := by decide +kernel
theorem p191_746 {l1 : Int} {q0 q2 q3 : MV} {ds : Ds} {m : Mm} {Q : Ds → Mm → List MV → Prop} : WP 191 746 [q0, (2, l1), q2, q3] [] ds m Q = (WP 191 747 [q0, (2, l1), q2, q3] [(2, l1)] ds m Q) := P_nx k191_746 rfl
set_option maxRecDepth 20000 in
theorem k191_747 : mjCode 191 747 = some (.aload_n 0, 1, 0, 0) := by decide +kernel
theorem p191_747 {l0 s0 : Int} {q1 q2 q3 : MV} {ds : Ds} {m : Mm} {Q : Ds → Mm → List MV → Prop} : WP 191 747 [(4, l0), q1, q2, q3] [(2, s0)] ds m Q = (WP 191 748 [(4, l0), q1, q2, q3] [(4, l0), (2, s0)] ds m Q) := P_nx k191_747 rfl
set_option maxRecDepth 20000 in
theorem k191_748 : mjCode 191 748 = some (.iload_n 3, 1, 0, 0) := by decide +kernel
theorem p191_748 {l3 s0 s1 : Int} {q0 q1 q2 : MV} {ds : Ds} {m : Mm} {Q : Ds → Mm → List MV → Prop} : WP 191 748 [q0, q1, q2, (0, l3)] [(4, s0), (2, s1)] ds m Q = (WP 191 749 [q0, q1, q2, (0, l3)] [(0, l3), (4, s0), (2, s1)] ds m Q) := P_nx k191_748 rfl
set_option maxRecDepth 20000 in
theorem k191_749 : mjCode 191 749 = some (.iconst 1, 1, 0, 0) := by decide +kernel
theorem p191_749 {s0 s1 s2 : Int} {q0 q1 q2 q3 : MV} {ds : Ds} {m : Mm} {Q : Ds → Mm → List MV → Prop} : WP 191 749 [q0, q1, q2, q3] [(0, s0), (4, s1), (2, s2)] ds m Q = (WP 191 750 [q0, q1, q2, q3] [(0, 1), (0, s0), (4, s1), (2, s2)] ds m Q) := P_nx k191_749 rfl
set_option maxRecDepth 20000 in
theorem k191_750 : mjCode 191 750 = some (.iadd, 1, 0, 0) := by decide +kernel
theorem p191_750 {s0 s1 s2 s3 : Int} {q0 q1 q2 q3 : MV} {ds : Ds} {m : Mm} {Q : Ds → Mm → List MV → Prop} : WP 191 750 [q0, q1, q2, q3] [(0, s0), (0, s1), (4, s2), (2, s3)] ds m Q = (WP 191 751 [q0, q1, q2, q3] [(0, w32 (s1 + s0)), (4, s2), (2, s3)] ds m Q) := P_nx k191_750 rfl
set_option maxRecDepth 20000 in
theorem k191_751 : mjCode 191 751 = some (.iaload, 1, 0, 0) := by decide +kernel
theorem p191_751 {s0 s1 s2 : Int} {q0 q1 q2 q3 : MV} {ds : Ds} {m : Mm} {Q : Ds → Mm → List MV → Prop} : WP 191 751 [q0, q1, q2, q3] [(0, s0), (4, s1), (2, s2)] ds m Q = ((0 ≤ s0 ∧ s0 < m (-3) 0 ∧ WP 191 752 [q0, q1, q2, q3] [(0, m (-2) s0), (2, s2)] ds m Q)) := P_sc k191_751 rfl
set_option maxRecDepth 20000 in
theorem k191_752 : mjCode 191 752 = some (.aload_n 0, 1, 0, 0) := by decide +kernel
theorem p191_752 {l0 s0 s1 : Int} {q1 q2 q3 : MV} {ds : Ds} {m : Mm} {Q : Ds → Mm → List MV → Prop} : WP 191 752 [(4, l0), q1, q2, q3] [(0, s0), (2, s1)] ds m Q = (WP 191 753 [(4, l0), q1, q2, q3] [(4, l0), (0, s0), (2, s1)] ds m Q) := P_nx k191_752 rfl
set_option maxRecDepth 20000 in
theorem k191_753 : mjCode 191 753 = some (.iload_n 3, 1, 0, 0) := by decide +kernel
theorem p191_753 {l3 s0 s1 s2 : Int} {q0 q1 q2 : MV} {ds : Ds} {m : Mm} {Q : Ds → Mm → List MV → Prop} : WP 191 753 [q0, q1, q2, (0, l3)] [(4, s0), (0, s1), (2, s2)] ds m Q = (WP 191 754 [q0, q1, q2, (0, l3)] [(0, l3), (4, s0), (0, s1), (2, s2)] ds m Q) := P_nx k191_753 rfl
set_option maxRecDepth 20000 in
theorem k191_754 : mjCode 191 754 = some (.iconst 2, 1, 0, 0) := by decide +kernel
theorem p191_754 {s0 s1 s2 s3 : Int} {q0 q1 q2 q3 : MV} {ds : Ds} {m : Mm} {Q : Ds → Mm → List MV → Prop} : WP 191 754 [q0, q1, q2, q3] [(0, s0), (4, s1), (0, s2), (2, s3)] ds m Q = (WP 191 755 [q0, q1, q2, q3] [(0, 2), (0, s0), (4, s1), (0, s2), (2, s3)] ds m Q) := P_nx k191_754 rfl
set_option maxRecDepth 20000 in
theorem k191_755 : mjCode 191 755 = some (.iadd, 1, 0, 0) := by decide +kernel
theorem p191_755 {s0 s1 s2 s3 s4 : Int} {q0 q1 q2 q3 : MV} {ds : Ds} {m : Mm} {Q : Ds → Mm → List MV → Prop} : WP 191 755 [q0, q1, q2, q3] [(0, s0), (0, s1), (4, s2), (0, s3), (2, s4)] ds m Q = (WP 191 756 [q0, q1, q2, q3] [(0, w32 (s1 + s0)), (4, s2), (0, s3), (2, s4)] ds m Q) := P_nx k191_755 rfl
set_option maxRecDepth 20000 in
theorem k191_756 : mjCode 191 756 = some (.iaload, 1, 0, 0) := by decide +kernel
theorem p191_756 {s0 s1 s2 s3 : Int} {q0 q1 q2 q3 : MV} {ds : Ds} {m : Mm} {Q : Ds → Mm → List MV → Prop} : WP 191 756 [q0, q1, q2, q3] [(0, s0), (4, s1), (0, s2), (2, s3)] ds m Q = ((0 ≤ s0 ∧ s0 < m (-3) 0 ∧ WP 191 757 [q0, q1, q2, q3] [(0, m (-2) s0), (0, s2), (2, s3)] ds m Q)) := P_sc k191_756 rfl
set_option maxRecDepth 20000 in
theorem k191_757 : mjCode 191 757 = some (.invokevirtual 91, 3, 85, 3) := by decide +kernel
theorem p191_757 {s0 s1 s2 : Int} {q0 q1 q2 q3 : MV} {ds : Ds} {m : Mm} {Q : Ds → Mm → List MV → Prop} : WP 191 757 [q0, q1, q2, q3] [(0, s0), (0, s1), (2, s2)] ds m Q = ((dk ds s2 = 6 ∧ WP 84 0 [(2, s2), (0, s1), (0, s0), (3, 0)] [] ds m (fun d2 m2 r2 => WP 191 760 [q0, q1, q2, q3] (r2 ++ []) d2 m2 Q))) := P_cv k191_757 mx84 mo84 rfl rfl rfl rfl rfl rfl rfl rfl
set_option maxRecDepth 20000 in
theorem k191_760 : mjCode 191 760 = some (.aload_n 2, 1, 0, 0) := by decide +kernel
theorem p191_760 {l2 s0 : Int} {q0 q1 q3 : MV} {ds : Ds} {m : Mm} {Q : Ds → Mm → List MV → Prop} : WP 191 760 [q0, q1, (2, l2), q3] [(0, s0)] ds m Q = (WP 191 761 [q0, q1, (2, l2), q3] [(2, l2), (0, s0)] ds m Q) := P_nx k191_760 rfl
set_option maxRecDepth 20000 in
theorem k191_761 : mjCode 191 761 = some (.aload_n 0, 1, 0, 0) := by decide +kernel
theorem p191_761 {l0 s0 s1 : Int} {q1 q2 q3 : MV} {ds : Ds} {m : Mm} {Q : Ds → Mm → List MV → Prop} : WP 191 761 [(4, l0), q1, q2, q3] [(2, s0), (0, s1)] ds m Q = (WP 191 762 [(4, l0), q1, q2, q3] [(4, l0), (2, s0), (0, s1)] ds m Q) := P_nx k191_761 rfl
set_option maxRecDepth 20000 in
theorem k191_762 : mjCode 191 762 = some (.iload_n 3, 1, 0, 0) := by decide +kernel
theorem p191_762 {l3 s0 s1 s2 : Int} {q0 q1 q2 : MV} {ds : Ds} {m : Mm} {Q : Ds → Mm → List MV → Prop} : WP 191 762 [q0, q1, q2, (0, l3)] [(4, s0), (2, s1), (0, s2)] ds m Q = (WP 191 763 [q0, q1, q2, (0, l3)] [(0, l3), (4, s0), (2, s1), (0, s2)] ds m Q) := P_nx k191_762 rfl
set_option maxRecDepth 20000 in
theorem k191_763 : mjCode 191 763 = some (.iconst 1, 1, 0, 0) := by decide +kernel
theorem p191_763 {s0 s1 s2 s3 : Int} {q0 q1 q2 q3 : MV} {ds : Ds} {m : Mm} {Q : Ds → Mm → List MV → Prop} : WP 191 763 [q0, q1, q2, q3] [(0, s0), (4, s1), (2, s2), (0, s3)] ds m Q = (WP 191 764 [q0, q1, q2, q3] [(0, 1), (0, s0), (4, s1), (2, s2), (0, s3)] ds m Q) := P_nx k191_763 rfl
set_option maxRecDepth 20000 in
theorem k191_764 : mjCode 191 764 = some (.iadd, 1, 0, 0) := by decide +kernel
theorem p191_764 {s0 s1 s2 s3 s4 : Int} {q0 q1 q2 q3 : MV} {ds : Ds} {m : Mm} {Q : Ds → Mm → List MV → Prop} : WP 191 764 [q0, q1, q2, q3] [(0, s0), (0, s1), (4, s2), (2, s3), (0, s4)] ds m Q = (WP 191 765 [q0, q1, q2, q3] [(0, w32 (s1 + s0)), (4, s2), (2, s3), (0, s4)] ds m Q) := P_nx k191_764 rfl
set_option maxRecDepth 20000 in
theorem k191_765 : mjCode 191 765 = some (.iaload, 1, 0, 0) := by decide +kernel
theorem p191_765 {s0 s1 s2 s3 : Int} {q0 q1 q2 q3 : MV} {ds : Ds} {m : Mm} {Q : Ds → Mm → List MV → Prop} : WP 191 765 [q0, q1, q2, q3] [(0, s0), (4, s1), (2, s2), (0, s3)] ds m Q = ((0 ≤ s0 ∧ s0 < m (-3) 0 ∧ WP 191 766 [q0, q1, q2, q3] [(0, m (-2) s0), (2, s2), (0, s3)] ds m Q)) := P_sc k191_765 rfl
set_option maxRecDepth 20000 in
theorem k191_766 : mjCode 191 766 = some (.aload_n 0, 1, 0, 0) := by decide +kernel
theorem p191_766 {l0 s0 s1 s2 : Int} {q1 q2 q3 : MV} {ds : Ds} {m : Mm} {Q : Ds → Mm → List MV → Prop} : WP 191 766 [(4, l0), q1, q2, q3] [(0, s0), (2, s1), (0, s2)] ds m Q = (WP 191 767 [(4, l0), q1, q2, q3] [(4, l0), (0, s0), (2, s1), (0, s2)] ds m Q) := P_nx k191_766 rfl
set_option maxRecDepth 20000 in
theorem k191_767 : mjCode 191 767 = some (.iload_n 3, 1, 0, 0) := by decide +kernel
theorem p191_767 {l3 s0 s1 s2 s3 : Int} {q0 q1 q2 : MV} {ds : Ds} {m : Mm} {Q : Ds → Mm → List MV → Prop} : WP 191 767 [q0, q1, q2, (0, l3)] [(4, s0), (0, s1), (2, s2), (0, s3)] ds m Q = (WP 191 768 [q0, q1, q2, (0, l3)] [(0, l3), (4, s0), (0, s1), (2, s2), (0, s3)] ds m Q) := P_nx k191_767 rfl
set_option maxRecDepth 20000 in
theorem k191_768 : mjCode 191 768 = some (.iconst 2, 1, 0, 0) := by decide +kernel
theorem p191_768 {s0 s1 s2 s3 s4 : Int} {q0 q1 q2 q3 : MV} {ds : Ds} {m : Mm} {Q : Ds → Mm → List MV → Prop} : WP 191 768 [q0, q1, q2, q3] [(0, s0), (4, s1), (0, s2), (2, s3), (0, s4)] ds m Q = (WP 191 769 [q0, q1, q2, q3] [(0, 2), (0, s0), (4, s1), (0, s2), (2, s3), (0, s4)] ds m Q) := P_nx k191_768 rfl
set_option maxRecDepth 20000 in
theorem k191_769 : mjCode 191 769 = some (.iadd, 1, 0, 0) := by decide +kernel
theorem p191_769 {s0 s1 s2 s3 s4 s5 : Int} {q0 q1 q2 q3 : MV} {ds : Ds} {m : Mm} {Q : Ds → Mm → List MV → Prop} : WP 191 769 [q0, q1, q2, q3] [(0, s0), (0, s1), (4, s2), (0, s3), (2, s4), (0, s5)] ds m Q = (WP 191 770 [q0, q1, q2, q3] [(0, w32 (s1 + s0)), (4, s2), (0, s3), (2, s4), (0, s5)] ds m Q) := P_nx k191_769 rfl
set_option maxRecDepth 20000 in
theorem k191_770 : mjCode 191 770 = some (.iaload, 1, 0, 0) := by decide +kernel
theorem p191_770 {s0 s1 s2 s3 s4 : Int} {q0 q1 q2 q3 : MV} {ds : Ds} {m : Mm} {Q : Ds → Mm → List MV → Prop} : WP 191 770 [q0, q1, q2, q3] [(0, s0), (4, s1), (0, s2), (2, s3), (0, s4)] ds m Q = ((0 ≤ s0 ∧ s0 < m (-3) 0 ∧ WP 191 771 [q0, q1, q2, q3] [(0, m (-2) s0), (0, s2), (2, s3), (0, s4)] ds m Q)) := P_sc k191_770 rfl
set_option maxRecDepth 20000 in
theorem k191_771 : mjCode 191 771 = some (.invokevirtual 94, 3, 170, 3) := by decide +kernel
theorem p191_771 {s0 s1 s2 s3 : Int} {q0 q1 q2 q3 : MV} {ds : Ds} {m : Mm} {Q : Ds → Mm → List MV → Prop} : WP 191 771 [q0, q1, q2, q3] [(0, s0), (0, s1), (2, s2), (0, s3)] ds m Q = ((dk ds s2 = 7 ∧ WP 169 0 [(2, s2), (0, s1), (0, s0)] [] ds m (fun d2 m2 r2 => WP 191 774 [q0, q1, q2, q3] (r2 ++ [(0, s3)]) d2 m2 Q))) := P_cv k191_771 mx169 mo169 rfl rfl rfl rfl rfl rfl rfl rfl
set_option maxRecDepth 20000 in
theorem k191_774 : mjCode 191 774 = some (.if_icmp .eq 328, 3, 1102, 0) := by decide +kernel
theorem p191_774 {s0 s1 : Int} {q0 q1 q2 q3 : MV} {ds : Ds} {m : Mm} {Q : Ds → Mm → List MV → Prop} : WP 191 774 [q0, q1, q2, q3] [(0, s0), (0, s1)] ds m Q = (if s1 = s0 then WP 191 1102 [q0, q1, q2, q3] [] ds m Q else WP 191 777 [q0, q1, q2, q3] [] ds m Q) := P_if k191_774 rfl
set_option maxRecDepth 20000 in
theorem k191_777 : mjCode 191 777 = some (.iconst 0, 1, 0, 0) := by decide +kernel
theorem p191_777 {q0 q1 q2 q3 : MV} {ds : Ds} {m : Mm} {Q : Ds → Mm → List MV → Prop} : WP 191 777 [q0, q1, q2, q3] [] ds m Q = (WP 191 778 [q0, q1, q2, q3] [(0, 0)] ds m Q) := P_nx k191_777 rfl
set_option maxRecDepth 20000 in
theorem k191_778 : mjCode 191 778 = some (.ireturn, 1, 0, 0) := by decide +kernel
theorem p191_778 {s0 : Int} {q0 q1 q2 q3 : MV} {ds : Ds} {m : Mm} {Q : Ds → Mm → List MV → Prop} : WP 191 778 [q0, q1, q2, q3] [(0, s0)] ds m Q = (((s0 = 0 ∨ s0 = 1) ∧ Q ds m [(0, s0)])) := P_rb k191_778 rk191
set_option maxRecDepth 20000 in
theorem k191_779 : mjCode 191 779 = some (.aload_n 1, 1, 0, 0) := by decide +kernel
theorem p191_779 {l1 : Int} {q0 q2 q3 : MV} {ds : Ds} {m : Mm} {Q : Ds → Mm → List MV → Prop} : WP 191 779 [q0, (2, l1), q2, q3] [] ds m Q = (WP 191 780 [q0, (2, l1), q2, q3] [(2, l1)] ds m Q) := P_nx k191_779 rfl
set_option maxRecDepth 20000 in
theorem k191_780 : mjCode 191 780 = some (.aload_n 0, 1, 0, 0) := by decide +kernel
theorem p191_780 {l0 s0 : Int} {q1 q2 q3 : MV} {ds : Ds} {m : Mm} {Q : Ds → Mm → List MV → Prop} : WP 191 780 [(4, l0), q1, q2, q3] [(2, s0)] ds m Q = (WP 191 781 [(4, l0), q1, q2, q3] [(4, l0), (2, s0)] ds m Q) := P_nx k191_780 rfl
set_option maxRecDepth 20000 in
theorem k191_781 : mjCode 191 781 = some (.iload_n 3, 1, 0, 0) := by decide +kernel
theorem p191_781 {l3 s0 s1 : Int} {q0 q1 q2 : MV} {ds : Ds} {m : Mm} {Q : Ds → Mm → List MV → Prop} : WP 191 781 [q0, q1, q2, (0, l3)] [(4, s0), (2, s1)] ds m Q = (WP 191 782 [q0, q1, q2, (0, l3)] [(0, l3), (4, s0), (2, s1)] ds m Q) := P_nx k191_781 rfl
set_option maxRecDepth 20000 in
theorem k191_782 : mjCode 191 782 = some (.iconst 1, 1, 0, 0) := by decide +kernel
theorem p191_782 {s0 s1 s2 : Int} {q0 q1 q2 q3 : MV} {ds : Ds} {m : Mm} {Q : Ds → Mm → List MV → Prop} : WP 191 782 [q0, q1, q2, q3] [(0, s0), (4, s1), (2, s2)] ds m Q = (WP 191 783 [q0, q1, q2, q3] [(0, 1), (0, s0), (4, s1), (2, s2)] ds m Q) := P_nx k191_782 rfl
set_option maxRecDepth 20000 in
theorem k191_783 : mjCode 191 783 = some (.iadd, 1, 0, 0) := by decide +kernel
theorem p191_783 {s0 s1 s2 s3 : Int} {q0 q1 q2 q3 : MV} {ds : Ds} {m : Mm} {Q : Ds → Mm → List MV → Prop} : WP 191 783 [q0, q1, q2, q3] [(0, s0), (0, s1), (4, s2), (2, s3)] ds m Q = (WP 191 784 [q0, q1, q2, q3] [(0, w32 (s1 + s0)), (4, s2), (2, s3)] ds m Q) := P_nx k191_783 rfl
set_option maxRecDepth 20000 in
theorem k191_784 : mjCode 191 784 = some (.iaload, 1, 0, 0) := by decide +kernel
theorem p191_784 {s0 s1 s2 : Int} {q0 q1 q2 q3 : MV} {ds : Ds} {m : Mm} {Q : Ds → Mm → List MV → Prop} : WP 191 784 [q0, q1, q2, q3] [(0, s0), (4, s1), (2, s2)] ds m Q = ((0 ≤ s0 ∧ s0 < m (-3) 0 ∧ WP 191 785 [q0, q1, q2, q3] [(0, m (-2) s0), (2, s2)] ds m Q)) := P_sc k191_784 rfl
set_option maxRecDepth 20000 in
theorem k191_785 : mjCode 191 785 = some (.aload_n 0, 1, 0, 0) := by decide +kernel
theorem p191_785 {l0 s0 s1 : Int} {q1 q2 q3 : MV} {ds : Ds} {m : Mm} {Q : Ds → Mm → List MV → Prop} : WP 191 785 [(4, l0), q1, q2, q3] [(0, s0), (2, s1)] ds m Q = (WP 191 786 [(4, l0), q1, q2, q3] [(4, l0), (0, s0), (2, s1)] ds m Q) := P_nx k191_785 rfl
set_option maxRecDepth 20000 in
theorem k191_786 : mjCode 191 786 = some (.iload_n 3, 1, 0, 0) := by decide +kernel
theorem p191_786 {l3 s0 s1 s2 : Int} {q0 q1 q2 : MV} {ds : Ds} {m : Mm} {Q : Ds → Mm → List MV → Prop} : WP 191 786 [q0, q1, q2, (0, l3)] [(4, s0), (0, s1), (2, s2)] ds m Q = (WP 191 787 [q0, q1, q2, (0, l3)] [(0, l3), (4, s0), (0, s1), (2, s2)] ds m Q) := P_nx k191_786 rfl
set_option maxRecDepth 20000 in
theorem k191_787 : mjCode 191 787 = some (.iconst 2, 1, 0, 0) := by decide +kernel
theorem p191_787 {s0 s1 s2 s3 : Int} {q0 q1 q2 q3 : MV} {ds : Ds} {m : Mm} {Q : Ds → Mm → List MV → Prop} : WP 191 787 [q0, q1, q2, q3] [(0, s0), (4, s1), (0, s2), (2, s3)] ds m Q = (WP 191 788 [q0, q1, q2, q3] [(0, 2), (0, s0), (4, s1), (0, s2), (2, s3)] ds m Q) := P_nx k191_787 rfl
set_option maxRecDepth 20000 in
theorem k191_788 : mjCode 191 788 = some (.iadd, 1, 0, 0) := by decide +kernel
theorem p191_788 {s0 s1 s2 s3 s4 : Int} {q0 q1 q2 q3 : MV} {ds : Ds} {m : Mm} {Q : Ds → Mm → List MV → Prop} : WP 191 788 [q0, q1, q2, q3] [(0, s0), (0, s1), (4, s2), (0, s3), (2, s4)] ds m Q = (WP 191 789 [q0, q1, q2, q3] [(0, w32 (s1 + s0)), (4, s2), (0, s3), (2, s4)] ds m Q) := P_nx k191_788 rfl
set_option maxRecDepth 20000 in
theorem k191_789 : mjCode 191 789 = some (.iaload, 1, 0, 0) := by decide +kernel
theorem p191_789 {s0 s1 s2 s3 : Int} {q0 q1 q2 q3 : MV} {ds : Ds} {m : Mm} {Q : Ds → Mm → List MV → Prop} : WP 191 789 [q0, q1, q2, q3] [(0, s0), (4, s1), (0, s2), (2, s3)] ds m Q = ((0 ≤ s0 ∧ s0 < m (-3) 0 ∧ WP 191 790 [q0, q1, q2, q3] [(0, m (-2) s0), (0, s2), (2, s3)] ds m Q)) := P_sc k191_789 rfl
set_option maxRecDepth 20000 in
theorem k191_790 : mjCode 191 790 = some (.invokevirtual 95, 3, 86, 3) := by decide +kernel
theorem p191_790 {s0 s1 s2 : Int} {q0 q1 q2 q3 : MV} {ds : Ds} {m : Mm} {Q : Ds → Mm → List MV → Prop} : WP 191 790 [q0, q1, q2, q3] [(0, s0), (0, s1), (2, s2)] ds m Q = ((dk ds s2 = 6 ∧ WP 85 0 [(2, s2), (0, s1), (0, s0)] [] ds m (fun d2 m2 r2 => WP 191 793 [q0, q1, q2, q3] (r2 ++ []) d2 m2 Q))) := P_cv k191_790 mx85 mo85 rfl rfl rfl rfl rfl rfl rfl rfl
set_option maxRecDepth 20000 in
theorem k191_793 : mjCode 191 793 = some (.aload_n 2, 1, 0, 0) := by decide +kernel
theorem p191_793 {l2 s0 : Int} {q0 q1 q3 : MV} {ds : Ds} {m : Mm} {Q : Ds → Mm → List MV → Prop} : WP 191 793 [q0, q1, (2, l2), q3] [(0, s0)] ds m Q = (WP 191 794 [q0, q1, (2, l2), q3] [(2, l2), (0, s0)] ds m Q) := P_nx k191_793 rfl
set_option maxRecDepth 20000 in
theorem k191_794 : mjCode 191 794 = some (.aload_n 0, 1, 0, 0) := by decide +kernel
theorem p191_794 {l0 s0 s1 : Int} {q1 q2 q3 : MV} {ds : Ds} {m : Mm} {Q : Ds → Mm → List MV → Prop} : WP 191 794 [(4, l0), q1, q2, q3] [(2, s0), (0, s1)] ds m Q = (WP 191 795 [(4, l0), q1, q2, q3] [(4, l0), (2, s0), (0, s1)] ds m Q) := P_nx k191_794 rfl
set_option maxRecDepth 20000 in
theorem k191_795 : mjCode 191 795 = some (.iload_n 3, 1, 0, 0) := by decide +kernel
theorem p191_795 {l3 s0 s1 s2 : Int} {q0 q1 q2 : MV} {ds : Ds} {m : Mm} {Q : Ds → Mm → List MV → Prop} : WP 191 795 [q0, q1, q2, (0, l3)] [(4, s0), (2, s1), (0, s2)] ds m Q = (WP 191 796 [q0, q1, q2, (0, l3)] [(0, l3), (4, s0), (2, s1), (0, s2)] ds m Q) := P_nx k191_795 rfl
set_option maxRecDepth 20000 in
theorem k191_796 : mjCode 191 796 = some (.iconst 1, 1, 0, 0) := by decide +kernel
theorem p191_796 {s0 s1 s2 s3 : Int} {q0 q1 q2 q3 : MV} {ds : Ds} {m : Mm} {Q : Ds → Mm → List MV → Prop} : WP 191 796 [q0, q1, q2, q3] [(0, s0), (4, s1), (2, s2), (0, s3)] ds m Q = (WP 191 797 [q0, q1, q2, q3] [(0, 1), (0, s0), (4, s1), (2, s2), (0, s3)] ds m Q) := P_nx k191_796 rfl
set_option maxRecDepth 20000 in
theorem k191_797 : mjCode 191 797 = some (.iadd, 1, 0, 0) := by decide +kernel
theorem p191_797 {s0 s1 s2 s3 s4 : Int} {q0 q1 q2 q3 : MV} {ds : Ds} {m : Mm} {Q : Ds → Mm → List MV → Prop} : WP 191 797 [q0, q1, q2, q3] [(0, s0), (0, s1), (4, s2), (2, s3), (0, s4)] ds m Q = (WP 191 798 [q0, q1, q2, q3] [(0, w32 (s1 + s0)), (4, s2), (2, s3), (0, s4)] ds m Q) := P_nx k191_797 rfl
set_option maxRecDepth 20000 in
theorem k191_798 : mjCode 191 798 = some (.iaload, 1, 0, 0) := by decide +kernel
theorem p191_798 {s0 s1 s2 s3 : Int} {q0 q1 q2 q3 : MV} {ds : Ds} {m : Mm} {Q : Ds → Mm → List MV → Prop} : WP 191 798 [q0, q1, q2, q3] [(0, s0), (4, s1), (2, s2), (0, s3)] ds m Q = ((0 ≤ s0 ∧ s0 < m (-3) 0 ∧ WP 191 799 [q0, q1, q2, q3] [(0, m (-2) s0), (2, s2), (0, s3)] ds m Q)) := P_sc k191_798 rfl
set_option maxRecDepth 20000 in
theorem k191_799 : mjCode 191 799 = some (.aload_n 0, 1, 0, 0) := by decide +kernel
theorem p191_799 {l0 s0 s1 s2 : Int} {q1 q2 q3 : MV} {ds : Ds} {m : Mm} {Q : Ds → Mm → List MV → Prop} : WP 191 799 [(4, l0), q1, q2, q3] [(0, s0), (2, s1), (0, s2)] ds m Q = (WP 191 800 [(4, l0), q1, q2, q3] [(4, l0), (0, s0), (2, s1), (0, s2)] ds m Q) := P_nx k191_799 rfl
set_option maxRecDepth 20000 in
theorem k191_800 : mjCode 191 800 = some (.iload_n 3, 1, 0, 0) := by decide +kernel
theorem p191_800 {l3 s0 s1 s2 s3 : Int} {q0 q1 q2 : MV} {ds : Ds} {m : Mm} {Q : Ds → Mm → List MV → Prop} : WP 191 800 [q0, q1, q2, (0, l3)] [(4, s0), (0, s1), (2, s2), (0, s3)] ds m Q = (WP 191 801 [q0, q1, q2, (0, l3)] [(0, l3), (4, s0), (0, s1), (2, s2), (0, s3)] ds m Q) := P_nx k191_800 rfl
set_option maxRecDepth 20000 in
theorem k191_801 : mjCode 191 801 = some (.iconst 2, 1, 0, 0) := by decide +kernel
theorem p191_801 {s0 s1 s2 s3 s4 : Int} {q0 q1 q2 q3 : MV} {ds : Ds} {m : Mm} {Q : Ds → Mm → List MV → Prop} : WP 191 801 [q0, q1, q2, q3] [(0, s0), (4, s1), (0, s2), (2, s3), (0, s4)] ds m Q = (WP 191 802 [q0, q1, q2, q3] [(0, 2), (0, s0), (4, s1), (0, s2), (2, s3), (0, s4)] ds m Q) := P_nx k191_801 rfl
set_option maxRecDepth 20000 in
theorem k191_802 : mjCode 191 802 = some (.iadd, 1, 0, 0) := by decide +kernel
theorem p191_802 {s0 s1 s2 s3 s4 s5 : Int} {q0 q1 q2 q3 : MV} {ds : Ds} {m : Mm} {Q : Ds → Mm → List MV → Prop} : WP 191 802 [q0, q1, q2, q3] [(0, s0), (0, s1), (4, s2), (0, s3), (2, s4), (0, s5)] ds m Q = (WP 191 803 [q0, q1, q2, q3] [(0, w32 (s1 + s0)), (4, s2), (0, s3), (2, s4), (0, s5)] ds m Q) := P_nx k191_802 rfl
set_option maxRecDepth 20000 in
theorem k191_803 : mjCode 191 803 = some (.iaload, 1, 0, 0) := by decide +kernel
theorem p191_803 {s0 s1 s2 s3 s4 : Int} {q0 q1 q2 q3 : MV} {ds : Ds} {m : Mm} {Q : Ds → Mm → List MV → Prop} : WP 191 803 [q0, q1, q2, q3] [(0, s0), (4, s1), (0, s2), (2, s3), (0, s4)] ds m Q = ((0 ≤ s0 ∧ s0 < m (-3) 0 ∧ WP 191 804 [q0, q1, q2, q3] [(0, m (-2) s0), (0, s2), (2, s3), (0, s4)] ds m Q)) := P_sc k191_803 rfl
set_option maxRecDepth 20000 in
theorem k191_804 : mjCode 191 804 = some (.invokevirtual 98, 3, 171, 3) := by decide +kernel
theorem p191_804 {s0 s1 s2 s3 : Int} {q0 q1 q2 q3 : MV} {ds : Ds} {m : Mm} {Q : Ds → Mm → List MV → Prop} : WP 191 804 [q0, q1, q2, q3] [(0, s0), (0, s1), (2, s2), (0, s3)] ds m Q = ((dk ds s2 = 7 ∧ WP 170 0 [(2, s2), (0, s1), (0, s0)] [] ds m (fun d2 m2 r2 => WP 191 807 [q0, q1, q2, q3] (r2 ++ [(0, s3)]) d2 m2 Q))) := P_cv k191_804 mx170 mo170 rfl rfl rfl rfl rfl rfl rfl rfl
set_option maxRecDepth 20000 in
theorem k191_807 : mjCode 191 807 = some (.if_icmp .eq 295, 3, 1102, 0) := by decide +kernel
theorem p191_807 {s0 s1 : Int} {q0 q1 q2 q3 : MV} {ds : Ds} {m : Mm} {Q : Ds → Mm → List MV → Prop} : WP 191 807 [q0, q1, q2, q3] [(0, s0), (0, s1)] ds m Q = (if s1 = s0 then WP 191 1102 [q0, q1, q2, q3] [] ds m Q else WP 191 810 [q0, q1, q2, q3] [] ds m Q) := P_if k191_807 rfl
set_option maxRecDepth 20000 in
theorem k191_810 : mjCode 191 810 = some (.iconst 0, 1, 0, 0) := by decide +kernel
theorem p191_810 {q0 q1 q2 q3 : MV} {ds : Ds} {m : Mm} {Q : Ds → Mm → List MV → Prop} : WP 191 810 [q0, q1, q2, q3] [] ds m Q = (WP 191 811 [q0, q1, q2, q3] [(0, 0)] ds m Q) := P_nx k191_810 rfl
set_option maxRecDepth 20000 in
theorem k191_811 : mjCode 191 811 = some (.ireturn, 1, 0, 0) := by decide +kernel
theorem p191_811 {s0 : Int} {q0 q1 q2 q3 : MV} {ds : Ds} {m : Mm} {Q : Ds → Mm → List MV → Prop} : WP 191 811 [q0, q1, q2, q3] [(0, s0)] ds m Q = (((s0 = 0 ∨ s0 = 1) ∧ Q ds m [(0, s0)])) := P_rb k191_811 rk191
set_option maxRecDepth 20000 in
theorem k191_812 : mjCode 191 812 = some (.aload_n 1, 1, 0, 0) := by decide +kernel
theorem p191_812 {l1 : Int} {q0 q2 q3 : MV} {ds : Ds} {m : Mm} {Q : Ds → Mm → List MV → Prop} : WP 191 812 [q0, (2, l1), q2, q3] [] ds m Q = (WP 191 813 [q0, (2, l1), q2, q3] [(2, l1)] ds m Q) := P_nx k191_812 rfl
set_option maxRecDepth 20000 in
theorem k191_813 : mjCode 191 813 = some (.aload_n 0, 1, 0, 0) := by decide +kernel
theorem p191_813 {l0 s0 : Int} {q1 q2 q3 : MV} {ds : Ds} {m : Mm} {Q : Ds → Mm → List MV → Prop} : WP 191 813 [(4, l0), q1, q2, q3] [(2, s0)] ds m Q = (WP 191 814 [(4, l0), q1, q2, q3] [(4, l0), (2, s0)] ds m Q) := P_nx k191_813 rfl
set_option maxRecDepth 20000 in
theorem k191_814 : mjCode 191 814 = some (.iload_n 3, 1, 0, 0) := by decide +kernel
theorem p191_814 {l3 s0 s1 : Int} {q0 q1 q2 : MV} {ds : Ds} {m : Mm} {Q : Ds → Mm → List MV → Prop} : WP 191 814 [q0, q1, q2, (0, l3)] [(4, s0), (2, s1)] ds m Q = (WP 191 815 [q0, q1, q2, (0, l3)] [(0, l3), (4, s0), (2, s1)] ds m Q) := P_nx k191_814 rfl
set_option maxRecDepth 20000 in
theorem k191_815 : mjCode 191 815 = some (.iconst 1, 1, 0, 0) := by decide +kernel
theorem p191_815 {s0 s1 s2 : Int} {q0 q1 q2 q3 : MV} {ds : Ds} {m : Mm} {Q : Ds → Mm → List MV → Prop} : WP 191 815 [q0, q1, q2, q3] [(0, s0), (4, s1), (2, s2)] ds m Q = (WP 191 816 [q0, q1, q2, q3] [(0, 1), (0, s0), (4, s1), (2, s2)] ds m Q) := P_nx k191_815 rfl
set_option maxRecDepth 20000 in
theorem k191_816 : mjCode 191 816 = some (.iadd, 1, 0, 0) := by decide +kernel
theorem p191_816 {s0 s1 s2 s3 : Int} {q0 q1 q2 q3 : MV} {ds : Ds} {m : Mm} {Q : Ds → Mm → List MV → Prop} : WP 191 816 [q0, q1, q2, q3] [(0, s0), (0, s1), (4, s2), (2, s3)] ds m Q = (WP 191 817 [q0, q1, q2, q3] [(0, w32 (s1 + s0)), (4, s2), (2, s3)] ds m Q) := P_nx k191_816 rfl
set_option maxRecDepth 20000 in
theorem k191_817 : mjCode 191 817 = some (.iaload, 1, 0, 0) := by decide +kernel
theorem p191_817 {s0 s1 s2 : Int} {q0 q1 q2 q3 : MV} {ds : Ds} {m : Mm} {Q : Ds → Mm → List MV → Prop} : WP 191 817 [q0, q1, q2, q3] [(0, s0), (4, s1), (2, s2)] ds m Q = ((0 ≤ s0 ∧ s0 < m (-3) 0 ∧ WP 191 818 [q0, q1, q2, q3] [(0, m (-2) s0), (2, s2)] ds m Q)) := P_sc k191_817 rfl
set_option maxRecDepth 20000 in
theorem k191_818 : mjCode 191 818 = some (.aload_n 0, 1, 0, 0) := by decide +kernel
theorem p191_818 {l0 s0 s1 : Int} {q1 q2 q3 : MV} {ds : Ds} {m : Mm} {Q : Ds → Mm → List MV → Prop} : WP 191 818 [(4, l0), q1, q2, q3] [(0, s0), (2, s1)] ds m Q = (WP 191 819 [(4, l0), q1, q2, q3] [(4, l0), (0, s0), (2, s1)] ds m Q) := P_nx k191_818 rfl
set_option maxRecDepth 20000 in
theorem k191_819 : mjCode 191 819 = some (.iload_n 3, 1, 0, 0) := by decide +kernel
theorem p191_819 {l3 s0 s1 s2 : Int} {q0 q1 q2 : MV} {ds : Ds} {m : Mm} {Q : Ds → Mm → List MV → Prop} : WP 191 819 [q0, q1, q2, (0, l3)] [(4, s0), (0, s1), (2, s2)] ds m Q = (WP 191 820 [q0, q1, q2, (0, l3)] [(0, l3), (4, s0), (0, s1), (2, s2)] ds m Q) := P_nx k191_819 rfl
set_option maxRecDepth 20000 in
theorem k191_820 : mjCode 191 820 = some (.iconst 2, 1, 0, 0) := by decide +kernel
theorem p191_820 {s0 s1 s2 s3 : Int} {q0 q1 q2 q3 : MV} {ds : Ds} {m : Mm} {Q : Ds → Mm → List MV → Prop} : WP 191 820 [q0, q1, q2, q3] [(0, s0), (4, s1), (0, s2), (2, s3)] ds m Q = (WP 191 821 [q0, q1, q2, q3] [(0, 2), (0, s0), (4, s1), (0, s2), (2, s3)] ds m Q) := P_nx k191_820 rfl
set_option maxRecDepth 20000 in
theorem k191_821 : mjCode 191 821 = some (.iadd, 1, 0, 0) := by decide +kernel
theorem p191_821 {s0 s1 s2 s3 s4 : Int} {q0 q1 q2 q3 : MV} {ds : Ds} {m : Mm} {Q : Ds → Mm → List MV → Prop} : WP 191 821 [q0, q1, q2, q3] [(0, s0), (0, s1), (4, s2), (0, s3), (2, s4)] ds m Q = (WP 191 822 [q0, q1, q2, q3] [(0, w32 (s1 + s0)), (4, s2), (0, s3), (2, s4)] ds m Q) := P_nx k191_821 rfl
set_option maxRecDepth 20000 in
theorem k191_822 : mjCode 191 822 = some (.iaload, 1, 0, 0) := by decide +kernel
theorem p191_822 {s0 s1 s2 s3 : Int} {q0 q1 q2 q3 : MV} {ds : Ds} {m : Mm} {Q : Ds → Mm → List MV → Prop} : WP 191 822 [q0, q1, q2, q3] [(0, s0), (4, s1), (0, s2), (2, s3)] ds m Q = ((0 ≤ s0 ∧ s0 < m (-3) 0 ∧ WP 191 823 [q0, q1, q2, q3] [(0, m (-2) s0), (0, s2), (2, s3)] ds m Q)) := P_sc k191_822 rfl
set_option maxRecDepth 20000 in
theorem k191_823 : mjCode 191 823 = some (.invokevirtual 99, 3, 87, 3) := by decide +kernel
theorem p191_823 {s0 s1 s2 : Int} {q0 q1 q2 q3 : MV} {ds : Ds} {m : Mm} {Q : Ds → Mm → List MV → Prop} : WP 191 823 [q0, q1, q2, q3] [(0, s0), (0, s1), (2, s2)] ds m Q = ((dk ds s2 = 6 ∧ WP 86 0 [(2, s2), (0, s1), (0, s0), (3, 0), (3, 0)] [] ds m (fun d2 m2 r2 => WP 191 826 [q0, q1, q2, q3] (r2 ++ []) d2 m2 Q))) := P_cv k191_823 mx86 mo86 rfl rfl rfl rfl rfl rfl rfl rfl
set_option maxRecDepth 20000 in
theorem k191_826 : mjCode 191 826 = some (.aload_n 2, 1, 0, 0) := by decide +kernel
theorem p191_826 {l2 s0 : Int} {q0 q1 q3 : MV} {ds : Ds} {m : Mm} {Q : Ds → Mm → List MV → Prop} : WP 191 826 [q0, q1, (2, l2), q3] [(0, s0)] ds m Q = (WP 191 827 [q0, q1, (2, l2), q3] [(2, l2), (0, s0)] ds m Q) := P_nx k191_826 rfl
set_option maxRecDepth 20000 in
theorem k191_827 : mjCode 191 827 = some (.aload_n 0, 1, 0, 0) := by decide +kernel
theorem p191_827 {l0 s0 s1 : Int} {q1 q2 q3 : MV} {ds : Ds} {m : Mm} {Q : Ds → Mm → List MV → Prop} : WP 191 827 [(4, l0), q1, q2, q3] [(2, s0), (0, s1)] ds m Q = (WP 191 828 [(4, l0), q1, q2, q3] [(4, l0), (2, s0), (0, s1)] ds m Q) := P_nx k191_827 rfl
set_option maxRecDepth 20000 in
theorem k191_828 : mjCode 191 828 = some (.iload_n 3, 1, 0, 0) := by decide +kernel
theorem p191_828 {l3 s0 s1 s2 : Int} {q0 q1 q2 : MV} {ds : Ds} {m : Mm} {Q : Ds → Mm → List MV → Prop} : WP 191 828 [q0, q1, q2, (0, l3)] [(4, s0), (2, s1), (0, s2)] ds m Q = (WP 191 829 [q0, q1, q2, (0, l3)] [(0, l3), (4, s0), (2, s1), (0, s2)] ds m Q) := P_nx k191_828 rfl
set_option maxRecDepth 20000 in
theorem k191_829 : mjCode 191 829 = some (.iconst 1, 1, 0, 0) := by decide +kernel
theorem p191_829 {s0 s1 s2 s3 : Int} {q0 q1 q2 q3 : MV} {ds : Ds} {m : Mm} {Q : Ds → Mm → List MV → Prop} : WP 191 829 [q0, q1, q2, q3] [(0, s0), (4, s1), (2, s2), (0, s3)] ds m Q = (WP 191 830 [q0, q1, q2, q3] [(0, 1), (0, s0), (4, s1), (2, s2), (0, s3)] ds m Q) := P_nx k191_829 rfl
set_option maxRecDepth 20000 in
theorem k191_830 : mjCode 191 830 = some (.iadd, 1, 0, 0) := by decide +kernel
theorem p191_830 {s0 s1 s2 s3 s4 : Int} {q0 q1 q2 q3 : MV} {ds : Ds} {m : Mm} {Q : Ds → Mm → List MV → Prop} : WP 191 830 [q0, q1, q2, q3] [(0, s0), (0, s1), (4, s2), (2, s3), (0, s4)] ds m Q = (WP 191 831 [q0, q1, q2, q3] [(0, w32 (s1 + s0)), (4, s2), (2, s3), (0, s4)] ds m Q) := P_nx k191_830 rfl
set_option maxRecDepth 20000 in
theorem k191_831 : mjCode 191 831 = some (.iaload, 1, 0, 0) := by decide +kernel
theorem p191_831 {s0 s1 s2 s3 : Int} {q0 q1 q2 q3 : MV} {ds : Ds} {m : Mm} {Q : Ds → Mm → List MV → Prop} : WP 191 831 [q0, q1, q2, q3] [(0, s0), (4, s1), (2, s2), (0, s3)] ds m Q = ((0 ≤ s0 ∧ s0 < m (-3) 0 ∧ WP 191 832 [q0, q1, q2, q3] [(0, m (-2) s0), (2, s2), (0, s3)] ds m Q)) := P_sc k191_831 rfl
set_option maxRecDepth 20000 in
theorem k191_832 : mjCode 191 832 = some (.aload_n 0, 1, 0, 0) := by decide +kernel
theorem p191_832 {l0 s0 s1 s2 : Int} {q1 q2 q3 : MV} {ds : Ds} {m : Mm} {Q : Ds → Mm → List MV → Prop} : WP 191 832 [(4, l0), q1, q2, q3] [(0, s0), (2, s1), (0, s2)] ds m Q = (WP 191 833 [(4, l0), q1, q2, q3] [(4, l0), (0, s0), (2, s1), (0, s2)] ds m Q) := P_nx k191_832 rfl
set_option maxRecDepth 20000 in
theorem k191_833 : mjCode 191 833 = some (.iload_n 3, 1, 0, 0) := by decide +kernel
theorem p191_833 {l3 s0 s1 s2 s3 : Int} {q0 q1 q2 : MV} {ds : Ds} {m : Mm} {Q : Ds → Mm → List MV → Prop} : WP 191 833 [q0, q1, q2, (0, l3)] [(4, s0), (0, s1), (2, s2), (0, s3)] ds m Q = (WP 191 834 [q0, q1, q2, (0, l3)] [(0, l3), (4, s0), (0, s1), (2, s2), (0, s3)] ds m Q) := P_nx k191_833 rfl
set_option maxRecDepth 20000 in
theorem k191_834 : mjCode 191 834 = some (.iconst 2, 1, 0, 0) := by decide +kernel
theorem p191_834 {s0 s1 s2 s3 s4 : Int} {q0 q1 q2 q3 : MV} {ds : Ds} {m : Mm} {Q : Ds → Mm → List MV → Prop} : WP 191 834 [q0, q1, q2, q3] [(0, s0), (4, s1), (0, s2), (2, s3), (0, s4)] ds m Q = (WP 191 835 [q0, q1, q2, q3] [(0, 2), (0, s0), (4, s1), (0, s2), (2, s3), (0, s4)] ds m Q) := P_nx k191_834 rfl
set_option maxRecDepth 20000 in
theorem k191_835 : mjCode 191 835 = some (.iadd, 1, 0, 0) := by decide +kernel
theorem p191_835 {s0 s1 s2 s3 s4 s5 : Int} {q0 q1 q2 q3 : MV} {ds : Ds} {m : Mm} {Q : Ds → Mm → List MV → Prop} : WP 191 835 [q0, q1, q2, q3] [(0, s0), (0, s1), (4, s2), (0, s3), (2, s4), (0, s5)] ds m Q = (WP 191 836 [q0, q1, q2, q3] [(0, w32 (s1 + s0)), (4, s2), (0, s3), (2, s4), (0, s5)] ds m Q) := P_nx k191_835 rfl
set_option maxRecDepth 20000 in
theorem k191_836 : mjCode 191 836 = some (.iaload, 1, 0, 0) := by decide +kernel
theorem p191_836 {s0 s1 s2 s3 s4 : Int} {q0 q1 q2 q3 : MV} {ds : Ds} {m : Mm} {Q : Ds → Mm → List MV → Prop} : WP 191 836 [q0, q1, q2, q3] [(0, s0), (4, s1), (0, s2), (2, s3), (0, s4)] ds m Q = ((0 ≤ s0 ∧ s0 < m (-3) 0 ∧ WP 191 837 [q0, q1, q2, q3] [(0, m (-2) s0), (0, s2), (2, s3), (0, s4)] ds m Q)) := P_sc k191_836 rfl
set_option maxRecDepth 20000 in
theorem k191_837 : mjCode 191 837 = some (.invokevirtual 102, 3, 172, 3) := by decide +kernel
theorem p191_837 {s0 s1 s2 s3 : Int} {q0 q1 q2 q3 : MV} {ds : Ds} {m : Mm} {Q : Ds → Mm → List MV → Prop} : WP 191 837 [q0, q1, q2, q3] [(0, s0), (0, s1), (2, s2), (0, s3)] ds m Q = ((dk ds s2 = 7 ∧ WP 171 0 [(2, s2), (0, s1), (0, s0), (3, 0), (3, 0), (3, 0)] [] ds m (fun d2 m2 r2 => WP 191 840 [q0, q1, q2, q3] (r2 ++ [(0, s3)]) d2 m2 Q))) := P_cv k191_837 mx171 mo171 rfl rfl rfl rfl rfl rfl rfl rfl
set_option maxRecDepth 20000 in
theorem k191_840 : mjCode 191 840 = some (.if_icmp .eq 262, 3, 1102, 0) := by decide +kernel
theorem p191_840 {s0 s1 : Int} {q0 q1 q2 q3 : MV} {ds : Ds} {m : Mm} {Q : Ds → Mm → List MV → Prop} : WP 191 840 [q0, q1, q2, q3] [(0, s0), (0, s1)] ds m Q = (if s1 = s0 then WP 191 1102 [q0, q1, q2, q3] [] ds m Q else WP 191 843 [q0, q1, q2, q3] [] ds m Q) := P_if k191_840 rfl
set_option maxRecDepth 20000 in
theorem k191_843 : mjCode 191 843 = some (.iconst 0, 1, 0, 0) := by decide +kernel
theorem p191_843 {q0 q1 q2 q3 : MV} {ds : Ds} {m : Mm} {Q : Ds → Mm → List MV → Prop} : WP 191 843 [q0, q1, q2, q3] [] ds m Q = (WP 191 844 [q0, q1, q2, q3] [(0, 0)] ds m Q) := P_nx k191_843 rfl
set_option maxRecDepth 20000 in
theorem k191_844 : mjCode 191 844 = some (.ireturn, 1, 0, 0) := by decide +kernel
theorem p191_844 {s0 : Int} {q0 q1 q2 q3 : MV} {ds : Ds} {m : Mm} {Q : Ds → Mm → List MV → Prop} : WP 191 844 [q0, q1, q2, q3] [(0, s0)] ds m Q = (((s0 = 0 ∨ s0 = 1) ∧ Q ds m [(0, s0)])) := P_rb k191_844 rk191
set_option maxRecDepth 20000 in
theorem k191_845 : mjCode 191 845 = some (.aload_n 1, 1, 0, 0) := by decide +kernel
theorem p191_845 {l1 : Int} {q0 q2 q3 : MV} {ds : Ds} {m : Mm} {Q : Ds → Mm → List MV → Prop} : WP 191 845 [q0, (2, l1), q2, q3] [] ds m Q = (WP 191 846 [q0, (2, l1), q2, q3] [(2, l1)] ds m Q) := P_nx k191_845 rfl
set_option maxRecDepth 20000 in
theorem k191_846 : mjCode 191 846 = some (.aload_n 0, 1, 0, 0) := by decide +kernel
theorem p191_846 {l0 s0 : Int} {q1 q2 q3 : MV} {ds : Ds} {m : Mm} {Q : Ds → Mm → List MV → Prop} : WP 191 846 [(4, l0), q1, q2, q3] [(2, s0)] ds m Q = (WP 191 847 [(4, l0), q1, q2, q3] [(4, l0), (2, s0)] ds m Q) := P_nx k191_846 rfl
set_option maxRecDepth 20000 in
theorem k191_847 : mjCode 191 847 = some (.iload_n 3, 1, 0, 0) := by decide +kernel
theorem p191_847 {l3 s0 s1 : Int} {q0 q1 q2 : MV} {ds : Ds} {m : Mm} {Q : Ds → Mm → List MV → Prop} : WP 191 847 [q0, q1, q2, (0, l3)] [(4, s0), (2, s1)] ds m Q = (WP 191 848 [q0, q1, q2, (0, l3)] [(0, l3), (4, s0), (2, s1)] ds m Q) := P_nx k191_847 rfl
set_option maxRecDepth 20000 in
theorem k191_848 : mjCode 191 848 = some (.iconst 1, 1, 0, 0) := by decide +kernel
theorem p191_848 {s0 s1 s2 : Int} {q0 q1 q2 q3 : MV} {ds : Ds} {m : Mm} {Q : Ds → Mm → List MV → Prop} : WP 191 848 [q0, q1, q2, q3] [(0, s0), (4, s1), (2, s2)] ds m Q = (WP 191 849 [q0, q1, q2, q3] [(0, 1), (0, s0), (4, s1), (2, s2)] ds m Q) := P_nx k191_848 rfl
set_option maxRecDepth 20000 in
theorem k191_849 : mjCode 191 849 = some (.iadd, 1, 0, 0) := by decide +kernel
theorem p191_849 {s0 s1 s2 s3 : Int} {q0 q1 q2 q3 : MV} {ds : Ds} {m : Mm} {Q : Ds → Mm → List MV → Prop} : WP 191 849 [q0, q1, q2, q3] [(0, s0), (0, s1), (4, s2), (2, s3)] ds m Q = (WP 191 850 [q0, q1, q2, q3] [(0, w32 (s1 + s0)), (4, s2), (2, s3)] ds m Q) := P_nx k191_849 rfl
set_option maxRecDepth 20000 in
theorem k191_850 : mjCode 191 850 = some (.iaload, 1, 0, 0) := by decide +kernel
theorem p191_850 {s0 s1 s2 : Int} {q0 q1 q2 q3 : MV} {ds : Ds} {m : Mm} {Q : Ds → Mm → List MV → Prop} : WP 191 850 [q0, q1, q2, q3] [(0, s0), (4, s1), (2, s2)] ds m Q = ((0 ≤ s0 ∧ s0 < m (-3) 0 ∧ WP 191 851 [q0, q1, q2, q3] [(0, m (-2) s0), (2, s2)] ds m Q)) := P_sc k191_850 rfl
set_option maxRecDepth 20000 in
theorem k191_851 : mjCode 191 851 = some (.aload_n 0, 1, 0, 0) := by decide +kernel
theorem p191_851 {l0 s0 s1 : Int} {q1 q2 q3 : MV} {ds : Ds} {m : Mm} {Q : Ds → Mm → List MV → Prop} : WP 191 851 [(4, l0), q1, q2, q3] [(0, s0), (2, s1)] ds m Q = (WP 191 852 [(4, l0), q1, q2, q3] [(4, l0), (0, s0), (2, s1)] ds m Q) := P_nx k191_851 rfl
set_option maxRecDepth 20000 in
theorem k191_852 : mjCode 191 852 = some (.iload_n 3, 1, 0, 0) := by decide +kernel
theorem p191_852 {l3 s0 s1 s2 : Int} {q0 q1 q2 : MV} {ds : Ds} {m : Mm} {Q : Ds → Mm → List MV → Prop} : WP 191 852 [q0, q1, q2, (0, l3)] [(4, s0), (0, s1), (2, s2)] ds m Q = (WP 191 853 [q0, q1, q2, (0, l3)] [(0, l3), (4, s0), (0, s1), (2, s2)] ds m Q) := P_nx k191_852 rfl
set_option maxRecDepth 20000 in
theorem k191_853 : mjCode 191 853 = some (.iconst 2, 1, 0, 0) := by decide +kernel
theorem p191_853 {s0 s1 s2 s3 : Int} {q0 q1 q2 q3 : MV} {ds : Ds} {m : Mm} {Q : Ds → Mm → List MV → Prop} : WP 191 853 [q0, q1, q2, q3] [(0, s0), (4, s1), (0, s2), (2, s3)] ds m Q = (WP 191 854 [q0, q1, q2, q3] [(0, 2), (0, s0), (4, s1), (0, s2), (2, s3)] ds m Q) := P_nx k191_853 rfl
set_option maxRecDepth 20000 in
theorem k191_854 : mjCode 191 854 = some (.iadd, 1, 0, 0) := by decide +kernel
theorem p191_854 {s0 s1 s2 s3 s4 : Int} {q0 q1 q2 q3 : MV} {ds : Ds} {m : Mm} {Q : Ds → Mm → List MV → Prop} : WP 191 854 [q0, q1, q2, q3] [(0, s0), (0, s1), (4, s2), (0, s3), (2, s4)] ds m Q = (WP 191 855 [q0, q1, q2, q3] [(0, w32 (s1 + s0)), (4, s2), (0, s3), (2, s4)] ds m Q) := P_nx k191_854 rfl
set_option maxRecDepth 20000 in
theorem k191_855 : mjCode 191 855 = some (.iaload, 1, 0, 0) := by decide +kernel
theorem p191_855 {s0 s1 s2 s3 : Int} {q0 q1 q2 q3 : MV} {ds : Ds} {m : Mm} {Q : Ds → Mm → List MV → Prop} : WP 191 855 [q0, q1, q2, q3] [(0, s0), (4, s1), (0, s2), (2, s3)] ds m Q = ((0 ≤ s0 ∧ s0 < m (-3) 0 ∧ WP 191 856 [q0, q1, q2, q3] [(0, m (-2) s0), (0, s2), (2, s3)] ds m Q)) := P_sc k191_855 rfl
set_option maxRecDepth 20000 in
theorem k191_856 : mjCode 191 856 = some (.invokevirtual 103, 3, 89, 3) := by decide +kernel
theorem p191_856 {s0 s1 s2 : Int} {q0 q1 q2 q3 : MV} {ds : Ds} {m : Mm} {Q : Ds → Mm → List MV → Prop} : WP 191 856 [q0, q1, q2, q3] [(0, s0), (0, s1), (2, s2)] ds m Q = ((dk ds s2 = 6 ∧ WP 88 0 [(2, s2), (0, s1), (0, s0)] [] ds m (fun d2 m2 r2 => WP 191 859 [q0, q1, q2, q3] (r2 ++ []) d2 m2 Q))) := P_cv k191_856 mx88 mo88 rfl rfl rfl rfl rfl rfl rfl rfl
set_option maxRecDepth 20000 in
theorem k191_859 : mjCode 191 859 = some (.aload_n 2, 1, 0, 0) := by decide +kernel
theorem p191_859 {l2 s0 : Int} {q0 q1 q3 : MV} {ds : Ds} {m : Mm} {Q : Ds → Mm → List MV → Prop} : WP 191 859 [q0, q1, (2, l2), q3] [(0, s0)] ds m Q = (WP 191 860 [q0, q1, (2, l2), q3] [(2, l2), (0, s0)] ds m Q) := P_nx k191_859 rfl
set_option maxRecDepth 20000 in
theorem k191_860 : mjCode 191 860 = some (.aload_n 0, 1, 0, 0) := by decide +kernel
theorem p191_860 {l0 s0 s1 : Int} {q1 q2 q3 : MV} {ds : Ds} {m : Mm} {Q : Ds → Mm → List MV → Prop} : WP 191 860 [(4, l0), q1, q2, q3] [(2, s0), (0, s1)] ds m Q = (WP 191 861 [(4, l0), q1, q2, q3] [(4, l0), (2, s0), (0, s1)] ds m Q) := P_nx k191_860 rfl
set_option maxRecDepth 20000 in
theorem k191_861 : mjCode 191 861 = some (.iload_n 3, 1, 0, 0) := by decide +kernel
theorem p191_861 {l3 s0 s1 s2 : Int} {q0 q1 q2 : MV} {ds : Ds} {m : Mm} {Q : Ds → Mm → List MV → Prop} : WP 191 861 [q0, q1, q2, (0, l3)] [(4, s0), (2, s1), (0, s2)] ds m Q = (WP 191 862 [q0, q1, q2, (0, l3)] [(0, l3), (4, s0), (2, s1), (0, s2)] ds m Q) := P_nx k191_861 rfl
set_option maxRecDepth 20000 in
theorem k191_862 : mjCode 191 862 = some (.iconst 1, 1, 0, 0) := by decide +kernel
theorem p191_862 {s0 s1 s2 s3 : Int} {q0 q1 q2 q3 : MV} {ds : Ds} {m : Mm} {Q : Ds → Mm → List MV → Prop} : WP 191 862 [q0, q1, q2, q3] [(0, s0), (4, s1), (2, s2), (0, s3)] ds m Q = (WP 191 863 [q0, q1, q2, q3] [(0, 1), (0, s0), (4, s1), (2, s2), (0, s3)] ds m Q) := P_nx k191_862 rfl
set_option maxRecDepth 20000 in
theorem k191_863 : mjCode 191 863 = some (.iadd, 1, 0, 0) := by decide +kernel
theorem p191_863 {s0 s1 s2 s3 s4 : Int} {q0 q1 q2 q3 : MV} {ds : Ds} {m : Mm} {Q : Ds → Mm → List MV → Prop} : WP 191 863 [q0, q1, q2, q3] [(0, s0), (0, s1), (4, s2), (2, s3), (0, s4)] ds m Q = (WP 191 864 [q0, q1, q2, q3] [(0, w32 (s1 + s0)), (4, s2), (2, s3), (0, s4)] ds m Q) := P_nx k191_863 rfl
set_option maxRecDepth 20000 in
theorem k191_864 : mjCode 191 864 = some (.iaload, 1, 0, 0) := by decide +kernel
theorem p191_864 {s0 s1 s2 s3 : Int} {q0 q1 q2 q3 : MV} {ds : Ds} {m : Mm} {Q : Ds → Mm → List MV → Prop} : WP 191 864 [q0, q1, q2, q3] [(0, s0), (4, s1), (2, s2), (0, s3)] ds m Q = ((0 ≤ s0 ∧ s0 < m (-3) 0 ∧ WP 191 865 [q0, q1, q2, q3] [(0, m (-2) s0), (2, s2), (0, s3)] ds m Q)) := P_sc k191_864 rfl
set_option maxRecDepth 20000 in
theorem k191_865 : mjCode 191 865 = some (.aload_n 0, 1, 0, 0) := by decide +kernel
theorem p191_865 {l0 s0 s1 s2 : Int} {q1 q2 q3 : MV} {ds : Ds} {m : Mm} {Q : Ds → Mm → List MV → Prop} : WP 191 865 [(4, l0), q1, q2, q3] [(0, s0), (2, s1), (0, s2)] ds m Q = (WP 191 866 [(4, l0), q1, q2, q3] [(4, l0), (0, s0), (2, s1), (0, s2)] ds m Q) := P_nx k191_865 rfl
set_option maxRecDepth 20000 in
theorem k191_866 : mjCode 191 866 = some (.iload_n 3, 1, 0, 0) := by decide +kernel
theorem p191_866 {l3 s0 s1 s2 s3 : Int} {q0 q1 q2 : MV} {ds : Ds} {m : Mm} {Q : Ds → Mm → List MV → Prop} : WP 191 866 [q0, q1, q2, (0, l3)] [(4, s0), (0, s1), (2, s2), (0, s3)] ds m Q = (WP 191 867 [q0, q1, q2, (0, l3)] [(0, l3), (4, s0), (0, s1), (2, s2), (0, s3)] ds m Q) := P_nx k191_866 rfl
set_option maxRecDepth 20000 in
theorem k191_867 : mjCode 191 867 = some (.iconst 2, 1, 0, 0) := by decide +kernel
theorem p191_867 {s0 s1 s2 s3 s4 : Int} {q0 q1 q2 q3 : MV} {ds : Ds} {m : Mm} {Q : Ds → Mm → List MV → Prop} : WP 191 867 [q0, q1, q2, q3] [(0, s0), (4, s1), (0, s2), (2, s3), (0, s4)] ds m Q = (WP 191 868 [q0, q1, q2, q3] [(0, 2), (0, s0), (4, s1), (0, s2), (2, s3), (0, s4)] ds m Q) := P_nx k191_867 rfl
set_option maxRecDepth 20000 in
theorem k191_868 : mjCode 191 868 = some (.iadd, 1, 0, 0) := by decide +kernel
theorem p191_868 {s0 s1 s2 s3 s4 s5 : Int} {q0 q1 q2 q3 : MV} {ds : Ds} {m : Mm} {Q : Ds → Mm → List MV → Prop} : WP 191 868 [q0, q1, q2, q3] [(0, s0), (0, s1), (4, s2), (0, s3), (2, s4), (0, s5)] ds m Q = (WP 191 869 [q0, q1, q2, q3] [(0, w32 (s1 + s0)), (4, s2), (0, s3), (2, s4), (0, s5)] ds m Q) := P_nx k191_868 rfl
set_option maxRecDepth 20000 in
theorem k191_869 : mjCode 191 869 = some (.iaload, 1, 0, 0) := by decide +kernel
theorem p191_869 {s0 s1 s2 s3 s4 : Int} {q0 q1 q2 q3 : MV} {ds : Ds} {m : Mm} {Q : Ds → Mm → List MV → Prop} : WP 191 869 [q0, q1, q2, q3] [(0, s0), (4, s1), (0, s2), (2, s3), (0, s4)] ds m Q = ((0 ≤ s0 ∧ s0 < m (-3) 0 ∧ WP 191 870 [q0, q1, q2, q3] [(0, m (-2) s0), (0, s2), (2, s3), (0, s4)] ds m Q)) := P_sc k191_869 rfl
set_option maxRecDepth 20000 in
theorem k191_870 : mjCode 191 870 = some (.invokevirtual 107, 3, 175, 3) := by decide +kernel
theorem p191_870 {s0 s1 s2 s3 : Int} {q0 q1 q2 q3 : MV} {ds : Ds} {m : Mm} {Q : Ds → Mm → List MV → Prop} : WP 191 870 [q0, q1, q2, q3] [(0, s0), (0, s1), (2, s2), (0, s3)] ds m Q = ((dk ds s2 = 7 ∧ WP 174 0 [(2, s2), (0, s1), (0, s0)] [] ds m (fun d2 m2 r2 => WP 191 873 [q0, q1, q2, q3] (r2 ++ [(0, s3)]) d2 m2 Q))) := P_cv k191_870 mx174 mo174 rfl rfl rfl rfl rfl rfl rfl rfl
set_option maxRecDepth 20000 in
theorem k191_873 : mjCode 191 873 = some (.if_icmp .eq 229, 3, 1102, 0) := by decide +kernel
theorem p191_873 {s0 s1 : Int} {q0 q1 q2 q3 : MV} {ds : Ds} {m : Mm} {Q : Ds → Mm → List MV → Prop} : WP 191 873 [q0, q1, q2, q3] [(0, s0), (0, s1)] ds m Q = (if s1 = s0 then WP 191 1102 [q0, q1, q2, q3] [] ds m Q else WP 191 876 [q0, q1, q2, q3] [] ds m Q) := P_if k191_873 rfl
set_option maxRecDepth 20000 in
theorem k191_876 : mjCode 191 876 = some (.iconst 0, 1, 0, 0) := by decide +kernel
theorem p191_876 {q0 q1 q2 q3 : MV} {ds : Ds} {m : Mm} {Q : Ds → Mm → List MV → Prop} : WP 191 876 [q0, q1, q2, q3] [] ds m Q = (WP 191 877 [q0, q1, q2, q3] [(0, 0)] ds m Q) := P_nx k191_876 rfl
set_option maxRecDepth 20000 in
theorem k191_877 : mjCode 191 877 = some (.ireturn, 1, 0, 0) := by decide +kernel
theorem p191_877 {s0 : Int} {q0 q1 q2 q3 : MV} {ds : Ds} {m : Mm} {Q : Ds → Mm → List MV → Prop} : WP 191 877 [q0, q1, q2, q3] [(0, s0)] ds m Q = (((s0 = 0 ∨ s0 = 1) ∧ Q ds m [(0, s0)])) := P_rb k191_877 rk191
set_option maxRecDepth 20000 in
theorem k191_878 : mjCode 191 878 = some (.aload_n 1, 1, 0, 0) := by decide +kernel
theorem p191_878 {l1 : Int} {q0 q2 q3 : MV} {ds : Ds} {m : Mm} {Q : Ds → Mm → List MV → Prop} : WP 191 878 [q0, (2, l1), q2, q3] [] ds m Q = (WP 191 879 [q0, (2, l1), q2, q3] [(2, l1)] ds m Q) := P_nx k191_878 rfl
set_option maxRecDepth 20000 in
theorem k191_879 : mjCode 191 879 = some (.aload_n 0, 1, 0, 0) := by decide +kernel
theorem p191_879 {l0 s0 : Int} {q1 q2 q3 : MV} {ds : Ds} {m : Mm} {Q : Ds → Mm → List MV → Prop} : WP 191 879 [(4, l0), q1, q2, q3] [(2, s0)] ds m Q = (WP 191 880 [(4, l0), q1, q2, q3] [(4, l0), (2, s0)] ds m Q) := P_nx k191_879 rfl
set_option maxRecDepth 20000 in
theorem k191_880 : mjCode 191 880 = some (.iload_n 3, 1, 0, 0) := by decide +kernel
theorem p191_880 {l3 s0 s1 : Int} {q0 q1 q2 : MV} {ds : Ds} {m : Mm} {Q : Ds → Mm → List MV → Prop} : WP 191 880 [q0, q1, q2, (0, l3)] [(4, s0), (2, s1)] ds m Q = (WP 191 881 [q0, q1, q2, (0, l3)] [(0, l3), (4, s0), (2, s1)] ds m Q) := P_nx k191_880 rfl
set_option maxRecDepth 20000 in
theorem k191_881 : mjCode 191 881 = some (.iconst 1, 1, 0, 0) := by decide +kernel
theorem p191_881 {s0 s1 s2 : Int} {q0 q1 q2 q3 : MV} {ds : Ds} {m : Mm} {Q : Ds → Mm → List MV → Prop} : WP 191 881 [q0, q1, q2, q3] [(0, s0), (4, s1), (2, s2)] ds m Q = (WP 191 882 [q0, q1, q2, q3] [(0, 1), (0, s0), (4, s1), (2, s2)] ds m Q) := P_nx k191_881 rfl
set_option maxRecDepth 20000 in
theorem k191_882 : mjCode 191 882 = some (.iadd, 1, 0, 0) := by decide +kernel
theorem p191_882 {s0 s1 s2 s3 : Int} {q0 q1 q2 q3 : MV} {ds : Ds} {m : Mm} {Q : Ds → Mm → List MV → Prop} : WP 191 882 [q0, q1, q2, q3] [(0, s0), (0, s1), (4, s2), (2, s3)] ds m Q = (WP 191 883 [q0, q1, q2, q3] [(0, w32 (s1 + s0)), (4, s2), (2, s3)] ds m Q) := P_nx k191_882 rfl
set_option maxRecDepth 20000 in
theorem k191_883 : mjCode 191 883 = some (.iaload, 1, 0, 0) := by decide +kernel
theorem p191_883 {s0 s1 s2 : Int} {q0 q1 q2 q3 : MV} {ds : Ds} {m : Mm} {Q : Ds → Mm → List MV → Prop} : WP 191 883 [q0, q1, q2, q3] [(0, s0), (4, s1), (2, s2)] ds m Q = ((0 ≤ s0 ∧ s0 < m (-3) 0 ∧ WP 191 884 [q0, q1, q2, q3] [(0, m (-2) s0), (2, s2)] ds m Q)) := P_sc k191_883 rfl
set_option maxRecDepth 20000 in
theorem k191_884 : mjCode 191 884 = some (.aload_n 0, 1, 0, 0) := by decide +kernel
theorem p191_884 {l0 s0 s1 : Int} {q1 q2 q3 : MV} {ds : Ds} {m : Mm} {Q : Ds → Mm → List MV → Prop} : WP 191 884 [(4, l0), q1, q2, q3] [(0, s0), (2, s1)] ds m Q = (WP 191 885 [(4, l0), q1, q2, q3] [(4, l0), (0, s0), (2, s1)] ds m Q) := P_nx k191_884 rfl
set_option maxRecDepth 20000 in
theorem k191_885 : mjCode 191 885 = some (.iload_n 3, 1, 0, 0) := by decide +kernel
theorem p191_885 {l3 s0 s1 s2 : Int} {q0 q1 q2 : MV} {ds : Ds} {m : Mm} {Q : Ds → Mm → List MV → Prop} : WP 191 885 [q0, q1, q2, (0, l3)] [(4, s0), (0, s1), (2, s2)] ds m Q = (WP 191 886 [q0, q1, q2, (0, l3)] [(0, l3), (4, s0), (0, s1), (2, s2)] ds m Q) := P_nx k191_885 rfl
set_option maxRecDepth 20000 in
theorem k191_886 : mjCode 191 886 = some (.iconst 2, 1, 0, 0) := by decide +kernel
theorem p191_886 {s0 s1 s2 s3 : Int} {q0 q1 q2 q3 : MV} {ds : Ds} {m : Mm} {Q : Ds → Mm → List MV → Prop} : WP 191 886 [q0, q1, q2, q3] [(0, s0), (4, s1), (0, s2), (2, s3)] ds m Q = (WP 191 887 [q0, q1, q2, q3] [(0, 2), (0, s0), (4, s1), (0, s2), (2, s3)] ds m Q) := P_nx k191_886 rfl
set_option maxRecDepth 20000 in
theorem k191_887 : mjCode 191 887 = some (.iadd, 1, 0, 0) := by decide +kernel
theorem p191_887 {s0 s1 s2 s3 s4 : Int} {q0 q1 q2 q3 : MV} {ds : Ds} {m : Mm} {Q : Ds → Mm → List MV → Prop} : WP 191 887 [q0, q1, q2, q3] [(0, s0), (0, s1), (4, s2), (0, s3), (2, s4)] ds m Q = (WP 191 888 [q0, q1, q2, q3] [(0, w32 (s1 + s0)), (4, s2), (0, s3), (2, s4)] ds m Q) := P_nx k191_887 rfl
set_option maxRecDepth 20000 in
theorem k191_888 : mjCode 191 888 = some (.iaload, 1, 0, 0) := by decide +kernel
theorem p191_888 {s0 s1 s2 s3 : Int} {q0 q1 q2 q3 : MV} {ds : Ds} {m : Mm} {Q : Ds → Mm → List MV → Prop} : WP 191 888 [q0, q1, q2, q3] [(0, s0), (4, s1), (0, s2), (2, s3)] ds m Q = ((0 ≤ s0 ∧ s0 < m (-3) 0 ∧ WP 191 889 [q0, q1, q2, q3] [(0, m (-2) s0), (0, s2), (2, s3)] ds m Q)) := P_sc k191_888 rfl
set_option maxRecDepth 20000 in
theorem k191_889 : mjCode 191 889 = some (.invokevirtual 108, 3, 90, 3) := by decide +kernel
theorem p191_889 {s0 s1 s2 : Int} {q0 q1 q2 q3 : MV} {ds : Ds} {m : Mm} {Q : Ds → Mm → List MV → Prop} : WP 191 889 [q0, q1, q2, q3] [(0, s0), (0, s1), (2, s2)] ds m Q = ((dk ds s2 = 6 ∧ WP 89 0 [(2, s2), (0, s1), (0, s0), (3, 0), (3, 0), (3, 0)] [] ds m (fun d2 m2 r2 => WP 191 892 [q0, q1, q2, q3] (r2 ++ []) d2 m2 Q))) := P_cv k191_889 mx89 mo89 rfl rfl rfl rfl rfl rfl rfl rfl
set_option maxRecDepth 20000 in
theorem k191_892 : mjCode 191 892 = some (.aload_n 2, 1, 0, 0) := by decide +kernel
theorem p191_892 {l2 s0 : Int} {q0 q1 q3 : MV} {ds : Ds} {m : Mm} {Q : Ds → Mm → List MV → Prop} : WP 191 892 [q0, q1, (2, l2), q3] [(0, s0)] ds m Q = (WP 191 893 [q0, q1, (2, l2), q3] [(2, l2), (0, s0)] ds m Q) := P_nx k191_892 rfl
set_option maxRecDepth 20000 in
theorem k191_893 : mjCode 191 893 = some (.aload_n 0, 1, 0, 0) := by decide +kernel
theorem p191_893 {l0 s0 s1 : Int} {q1 q2 q3 : MV} {ds : Ds} {m : Mm} {Q : Ds → Mm → List MV → Prop} : WP 191 893 [(4, l0), q1, q2, q3] [(2, s0), (0, s1)] ds m Q = (WP 191 894 [(4, l0), q1, q2, q3] [(4, l0), (2, s0), (0, s1)] ds m Q) := P_nx k191_893 rfl
set_option maxRecDepth 20000 in
theorem k191_894 : mjCode 191 894 = some (.iload_n 3, 1, 0, 0) := by decide +kernel
theorem p191_894 {l3 s0 s1 s2 : Int} {q0 q1 q2 : MV} {ds : Ds} {m : Mm} {Q : Ds → Mm → List MV → Prop} : WP 191 894 [q0, q1, q2, (0, l3)] [(4, s0), (2, s1), (0, s2)] ds m Q = (WP 191 895 [q0, q1, q2, (0, l3)] [(0, l3), (4, s0), (2, s1), (0, s2)] ds m Q) := P_nx k191_894 rfl
set_option maxRecDepth 20000 in
theorem k191_895 : mjCode 191 895 = some (.iconst 1, 1, 0, 0) := by decide +kernel
theorem p191_895 {s0 s1 s2 s3 : Int} {q0 q1 q2 q3 : MV} {ds : Ds} {m : Mm} {Q : Ds → Mm → List MV → Prop} : WP 191 895 [q0, q1, q2, q3] [(0, s0), (4, s1), (2, s2), (0, s3)] ds m Q = (WP 191 896 [q0, q1, q2, q3] [(0, 1), (0, s0), (4, s1), (2, s2), (0, s3)] ds m Q) := P_nx k191_895 rfl
set_option maxRecDepth 20000 in
theorem k191_896 : mjCode 191 896 = some (.iadd, 1, 0, 0) := by decide +kernel
theorem p191_896 {s0 s1 s2 s3 s4 : Int} {q0 q1 q2 q3 : MV} {ds : Ds} {m : Mm} {Q : Ds → Mm → List MV → Prop} : WP 191 896 [q0, q1, q2, q3] [(0, s0), (0, s1), (4, s2), (2, s3), (0, s4)] ds m Q = (WP 191 897 [q0, q1, q2, q3] [(0, w32 (s1 + s0)), (4, s2), (2, s3), (0, s4)] ds m Q) := P_nx k191_896 rfl
set_option maxRecDepth 20000 in
theorem k191_897 : mjCode 191 897 = some (.iaload, 1, 0, 0) := by decide +kernel
theorem p191_897 {s0 s1 s2 s3 : Int} {q0 q1 q2 q3 : MV} {ds : Ds} {m : Mm} {Q : Ds → Mm → List MV → Prop} : WP 191 897 [q0, q1, q2, q3] [(0, s0), (4, s1), (2, s2), (0, s3)] ds m Q = ((0 ≤ s0 ∧ s0 < m (-3) 0 ∧ WP 191 898 [q0, q1, q2, q3] [(0, m (-2) s0), (2, s2), (0, s3)] ds m Q)) := P_sc k191_897 rfl
set_option maxRecDepth 20000 in
theorem k191_898 : mjCode 191 898 = some (.aload_n 0, 1, 0, 0) := by decide +kernel
theorem p191_898 {l0 s0 s1 s2 : Int} {q1 q2 q3 : MV} {ds : Ds} {m : Mm} {Q : Ds → Mm → List MV → Prop} : WP 191 898 [(4, l0), q1, q2, q3] [(0, s0), (2, s1), (0, s2)] ds m Q = (WP 191 899 [(4, l0), q1, q2, q3] [(4, l0), (0, s0), (2, s1), (0, s2)] ds m Q) := P_nx k191_898 rfl
set_option maxRecDepth 20000 in
theorem k191_899 : mjCode 191 899 = some (.iload_n 3, 1, 0, 0) := by decide +kernel
theorem p191_899 {l3 s0 s1 s2 s3 : Int} {q0 q1 q2 : MV} {ds : Ds} {m : Mm} {Q : Ds → Mm → List MV → Prop} : WP 191 899 [q0, q1, q2, (0, l3)] [(4, s0), (0, s1), (2, s2), (0, s3)] ds m Q = (WP 191 900 [q0, q1, q2, (0, l3)] [(0, l3), (4, s0), (0, s1), (2, s2), (0, s3)] ds m Q) := P_nx k191_899 rfl
set_option maxRecDepth 20000 in
theorem k191_900 : mjCode 191 900 = some (.iconst 2, 1, 0, 0) := by decide +kernel
theorem p191_900 {s0 s1 s2 s3 s4 : Int} {q0 q1 q2 q3 : MV} {ds : Ds} {m : Mm} {Q : Ds → Mm → List MV → Prop} : WP 191 900 [q0, q1, q2, q3] [(0, s0), (4, s1), (0, s2), (2, s3), (0, s4)] ds m Q = (WP 191 901 [q0, q1, q2, q3] [(0, 2), (0, s0), (4, s1), (0, s2), (2, s3), (0, s4)] ds m Q) := P_nx k191_900 rfl
set_option maxRecDepth 20000 in
theorem k191_901 : mjCode 191 901 = some (.iadd, 1, 0, 0) := by decide +kernel
theorem p191_901 {s0 s1 s2 s3 s4 s5 : Int} {q0 q1 q2 q3 : MV} {ds : Ds} {m : Mm} {Q : Ds → Mm → List MV → Prop} : WP 191 901 [q0, q1, q2, q3] [(0, s0), (0, s1), (4, s2), (0, s3), (2, s4), (0, s5)] ds m Q = (WP 191 902 [q0, q1, q2, q3] [(0, w32 (s1 + s0)), (4, s2), (0, s3), (2, s4), (0, s5)] ds m Q) := P_nx k191_901 rfl
set_option maxRecDepth 20000 in
theorem k191_902 : mjCode 191 902 = some (.iaload, 1, 0, 0) := by decide +kernel
theorem p191_902 {s0 s1 s2 s3 s4 : Int} {q0 q1 q2 q3 : MV} {ds : Ds} {m : Mm} {Q : Ds → Mm → List MV → Prop} : WP 191 902 [q0, q1, q2, q3] [(0, s0), (4, s1), (0, s2), (2, s3), (0, s4)] ds m Q = ((0 ≤ s0 ∧ s0 < m (-3) 0 ∧ WP 191 903 [q0, q1, q2, q3] [(0, m (-2) s0), (0, s2), (2, s3), (0, s4)] ds m Q)) := P_sc k191_902 rfl
set_option maxRecDepth 20000 in
theorem k191_903 : mjCode 191 903 = some (.invokevirtual 111, 3, 178, 3) := by decide +kernel
theorem p191_903 {s0 s1 s2 s3 : Int} {q0 q1 q2 q3 : MV} {ds : Ds} {m : Mm} {Q : Ds → Mm → List MV → Prop} : WP 191 903 [q0, q1, q2, q3] [(0, s0), (0, s1), (2, s2), (0, s3)] ds m Q = ((dk ds s2 = 7 ∧ WP 177 0 [(2, s2), (0, s1), (0, s0), (3, 0), (3, 0)] [] ds m (fun d2 m2 r2 => WP 191 906 [q0, q1, q2, q3] (r2 ++ [(0, s3)]) d2 m2 Q))) := P_cv k191_903 mx177 mo177 rfl rfl rfl rfl rfl rfl rfl rfl
set_option maxRecDepth 20000 in
theorem k191_906 : mjCode 191 906 = some (.if_icmp .eq 196, 3, 1102, 0) := by decide +kernel
theorem p191_906 {s0 s1 : Int} {q0 q1 q2 q3 : MV} {ds : Ds} {m : Mm} {Q : Ds → Mm → List MV → Prop} : WP 191 906 [q0, q1, q2, q3] [(0, s0), (0, s1)] ds m Q = (if s1 = s0 then WP 191 1102 [q0, q1, q2, q3] [] ds m Q else WP 191 909 [q0, q1, q2, q3] [] ds m Q) := P_if k191_906 rfl
set_option maxRecDepth 20000 in
theorem k191_909 : mjCode 191 909 = some (.iconst 0, 1, 0, 0) := by decide +kernel
theorem p191_909 {q0 q1 q2 q3 : MV} {ds : Ds} {m : Mm} {Q : Ds → Mm → List MV → Prop} : WP 191 909 [q0, q1, q2, q3] [] ds m Q = (WP 191 910 [q0, q1, q2, q3] [(0, 0)] ds m Q) := P_nx k191_909 rfl
set_option maxRecDepth 20000 in
theorem k191_910 : mjCode 191 910 = some (.ireturn, 1, 0, 0) := by decide +kernel
theorem p191_910 {s0 : Int} {q0 q1 q2 q3 : MV} {ds : Ds} {m : Mm} {Q : Ds → Mm → List MV → Prop} : WP 191 910 [q0, q1, q2, q3] [(0, s0)] ds m Q = (((s0 = 0 ∨ s0 = 1) ∧ Q ds m [(0, s0)])) := P_rb k191_910 rk191
set_option maxRecDepth 20000 in
theorem k191_911 : mjCode 191 911 = some (.aload_n 1, 1, 0, 0) := by decide +kernel
theorem p191_911 {l1 : Int} {q0 q2 q3 : MV} {ds : Ds} {m : Mm} {Q : Ds → Mm → List MV → Prop} : WP 191 911 [q0, (2, l1), q2, q3] [] ds m Q = (WP 191 912 [q0, (2, l1), q2, q3] [(2, l1)] ds m Q) := P_nx k191_911 rfl
set_option maxRecDepth 20000 in
theorem k191_912 : mjCode 191 912 = some (.aload_n 0, 1, 0, 0) := by decide +kernel
theorem p191_912 {l0 s0 : Int} {q1 q2 q3 : MV} {ds : Ds} {m : Mm} {Q : Ds → Mm → List MV → Prop} : WP 191 912 [(4, l0), q1, q2, q3] [(2, s0)] ds m Q = (WP 191 913 [(4, l0), q1, q2, q3] [(4, l0), (2, s0)] ds m Q) := P_nx k191_912 rfl
set_option maxRecDepth 20000 in
theorem k191_913 : mjCode 191 913 = some (.iload_n 3, 1, 0, 0) := by decide +kernel
theorem p191_913 {l3 s0 s1 : Int} {q0 q1 q2 : MV} {ds : Ds} {m : Mm} {Q : Ds → Mm → List MV → Prop} : WP 191 913 [q0, q1, q2, (0, l3)] [(4, s0), (2, s1)] ds m Q = (WP 191 914 [q0, q1, q2, (0, l3)] [(0, l3), (4, s0), (2, s1)] ds m Q) := P_nx k191_913 rfl
set_option maxRecDepth 20000 in
theorem k191_914 : mjCode 191 914 = some (.iconst 1, 1, 0, 0) := by decide +kernel
theorem p191_914 {s0 s1 s2 : Int} {q0 q1 q2 q3 : MV} {ds : Ds} {m : Mm} {Q : Ds → Mm → List MV → Prop} : WP 191 914 [q0, q1, q2, q3] [(0, s0), (4, s1), (2, s2)] ds m Q = (WP 191 915 [q0, q1, q2, q3] [(0, 1), (0, s0), (4, s1), (2, s2)] ds m Q) := P_nx k191_914 rfl
set_option maxRecDepth 20000 in
theorem k191_915 : mjCode 191 915 = some (.iadd, 1, 0, 0) := by decide +kernel
theorem p191_915 {s0 s1 s2 s3 : Int} {q0 q1 q2 q3 : MV} {ds : Ds} {m : Mm} {Q : Ds → Mm → List MV → Prop} : WP 191 915 [q0, q1, q2, q3] [(0, s0), (0, s1), (4, s2), (2, s3)] ds m Q = (WP 191 916 [q0, q1, q2, q3] [(0, w32 (s1 + s0)), (4, s2), (2, s3)] ds m Q) := P_nx k191_915 rfl
set_option maxRecDepth 20000 in
theorem k191_916 : mjCode 191 916 = some (.iaload, 1, 0, 0) := by decide +kernel
theorem p191_916 {s0 s1 s2 : Int} {q0 q1 q2 q3 : MV} {ds : Ds} {m : Mm} {Q : Ds → Mm → List MV → Prop} : WP 191 916 [q0, q1, q2, q3] [(0, s0), (4, s1), (2, s2)] ds m Q = ((0 ≤ s0 ∧ s0 < m (-3) 0 ∧ WP 191 917 [q0, q1, q2, q3] [(0, m (-2) s0), (2, s2)] ds m Q)) := P_sc k191_916 rfl
set_option maxRecDepth 20000 in
theorem k191_917 : mjCode 191 917 = some (.invokevirtual 112, 3, 91, 2) := by decide +kernel
theorem p191_917 {s0 s1 : Int} {q0 q1 q2 q3 : MV} {ds : Ds} {m : Mm} {Q : Ds → Mm → List MV → Prop} : WP 191 917 [q0, q1, q2, q3] [(0, s0), (2, s1)] ds m Q = ((dk ds s1 = 6 ∧ WP 90 0 [(2, s1), (0, s0)] [] ds m (fun d2 m2 r2 => WP 191 920 [q0, q1, q2, q3] (r2 ++ []) d2 m2 Q))) := P_cv k191_917 mx90 mo90 rfl rfl rfl rfl rfl rfl rfl rfl
set_option maxRecDepth 20000 in
theorem k191_920 : mjCode 191 920 = some (.aload_n 2, 1, 0, 0) := by decide +kernel
theorem p191_920 {l2 s0 : Int} {q0 q1 q3 : MV} {ds : Ds} {m : Mm} {Q : Ds → Mm → List MV → Prop} : WP 191 920 [q0, q1, (2, l2), q3] [(0, s0)] ds m Q = (WP 191 921 [q0, q1, (2, l2), q3] [(2, l2), (0, s0)] ds m Q) := P_nx k191_920 rfl
set_option maxRecDepth 20000 in
theorem k191_921 : mjCode 191 921 = some (.aload_n 0, 1, 0, 0) := by decide +kernel
theorem p191_921 {l0 s0 s1 : Int} {q1 q2 q3 : MV} {ds : Ds} {m : Mm} {Q : Ds → Mm → List MV → Prop} : WP 191 921 [(4, l0), q1, q2, q3] [(2, s0), (0, s1)] ds m Q = (WP 191 922 [(4, l0), q1, q2, q3] [(4, l0), (2, s0), (0, s1)] ds m Q) := P_nx k191_921 rfl
set_option maxRecDepth 20000 in
theorem k191_922 : mjCode 191 922 = some (.iload_n 3, 1, 0, 0) := by decide +kernel
theorem p191_922 {l3 s0 s1 s2 : Int} {q0 q1 q2 : MV} {ds : Ds} {m : Mm} {Q : Ds → Mm → List MV → Prop} : WP 191 922 [q0, q1, q2, (0, l3)] [(4, s0), (2, s1), (0, s2)] ds m Q = (WP 191 923 [q0, q1, q2, (0, l3)] [(0, l3), (4, s0), (2, s1), (0, s2)] ds m Q) := P_nx k191_922 rfl
set_option maxRecDepth 20000 in
theorem k191_923 : mjCode 191 923 = some (.iconst 1, 1, 0, 0) := by decide +kernel
theorem p191_923 {s0 s1 s2 s3 : Int} {q0 q1 q2 q3 : MV} {ds : Ds} {m : Mm} {Q : Ds → Mm → List MV → Prop} : WP 191 923 [q0, q1, q2, q3] [(0, s0), (4, s1), (2, s2), (0, s3)] ds m Q = (WP 191 924 [q0, q1, q2, q3] [(0, 1), (0, s0), (4, s1), (2, s2), (0, s3)] ds m Q) := P_nx k191_923 rfl
set_option maxRecDepth 20000 in
theorem k191_924 : mjCode 191 924 = some (.iadd, 1, 0, 0) := by decide +kernel
theorem p191_924 {s0 s1 s2 s3 s4 : Int} {q0 q1 q2 q3 : MV} {ds : Ds} {m : Mm} {Q : Ds → Mm → List MV → Prop} : WP 191 924 [q0, q1, q2, q3] [(0, s0), (0, s1), (4, s2), (2, s3), (0, s4)] ds m Q = (WP 191 925 [q0, q1, q2, q3] [(0, w32 (s1 + s0)), (4, s2), (2, s3), (0, s4)] ds m Q) := P_nx k191_924 rfl
set_option maxRecDepth 20000 in
theorem k191_925 : mjCode 191 925 = some (.iaload, 1, 0, 0) := by decide +kernel
theorem p191_925 {s0 s1 s2 s3 : Int} {q0 q1 q2 q3 : MV} {ds : Ds} {m : Mm} {Q : Ds → Mm → List MV → Prop} : WP 191 925 [q0, q1, q2, q3] [(0, s0), (4, s1), (2, s2), (0, s3)] ds m Q = ((0 ≤ s0 ∧ s0 < m (-3) 0 ∧ WP 191 926 [q0, q1, q2, q3] [(0, m (-2) s0), (2, s2), (0, s3)] ds m Q)) := P_sc k191_925 rfl
set_option maxRecDepth 20000 in
theorem k191_926 : mjCode 191 926 = some (.invokevirtual 115, 3, 179, 2) := by decide +kernel
theorem p191_926 {s0 s1 s2 : Int} {q0 q1 q2 q3 : MV} {ds : Ds} {m : Mm} {Q : Ds → Mm → List MV → Prop} : WP 191 926 [q0, q1, q2, q3] [(0, s0), (2, s1), (0, s2)] ds m Q = ((dk ds s1 = 7 ∧ WP 178 0 [(2, s1), (0, s0)] [] ds m (fun d2 m2 r2 => WP 191 929 [q0, q1, q2, q3] (r2 ++ [(0, s2)]) d2 m2 Q))) := P_cv k191_926 mx178 mo178 rfl rfl rfl rfl rfl rfl rfl rfl
set_option maxRecDepth 20000 in
theorem k191_929 : mjCode 191 929 = some (.if_icmp .eq 173, 3, 1102, 0) := by decide +kernel
theorem p191_929 {s0 s1 : Int} {q0 q1 q2 q3 : MV} {ds : Ds} {m : Mm} {Q : Ds → Mm → List MV → Prop} : WP 191 929 [q0, q1, q2, q3] [(0, s0), (0, s1)] ds m Q = (if s1 = s0 then WP 191 1102 [q0, q1, q2, q3] [] ds m Q else WP 191 932 [q0, q1, q2, q3] [] ds m Q) := P_if k191_929 rfl
set_option maxRecDepth 20000 in
theorem k191_932 : mjCode 191 932 = some (.iconst 0, 1, 0, 0) := by decide +kernel
theorem p191_932 {q0 q1 q2 q3 : MV} {ds : Ds} {m : Mm} {Q : Ds → Mm → List MV → Prop} : WP 191 932 [q0, q1, q2, q3] [] ds m Q = (WP 191 933 [q0, q1, q2, q3] [(0, 0)] ds m Q) := P_nx k191_932 rfl
set_option maxRecDepth 20000 in
theorem k191_933 : mjCode 191 933 = some (.ireturn, 1, 0, 0) := by decide +kernel
theorem p191_933 {s0 : Int} {q0 q1 q2 q3 : MV} {ds : Ds} {m : Mm} {Q : Ds → Mm → List MV → Prop} : WP 191 933 [q0, q1, q2, q3] [(0, s0)] ds m Q = (((s0 = 0 ∨ s0 = 1) ∧ Q ds m [(0, s0)])) := P_rb k191_933 rk191
set_option maxRecDepth 20000 in
theorem k191_934 : mjCode 191 934 = some (.aload_n 1, 1, 0, 0) := by decide +kernel
theorem p191_934 {l1 : Int} {q0 q2 q3 : MV} {ds : Ds} {m : Mm} {Q : Ds → Mm → List MV → Prop} : WP 191 934 [q0, (2, l1), q2, q3] [] ds m Q = (WP 191 935 [q0, (2, l1), q2, q3] [(2, l1)] ds m Q) := P_nx k191_934 rfl
set_option maxRecDepth 20000 in
theorem k191_935 : mjCode 191 935 = some (.aload_n 0, 1, 0, 0) := by decide +kernel
theorem p191_935 {l0 s0 : Int} {q1 q2 q3 : MV} {ds : Ds} {m : Mm} {Q : Ds → Mm → List MV → Prop} : WP 191 935 [(4, l0), q1, q2, q3] [(2, s0)] ds m Q = (WP 191 936 [(4, l0), q1, q2, q3] [(4, l0), (2, s0)] ds m Q) := P_nx k191_935 rfl
set_option maxRecDepth 20000 in
theorem k191_936 : mjCode 191 936 = some (.iload_n 3, 1, 0, 0) := by decide +kernel
theorem p191_936 {l3 s0 s1 : Int} {q0 q1 q2 : MV} {ds : Ds} {m : Mm} {Q : Ds → Mm → List MV → Prop} : WP 191 936 [q0, q1, q2, (0, l3)] [(4, s0), (2, s1)] ds m Q = (WP 191 937 [q0, q1, q2, (0, l3)] [(0, l3), (4, s0), (2, s1)] ds m Q) := P_nx k191_936 rfl
set_option maxRecDepth 20000 in
theorem k191_937 : mjCode 191 937 = some (.iconst 1, 1, 0, 0) := by decide +kernel
theorem p191_937 {s0 s1 s2 : Int} {q0 q1 q2 q3 : MV} {ds : Ds} {m : Mm} {Q : Ds → Mm → List MV → Prop} : WP 191 937 [q0, q1, q2, q3] [(0, s0), (4, s1), (2, s2)] ds m Q = (WP 191 938 [q0, q1, q2, q3] [(0, 1), (0, s0), (4, s1), (2, s2)] ds m Q) := P_nx k191_937 rfl
set_option maxRecDepth 20000 in
theorem k191_938 : mjCode 191 938 = some (.iadd, 1, 0, 0) := by decide +kernel
theorem p191_938 {s0 s1 s2 s3 : Int} {q0 q1 q2 q3 : MV} {ds : Ds} {m : Mm} {Q : Ds → Mm → List MV → Prop} : WP 191 938 [q0, q1, q2, q3] [(0, s0), (0, s1), (4, s2), (2, s3)] ds m Q = (WP 191 939 [q0, q1, q2, q3] [(0, w32 (s1 + s0)), (4, s2), (2, s3)] ds m Q) := P_nx k191_938 rfl
set_option maxRecDepth 20000 in
theorem k191_939 : mjCode 191 939 = some (.iaload, 1, 0, 0) := by decide +kernel
theorem p191_939 {s0 s1 s2 : Int} {q0 q1 q2 q3 : MV} {ds : Ds} {m : Mm} {Q : Ds → Mm → List MV → Prop} : WP 191 939 [q0, q1, q2, q3] [(0, s0), (4, s1), (2, s2)] ds m Q = ((0 ≤ s0 ∧ s0 < m (-3) 0 ∧ WP 191 940 [q0, q1, q2, q3] [(0, m (-2) s0), (2, s2)] ds m Q)) := P_sc k191_939 rfl
set_option maxRecDepth 20000 in
theorem k191_940 : mjCode 191 940 = some (.aload_n 0, 1, 0, 0) := by decide +kernel
theorem p191_940 {l0 s0 s1 : Int} {q1 q2 q3 : MV} {ds : Ds} {m : Mm} {Q : Ds → Mm → List MV → Prop} : WP 191 940 [(4, l0), q1, q2, q3] [(0, s0), (2, s1)] ds m Q = (WP 191 941 [(4, l0), q1, q2, q3] [(4, l0), (0, s0), (2, s1)] ds m Q) := P_nx k191_940 rfl
set_option maxRecDepth 20000 in
theorem k191_941 : mjCode 191 941 = some (.iload_n 3, 1, 0, 0) := by decide +kernel
theorem p191_941 {l3 s0 s1 s2 : Int} {q0 q1 q2 : MV} {ds : Ds} {m : Mm} {Q : Ds → Mm → List MV → Prop} : WP 191 941 [q0, q1, q2, (0, l3)] [(4, s0), (0, s1), (2, s2)] ds m Q = (WP 191 942 [q0, q1, q2, (0, l3)] [(0, l3), (4, s0), (0, s1), (2, s2)] ds m Q) := P_nx k191_941 rfl
set_option maxRecDepth 20000 in
theorem k191_942 : mjCode 191 942 = some (.iconst 2, 1, 0, 0) := by decide +kernel
theorem p191_942 {s0 s1 s2 s3 : Int} {q0 q1 q2 q3 : MV} {ds : Ds} {m : Mm} {Q : Ds → Mm → List MV → Prop} : WP 191 942 [q0, q1, q2, q3] [(0, s0), (4, s1), (0, s2), (2, s3)] ds m Q = (WP 191 943 [q0, q1, q2, q3] [(0, 2), (0, s0), (4, s1), (0, s2), (2, s3)] ds m Q) := P_nx k191_942 rfl
set_option maxRecDepth 20000 in
theorem k191_943 : mjCode 191 943 = some (.iadd, 1, 0, 0) := by decide +kernel
theorem p191_943 {s0 s1 s2 s3 s4 : Int} {q0 q1 q2 q3 : MV} {ds : Ds} {m : Mm} {Q : Ds → Mm → List MV → Prop} : WP 191 943 [q0, q1, q2, q3] [(0, s0), (0, s1), (4, s2), (0, s3), (2, s4)] ds m Q = (WP 191 944 [q0, q1, q2, q3] [(0, w32 (s1 + s0)), (4, s2), (0, s3), (2, s4)] ds m Q) := P_nx k191_943 rfl
set_option maxRecDepth 20000 in
theorem k191_944 : mjCode 191 944 = some (.iaload, 1, 0, 0) := by decide +kernel
theorem p191_944 {s0 s1 s2 s3 : Int} {q0 q1 q2 q3 : MV} {ds : Ds} {m : Mm} {Q : Ds → Mm → List MV → Prop} : WP 191 944 [q0, q1, q2, q3] [(0, s0), (4, s1), (0, s2), (2, s3)] ds m Q = ((0 ≤ s0 ∧ s0 < m (-3) 0 ∧ WP 191 945 [q0, q1, q2, q3] [(0, m (-2) s0), (0, s2), (2, s3)] ds m Q)) := P_sc k191_944 rfl
set_option maxRecDepth 20000 in
theorem k191_945 : mjCode 191 945 = some (.aload_n 0, 1, 0, 0) := by decide +kernel
theorem p191_945 {l0 s0 s1 s2 : Int} {q1 q2 q3 : MV} {ds : Ds} {m : Mm} {Q : Ds → Mm → List MV → Prop} : WP 191 945 [(4, l0), q1, q2, q3] [(0, s0), (0, s1), (2, s2)] ds m Q = (WP 191 946 [(4, l0), q1, q2, q3] [(4, l0), (0, s0), (0, s1), (2, s2)] ds m Q) := P_nx k191_945 rfl
set_option maxRecDepth 20000 in
theorem k191_946 : mjCode 191 946 = some (.iload_n 3, 1, 0, 0) := by decide +kernel
theorem p191_946 {l3 s0 s1 s2 s3 : Int} {q0 q1 q2 : MV} {ds : Ds} {m : Mm} {Q : Ds → Mm → List MV → Prop} : WP 191 946 [q0, q1, q2, (0, l3)] [(4, s0), (0, s1), (0, s2), (2, s3)] ds m Q = (WP 191 947 [q0, q1, q2, (0, l3)] [(0, l3), (4, s0), (0, s1), (0, s2), (2, s3)] ds m Q) := P_nx k191_946 rfl
set_option maxRecDepth 20000 in
theorem k191_947 : mjCode 191 947 = some (.iconst 3, 1, 0, 0) := by decide +kernel
theorem p191_947 {s0 s1 s2 s3 s4 : Int} {q0 q1 q2 q3 : MV} {ds : Ds} {m : Mm} {Q : Ds → Mm → List MV → Prop} : WP 191 947 [q0, q1, q2, q3] [(0, s0), (4, s1), (0, s2), (0, s3), (2, s4)] ds m Q = (WP 191 948 [q0, q1, q2, q3] [(0, 3), (0, s0), (4, s1), (0, s2), (0, s3), (2, s4)] ds m Q) := P_nx k191_947 rfl
set_option maxRecDepth 20000 in
theorem k191_948 : mjCode 191 948 = some (.iadd, 1, 0, 0) := by decide +kernel
theorem p191_948 {s0 s1 s2 s3 s4 s5 : Int} {q0 q1 q2 q3 : MV} {ds : Ds} {m : Mm} {Q : Ds → Mm → List MV → Prop} : WP 191 948 [q0, q1, q2, q3] [(0, s0), (0, s1), (4, s2), (0, s3), (0, s4), (2, s5)] ds m Q = (WP 191 949 [q0, q1, q2, q3] [(0, w32 (s1 + s0)), (4, s2), (0, s3), (0, s4), (2, s5)] ds m Q) := P_nx k191_948 rfl
set_option maxRecDepth 20000 in
theorem k191_949 : mjCode 191 949 = some (.iaload, 1, 0, 0) := by decide +kernel
theorem p191_949 {s0 s1 s2 s3 s4 : Int} {q0 q1 q2 q3 : MV} {ds : Ds} {m : Mm} {Q : Ds → Mm → List MV → Prop} : WP 191 949 [q0, q1, q2, q3] [(0, s0), (4, s1), (0, s2), (0, s3), (2, s4)] ds m Q = ((0 ≤ s0 ∧ s0 < m (-3) 0 ∧ WP 191 950 [q0, q1, q2, q3] [(0, m (-2) s0), (0, s2), (0, s3), (2, s4)] ds m Q)) := P_sc k191_949 rfl
set_option maxRecDepth 20000 in
theorem k191_950 : mjCode 191 950 = some (.invokevirtual 116, 3, 92, 4) := by decide +kernel
theorem p191_950 {s0 s1 s2 s3 : Int} {q0 q1 q2 q3 : MV} {ds : Ds} {m : Mm} {Q : Ds → Mm → List MV → Prop} : WP 191 950 [q0, q1, q2, q3] [(0, s0), (0, s1), (0, s2), (2, s3)] ds m Q = ((dk ds s3 = 6 ∧ WP 91 0 [(2, s3), (0, s2), (0, s1), (0, s0), (3, 0), (3, 0), (3, 0)] [] ds m (fun d2 m2 r2 => WP 191 953 [q0, q1, q2, q3] (r2 ++ []) d2 m2 Q))) := P_cv k191_950 mx91 mo91 rfl rfl rfl rfl rfl rfl rfl rfl
set_option maxRecDepth 20000 in
theorem k191_953 : mjCode 191 953 = some (.aload_n 2, 1, 0, 0) := by decide +kernel
theorem p191_953 {l2 s0 : Int} {q0 q1 q3 : MV} {ds : Ds} {m : Mm} {Q : Ds → Mm → List MV → Prop} : WP 191 953 [q0, q1, (2, l2), q3] [(0, s0)] ds m Q = (WP 191 954 [q0, q1, (2, l2), q3] [(2, l2), (0, s0)] ds m Q) := P_nx k191_953 rfl
set_option maxRecDepth 20000 in
theorem k191_954 : mjCode 191 954 = some (.aload_n 0, 1, 0, 0) := by decide +kernel
theorem p191_954 {l0 s0 s1 : Int} {q1 q2 q3 : MV} {ds : Ds} {m : Mm} {Q : Ds → Mm → List MV → Prop} : WP 191 954 [(4, l0), q1, q2, q3] [(2, s0), (0, s1)] ds m Q = (WP 191 955 [(4, l0), q1, q2, q3] [(4, l0), (2, s0), (0, s1)] ds m Q) := P_nx k191_954 rfl
set_option maxRecDepth 20000 in
theorem k191_955 : mjCode 191 955 = some (.iload_n 3, 1, 0, 0) := by decide +kernel
theorem p191_955 {l3 s0 s1 s2 : Int} {q0 q1 q2 : MV} {ds : Ds} {m : Mm} {Q : Ds → Mm → List MV → Prop} : WP 191 955 [q0, q1, q2, (0, l3)] [(4, s0), (2, s1), (0, s2)] ds m Q = (WP 191 956 [q0, q1, q2, (0, l3)] [(0, l3), (4, s0), (2, s1), (0, s2)] ds m Q) := P_nx k191_955 rfl
set_option maxRecDepth 20000 in
theorem k191_956 : mjCode 191 956 = some (.iconst 1, 1, 0, 0) := by decide +kernel
theorem p191_956 {s0 s1 s2 s3 : Int} {q0 q1 q2 q3 : MV} {ds : Ds} {m : Mm} {Q : Ds → Mm → List MV → Prop} : WP 191 956 [q0, q1, q2, q3] [(0, s0), (4, s1), (2, s2), (0, s3)] ds m Q = (WP 191 957 [q0, q1, q2, q3] [(0, 1), (0, s0), (4, s1), (2, s2), (0, s3)] ds m Q) := P_nx k191_956 rfl
set_option maxRecDepth 20000 in
theorem k191_957 : mjCode 191 957 = some (.iadd, 1, 0, 0) := by decide +kernel
theorem p191_957 {s0 s1 s2 s3 s4 : Int} {q0 q1 q2 q3 : MV} {ds : Ds} {m : Mm} {Q : Ds → Mm → List MV → Prop} : WP 191 957 [q0, q1, q2, q3] [(0, s0), (0, s1), (4, s2), (2, s3), (0, s4)] ds m Q = (WP 191 958 [q0, q1, q2, q3] [(0, w32 (s1 + s0)), (4, s2), (2, s3), (0, s4)] ds m Q) := P_nx k191_957 rfl
set_option maxRecDepth 20000 in
theorem k191_958 : mjCode 191 958 = some (.iaload, 1, 0, 0) := by decide +kernel
theorem p191_958 {s0 s1 s2 s3 : Int} {q0 q1 q2 q3 : MV} {ds : Ds} {m : Mm} {Q : Ds → Mm → List MV → Prop} : WP 191 958 [q0, q1, q2, q3] [(0, s0), (4, s1), (2, s2), (0, s3)] ds m Q = ((0 ≤ s0 ∧ s0 < m (-3) 0 ∧ WP 191 959 [q0, q1, q2, q3] [(0, m (-2) s0), (2, s2), (0, s3)] ds m Q)) := P_sc k191_958 rfl
set_option maxRecDepth 20000 in
theorem k191_959 : mjCode 191 959 = some (.aload_n 0, 1, 0, 0) := by decide +kernel
theorem p191_959 {l0 s0 s1 s2 : Int} {q1 q2 q3 : MV} {ds : Ds} {m : Mm} {Q : Ds → Mm → List MV → Prop} : WP 191 959 [(4, l0), q1, q2, q3] [(0, s0), (2, s1), (0, s2)] ds m Q = (WP 191 960 [(4, l0), q1, q2, q3] [(4, l0), (0, s0), (2, s1), (0, s2)] ds m Q) := P_nx k191_959 rfl
set_option maxRecDepth 20000 in
theorem k191_960 : mjCode 191 960 = some (.iload_n 3, 1, 0, 0) := by decide +kernel
theorem p191_960 {l3 s0 s1 s2 s3 : Int} {q0 q1 q2 : MV} {ds : Ds} {m : Mm} {Q : Ds → Mm → List MV → Prop} : WP 191 960 [q0, q1, q2, (0, l3)] [(4, s0), (0, s1), (2, s2), (0, s3)] ds m Q = (WP 191 961 [q0, q1, q2, (0, l3)] [(0, l3), (4, s0), (0, s1), (2, s2), (0, s3)] ds m Q) := P_nx k191_960 rfl
set_option maxRecDepth 20000 in
theorem k191_961 : mjCode 191 961 = some (.iconst 2, 1, 0, 0) := by decide +kernel
theorem p191_961 {s0 s1 s2 s3 s4 : Int} {q0 q1 q2 q3 : MV} {ds : Ds} {m : Mm} {Q : Ds → Mm → List MV → Prop} : WP 191 961 [q0, q1, q2, q3] [(0, s0), (4, s1), (0, s2), (2, s3), (0, s4)] ds m Q = (WP 191 962 [q0, q1, q2, q3] [(0, 2), (0, s0), (4, s1), (0, s2), (2, s3), (0, s4)] ds m Q) := P_nx k191_961 rfl
set_option maxRecDepth 20000 in
theorem k191_962 : mjCode 191 962 = some (.iadd, 1, 0, 0) := by decide +kernel
theorem p191_962 {s0 s1 s2 s3 s4 s5 : Int} {q0 q1 q2 q3 : MV} {ds : Ds} {m : Mm} {Q : Ds → Mm → List MV → Prop} : WP 191 962 [q0, q1, q2, q3] [(0, s0), (0, s1), (4, s2), (0, s3), (2, s4), (0, s5)] ds m Q = (WP 191 963 [q0, q1, q2, q3] [(0, w32 (s1 + s0)), (4, s2), (0, s3), (2, s4), (0, s5)] ds m Q) := P_nx k191_962 rfl
set_option maxRecDepth 20000 in
theorem k191_963 : mjCode 191 963 = some (.iaload, 1, 0, 0) := by decide +kernel
theorem p191_963 {s0 s1 s2 s3 s4 : Int} {q0 q1 q2 q3 : MV} {ds : Ds} {m : Mm} {Q : Ds → Mm → List MV → Prop} : WP 191 963 [q0, q1, q2, q3] [(0, s0), (4, s1), (0, s2), (2, s3), (0, s4)] ds m Q = ((0 ≤ s0 ∧ s0 < m (-3) 0 ∧ WP 191 964 [q0, q1, q2, q3] [(0, m (-2) s0), (0, s2), (2, s3), (0, s4)] ds m Q)) := P_sc k191_963 rfl
set_option maxRecDepth 20000 in
theorem k191_964 : mjCode 191 964 = some (.aload_n 0, 1, 0, 0) := by decide +kernel
theorem p191_964 {l0 s0 s1 s2 s3 : Int} {q1 q2 q3 : MV} {ds : Ds} {m : Mm} {Q : Ds → Mm → List MV → Prop} : WP 191 964 [(4, l0), q1, q2, q3] [(0, s0), (0, s1), (2, s2), (0, s3)] ds m Q = (WP 191 965 [(4, l0), q1, q2, q3] [(4, l0), (0, s0), (0, s1), (2, s2), (0, s3)] ds m Q) := P_nx k191_964 rfl
set_option maxRecDepth 20000 in
theorem k191_965 : mjCode 191 965 = some (.iload_n 3, 1, 0, 0) := by decide +kernel
theorem p191_965 {l3 s0 s1 s2 s3 s4 : Int} {q0 q1 q2 : MV} {ds : Ds} {m : Mm} {Q : Ds → Mm → List MV → Prop} : WP 191 965 [q0, q1, q2, (0, l3)] [(4, s0), (0, s1), (0, s2), (2, s3), (0, s4)] ds m Q = (WP 191 966 [q0, q1, q2, (0, l3)] [(0, l3), (4, s0), (0, s1), (0, s2), (2, s3), (0, s4)] ds m Q) := P_nx k191_965 rfl
set_option maxRecDepth 20000 in
theorem k191_966 : mjCode 191 966 = some (.iconst 3, 1, 0, 0) := by decide +kernel
theorem p191_966 {s0 s1 s2 s3 s4 s5 : Int} {q0 q1 q2 q3 : MV} {ds : Ds} {m : Mm} {Q : Ds → Mm → List MV → Prop} : WP 191 966 [q0, q1, q2, q3] [(0, s0), (4, s1), (0, s2), (0, s3), (2, s4), (0, s5)] ds m Q = (WP 191 967 [q0, q1, q2, q3] [(0, 3), (0, s0), (4, s1), (0, s2), (0, s3), (2, s4), (0, s5)] ds m Q) := P_nx k191_966 rfl
set_option maxRecDepth 20000 in
theorem k191_967 : mjCode 191 967 = some (.iadd, 1, 0, 0) := by decide +kernel
theorem p191_967 {s0 s1 s2 s3 s4 s5 s6 : Int} {q0 q1 q2 q3 : MV} {ds : Ds} {m : Mm} {Q : Ds → Mm → List MV → Prop} : WP 191 967 [q0, q1, q2, q3] [(0, s0), (0, s1), (4, s2), (0, s3), (0, s4), (2, s5), (0, s6)] ds m Q = (WP 191 968 [q0, q1, q2, q3] [(0, w32 (s1 + s0)), (4, s2), (0, s3), (0, s4), (2, s5), (0, s6)] ds m Q) := P_nx k191_967 rfl
set_option maxRecDepth 20000 in
theorem k191_968 : mjCode 191 968 = some (.iaload, 1, 0, 0) := by decide +kernel
theorem p191_968 {s0 s1 s2 s3 s4 s5 : Int} {q0 q1 q2 q3 : MV} {ds : Ds} {m : Mm} {Q : Ds → Mm → List MV → Prop} : WP 191 968 [q0, q1, q2, q3] [(0, s0), (4, s1), (0, s2), (0, s3), (2, s4), (0, s5)] ds m Q = ((0 ≤ s0 ∧ s0 < m (-3) 0 ∧ WP 191 969 [q0, q1, q2, q3] [(0, m (-2) s0), (0, s2), (0, s3), (2, s4), (0, s5)] ds m Q)) := P_sc k191_968 rfl
set_option maxRecDepth 20000 in
theorem k191_969 : mjCode 191 969 = some (.invokevirtual 119, 3, 181, 4) := by decide +kernel
theorem p191_969 {s0 s1 s2 s3 s4 : Int} {q0 q1 q2 q3 : MV} {ds : Ds} {m : Mm} {Q : Ds → Mm → List MV → Prop} : WP 191 969 [q0, q1, q2, q3] [(0, s0), (0, s1), (0, s2), (2, s3), (0, s4)] ds m Q = ((dk ds s3 = 7 ∧ WP 180 0 [(2, s3), (0, s2), (0, s1), (0, s0), (3, 0), (3, 0), (3, 0), (3, 0), (3, 0)] [] ds m (fun d2 m2 r2 => WP 191 972 [q0, q1, q2, q3] (r2 ++ [(0, s4)]) d2 m2 Q))) := P_cv k191_969 mx180 mo180 rfl rfl rfl rfl rfl rfl rfl rfl
set_option maxRecDepth 20000 in
theorem k191_972 : mjCode 191 972 = some (.if_icmp .eq 130, 3, 1102, 0) := by decide +kernel
theorem p191_972 {s0 s1 : Int} {q0 q1 q2 q3 : MV} {ds : Ds} {m : Mm} {Q : Ds → Mm → List MV → Prop} : WP 191 972 [q0, q1, q2, q3] [(0, s0), (0, s1)] ds m Q = (if s1 = s0 then WP 191 1102 [q0, q1, q2, q3] [] ds m Q else WP 191 975 [q0, q1, q2, q3] [] ds m Q) := P_if k191_972 rfl
set_option maxRecDepth 20000 in
theorem k191_975 : mjCode 191 975 = some (.iconst 0, 1, 0, 0) := by decide +kernel
theorem p191_975 {q0 q1 q2 q3 : MV} {ds : Ds} {m : Mm} {Q : Ds → Mm → List MV → Prop} : WP 191 975 [q0, q1, q2, q3] [] ds m Q = (WP 191 976 [q0, q1, q2, q3] [(0, 0)] ds m Q) := P_nx k191_975 rfl
set_option maxRecDepth 20000 in
theorem k191_976 : mjCode 191 976 = some (.ireturn, 1, 0, 0) := by decide +kernel
theorem p191_976 {s0 : Int} {q0 q1 q2 q3 : MV} {ds : Ds} {m : Mm} {Q : Ds → Mm → List MV → Prop} : WP 191 976 [q0, q1, q2, q3] [(0, s0)] ds m Q = (((s0 = 0 ∨ s0 = 1) ∧ Q ds m [(0, s0)])) := P_rb k191_976 rk191
set_option maxRecDepth 20000 in
theorem k191_977 : mjCode 191 977 = some (.aload_n 1, 1, 0, 0) := by decide +kernel
theorem p191_977 {l1 : Int} {q0 q2 q3 : MV} {ds : Ds} {m : Mm} {Q : Ds → Mm → List MV → Prop} : WP 191 977 [q0, (2, l1), q2, q3] [] ds m Q = (WP 191 978 [q0, (2, l1), q2, q3] [(2, l1)] ds m Q) := P_nx k191_977 rfl
set_option maxRecDepth 20000 in
theorem k191_978 : mjCode 191 978 = some (.aload_n 0, 1, 0, 0) := by decide +kernel
theorem p191_978 {l0 s0 : Int} {q1 q2 q3 : MV} {ds : Ds} {m : Mm} {Q : Ds → Mm → List MV → Prop} : WP 191 978 [(4, l0), q1, q2, q3] [(2, s0)] ds m Q = (WP 191 979 [(4, l0), q1, q2, q3] [(4, l0), (2, s0)] ds m Q) := P_nx k191_978 rfl
set_option maxRecDepth 20000 in
theorem k191_979 : mjCode 191 979 = some (.iload_n 3, 1, 0, 0) := by decide +kernel
theorem p191_979 {l3 s0 s1 : Int} {q0 q1 q2 : MV} {ds : Ds} {m : Mm} {Q : Ds → Mm → List MV → Prop} : WP 191 979 [q0, q1, q2, (0, l3)] [(4, s0), (2, s1)] ds m Q = (WP 191 980 [q0, q1, q2, (0, l3)] [(0, l3), (4, s0), (2, s1)] ds m Q) := P_nx k191_979 rfl
set_option maxRecDepth 20000 in
theorem k191_980 : mjCode 191 980 = some (.iconst 1, 1, 0, 0) := by decide +kernel
theorem p191_980 {s0 s1 s2 : Int} {q0 q1 q2 q3 : MV} {ds : Ds} {m : Mm} {Q : Ds → Mm → List MV → Prop} : WP 191 980 [q0, q1, q2, q3] [(0, s0), (4, s1), (2, s2)] ds m Q = (WP 191 981 [q0, q1, q2, q3] [(0, 1), (0, s0), (4, s1), (2, s2)] ds m Q) := P_nx k191_980 rfl
set_option maxRecDepth 20000 in
theorem k191_981 : mjCode 191 981 = some (.iadd, 1, 0, 0) := by decide +kernel
theorem p191_981 {s0 s1 s2 s3 : Int} {q0 q1 q2 q3 : MV} {ds : Ds} {m : Mm} {Q : Ds → Mm → List MV → Prop} : WP 191 981 [q0, q1, q2, q3] [(0, s0), (0, s1), (4, s2), (2, s3)] ds m Q = (WP 191 982 [q0, q1, q2, q3] [(0, w32 (s1 + s0)), (4, s2), (2, s3)] ds m Q) := P_nx k191_981 rfl
set_option maxRecDepth 20000 in
theorem k191_982 : mjCode 191 982 = some (.iaload, 1, 0, 0) := by decide +kernel
theorem p191_982 {s0 s1 s2 : Int} {q0 q1 q2 q3 : MV} {ds : Ds} {m : Mm} {Q : Ds → Mm → List MV → Prop} : WP 191 982 [q0, q1, q2, q3] [(0, s0), (4, s1), (2, s2)] ds m Q = ((0 ≤ s0 ∧ s0 < m (-3) 0 ∧ WP 191 983 [q0, q1, q2, q3] [(0, m (-2) s0), (2, s2)] ds m Q)) := P_sc k191_982 rfl
set_option maxRecDepth 20000 in
theorem k191_983 : mjCode 191 983 = some (.invokevirtual 120, 3, 93, 2) := by decide +kernel
theorem p191_983 {s0 s1 : Int} {q0 q1 q2 q3 : MV} {ds : Ds} {m : Mm} {Q : Ds → Mm → List MV → Prop} : WP 191 983 [q0, q1, q2, q3] [(0, s0), (2, s1)] ds m Q = ((dk ds s1 = 6 ∧ WP 92 0 [(2, s1), (0, s0)] [] ds m (fun d2 m2 r2 => WP 191 986 [q0, q1, q2, q3] (r2 ++ []) d2 m2 Q))) := P_cv k191_983 mx92 mo92 rfl rfl rfl rfl rfl rfl rfl rfl
set_option maxRecDepth 20000 in
theorem k191_986 : mjCode 191 986 = some (.aload_n 2, 1, 0, 0) := by decide +kernel
theorem p191_986 {l2 s0 : Int} {q0 q1 q3 : MV} {ds : Ds} {m : Mm} {Q : Ds → Mm → List MV → Prop} : WP 191 986 [q0, q1, (2, l2), q3] [(0, s0)] ds m Q = (WP 191 987 [q0, q1, (2, l2), q3] [(2, l2), (0, s0)] ds m Q) := P_nx k191_986 rfl
set_option maxRecDepth 20000 in
theorem k191_987 : mjCode 191 987 = some (.aload_n 0, 1, 0, 0) := by decide +kernel
theorem p191_987 {l0 s0 s1 : Int} {q1 q2 q3 : MV} {ds : Ds} {m : Mm} {Q : Ds → Mm → List MV → Prop} : WP 191 987 [(4, l0), q1, q2, q3] [(2, s0), (0, s1)] ds m Q = (WP 191 988 [(4, l0), q1, q2, q3] [(4, l0), (2, s0), (0, s1)] ds m Q) := P_nx k191_987 rfl
set_option maxRecDepth 20000 in
theorem k191_988 : mjCode 191 988 = some (.iload_n 3, 1, 0, 0) := by decide +kernel
theorem p191_988 {l3 s0 s1 s2 : Int} {q0 q1 q2 : MV} {ds : Ds} {m : Mm} {Q : Ds → Mm → List MV → Prop} : WP 191 988 [q0, q1, q2, (0, l3)] [(4, s0), (2, s1), (0, s2)] ds m Q = (WP 191 989 [q0, q1, q2, (0, l3)] [(0, l3), (4, s0), (2, s1), (0, s2)] ds m Q) := P_nx k191_988 rfl
set_option maxRecDepth 20000 in
theorem k191_989 : mjCode 191 989 = some (.iconst 1, 1, 0, 0) := by decide +kernel
theorem p191_989 {s0 s1 s2 s3 : Int} {q0 q1 q2 q3 : MV} {ds : Ds} {m : Mm} {Q : Ds → Mm → List MV → Prop} : WP 191 989 [q0, q1, q2, q3] [(0, s0), (4, s1), (2, s2), (0, s3)] ds m Q = (WP 191 990 [q0, q1, q2, q3] [(0, 1), (0, s0), (4, s1), (2, s2), (0, s3)] ds m Q) := P_nx k191_989 rfl
set_option maxRecDepth 20000 in
theorem k191_990 : mjCode 191 990 = some (.iadd, 1, 0, 0) := by decide +kernel
theorem p191_990 {s0 s1 s2 s3 s4 : Int} {q0 q1 q2 q3 : MV} {ds : Ds} {m : Mm} {Q : Ds → Mm → List MV → Prop} : WP 191 990 [q0, q1, q2, q3] [(0, s0), (0, s1), (4, s2), (2, s3), (0, s4)] ds m Q = (WP 191 991 [q0, q1, q2, q3] [(0, w32 (s1 + s0)), (4, s2), (2, s3), (0, s4)] ds m Q) := P_nx k191_990 rfl
set_option maxRecDepth 20000 in
theorem k191_991 : mjCode 191 991 = some (.iaload, 1, 0, 0) := by decide +kernel
theorem p191_991 {s0 s1 s2 s3 : Int} {q0 q1 q2 q3 : MV} {ds : Ds} {m : Mm} {Q : Ds → Mm → List MV → Prop} : WP 191 991 [q0, q1, q2, q3] [(0, s0), (4, s1), (2, s2), (0, s3)] ds m Q = ((0 ≤ s0 ∧ s0 < m (-3) 0 ∧ WP 191 992 [q0, q1, q2, q3] [(0, m (-2) s0), (2, s2), (0, s3)] ds m Q)) := P_sc k191_991 rfl
set_option maxRecDepth 20000 in
theorem k191_992 : mjCode 191 992 = some (.invokevirtual 123, 3, 182, 2) := by decide +kernel
theorem p191_992 {s0 s1 s2 : Int} {q0 q1 q2 q3 : MV} {ds : Ds} {m : Mm} {Q : Ds → Mm → List MV → Prop} : WP 191 992 [q0, q1, q2, q3] [(0, s0), (2, s1), (0, s2)] ds m Q = ((dk ds s1 = 7 ∧ WP 181 0 [(2, s1), (0, s0)] [] ds m (fun d2 m2 r2 => WP 191 995 [q0, q1, q2, q3] (r2 ++ [(0, s2)]) d2 m2 Q))) := P_cv k191_992 mx181 mo181 rfl rfl rfl rfl rfl rfl rfl rfl
set_option maxRecDepth 20000 in
theorem k191_995 : mjCode 191 995 = some (.if_icmp .eq 107, 3, 1102, 0) := by decide +kernel
theorem p191_995 {s0 s1 : Int} {q0 q1 q2 q3 : MV} {ds : Ds} {m : Mm} {Q : Ds → Mm → List MV → Prop} : WP 191 995 [q0, q1, q2, q3] [(0, s0), (0, s1)] ds m Q = (if s1 = s0 then WP 191 1102 [q0, q1, q2, q3] [] ds m Q else WP 191 998 [q0, q1, q2, q3] [] ds m Q) := P_if k191_995 rfl
set_option maxRecDepth 20000 in
theorem k191_998 : mjCode 191 998 = some (.iconst 0, 1, 0, 0) := by decide +kernel
theorem p191_998 {q0 q1 q2 q3 : MV} {ds : Ds} {m : Mm} {Q : Ds → Mm → List MV → Prop} : WP 191 998 [q0, q1, q2, q3] [] ds m Q = (WP 191 999 [q0, q1, q2, q3] [(0, 0)] ds m Q) := P_nx k191_998 rfl
set_option maxRecDepth 20000 in
theorem k191_999 : mjCode 191 999 = some (.ireturn, 1, 0, 0) := by decide +kernel
theorem p191_999 {s0 : Int} {q0 q1 q2 q3 : MV} {ds : Ds} {m : Mm} {Q : Ds → Mm → List MV → Prop} : WP 191 999 [q0, q1, q2, q3] [(0, s0)] ds m Q = (((s0 = 0 ∨ s0 = 1) ∧ Q ds m [(0, s0)])) := P_rb k191_999 rk191
set_option maxRecDepth 20000 in
theorem k191_1000 : mjCode 191 1000 = some (.aload_n 1, 1, 0, 0) := by decide +kernel
theorem p191_1000 {l1 : Int} {q0 q2 q3 : MV} {ds : Ds} {m : Mm} {Q : Ds → Mm → List MV → Prop} : WP 191 1000 [q0, (2, l1), q2, q3] [] ds m Q = (WP 191 1001 [q0, (2, l1), q2, q3] [(2, l1)] ds m Q) := P_nx k191_1000 rfl
set_option maxRecDepth 20000 in
theorem k191_1001 : mjCode 191 1001 = some (.aload_n 0, 1, 0, 0) := by decide +kernel
theorem p191_1001 {l0 s0 : Int} {q1 q2 q3 : MV} {ds : Ds} {m : Mm} {Q : Ds → Mm → List MV → Prop} : WP 191 1001 [(4, l0), q1, q2, q3] [(2, s0)] ds m Q = (WP 191 1002 [(4, l0), q1, q2, q3] [(4, l0), (2, s0)] ds m Q) := P_nx k191_1001 rfl
set_option maxRecDepth 20000 in
theorem k191_1002 : mjCode 191 1002 = some (.iload_n 3, 1, 0, 0) := by decide +kernel
theorem p191_1002 {l3 s0 s1 : Int} {q0 q1 q2 : MV} {ds : Ds} {m : Mm} {Q : Ds → Mm → List MV → Prop} : WP 191 1002 [q0, q1, q2, (0, l3)] [(4, s0), (2, s1)] ds m Q = (WP 191 1003 [q0, q1, q2, (0, l3)] [(0, l3), (4, s0), (2, s1)] ds m Q) := P_nx k191_1002 rfl
set_option maxRecDepth 20000 in
theorem k191_1003 : mjCode 191 1003 = some (.iconst 1, 1, 0, 0) := by decide +kernel
theorem p191_1003 {s0 s1 s2 : Int} {q0 q1 q2 q3 : MV} {ds : Ds} {m : Mm} {Q : Ds → Mm → List MV → Prop} : WP 191 1003 [q0, q1, q2, q3] [(0, s0), (4, s1), (2, s2)] ds m Q = (WP 191 1004 [q0, q1, q2, q3] [(0, 1), (0, s0), (4, s1), (2, s2)] ds m Q) := P_nx k191_1003 rfl
set_option maxRecDepth 20000 in
theorem k191_1004 : mjCode 191 1004 = some (.iadd, 1, 0, 0) := by decide +kernel
theorem p191_1004 {s0 s1 s2 s3 : Int} {q0 q1 q2 q3 : MV} {ds : Ds} {m : Mm} {Q : Ds → Mm → List MV → Prop} : WP 191 1004 [q0, q1, q2, q3] [(0, s0), (0, s1), (4, s2), (2, s3)] ds m Q = (WP 191 1005 [q0, q1, q2, q3] [(0, w32 (s1 + s0)), (4, s2), (2, s3)] ds m Q) := P_nx k191_1004 rfl
set_option maxRecDepth 20000 in
theorem k191_1005 : mjCode 191 1005 = some (.iaload, 1, 0, 0) := by decide +kernel
theorem p191_1005 {s0 s1 s2 : Int} {q0 q1 q2 q3 : MV} {ds : Ds} {m : Mm} {Q : Ds → Mm → List MV → Prop} : WP 191 1005 [q0, q1, q2, q3] [(0, s0), (4, s1), (2, s2)] ds m Q = ((0 ≤ s0 ∧ s0 < m (-3) 0 ∧ WP 191 1006 [q0, q1, q2, q3] [(0, m (-2) s0), (2, s2)] ds m Q)) := P_sc k191_1005 rfl
set_option maxRecDepth 20000 in
theorem k191_1006 : mjCode 191 1006 = some (.aload_n 0, 1, 0, 0) := by decide +kernel
theorem p191_1006 {l0 s0 s1 : Int} {q1 q2 q3 : MV} {ds : Ds} {m : Mm} {Q : Ds → Mm → List MV → Prop} : WP 191 1006 [(4, l0), q1, q2, q3] [(0, s0), (2, s1)] ds m Q = (WP 191 1007 [(4, l0), q1, q2, q3] [(4, l0), (0, s0), (2, s1)] ds m Q) := P_nx k191_1006 rfl
set_option maxRecDepth 20000 in
theorem k191_1007 : mjCode 191 1007 = some (.iload_n 3, 1, 0, 0) := by decide +kernel
theorem p191_1007 {l3 s0 s1 s2 : Int} {q0 q1 q2 : MV} {ds : Ds} {m : Mm} {Q : Ds → Mm → List MV → Prop} : WP 191 1007 [q0, q1, q2, (0, l3)] [(4, s0), (0, s1), (2, s2)] ds m Q = (WP 191 1008 [q0, q1, q2, (0, l3)] [(0, l3), (4, s0), (0, s1), (2, s2)] ds m Q) := P_nx k191_1007 rfl
set_option maxRecDepth 20000 in
theorem k191_1008 : mjCode 191 1008 = some (.iconst 2, 1, 0, 0) := by decide +kernel
theorem p191_1008 {s0 s1 s2 s3 : Int} {q0 q1 q2 q3 : MV} {ds : Ds} {m : Mm} {Q : Ds → Mm → List MV → Prop} : WP 191 1008 [q0, q1, q2, q3] [(0, s0), (4, s1), (0, s2), (2, s3)] ds m Q = (WP 191 1009 [q0, q1, q2, q3] [(0, 2), (0, s0), (4, s1), (0, s2), (2, s3)] ds m Q) := P_nx k191_1008 rfl
set_option maxRecDepth 20000 in
theorem k191_1009 : mjCode 191 1009 = some (.iadd, 1, 0, 0) := by decide +kernel
theorem p191_1009 {s0 s1 s2 s3 s4 : Int} {q0 q1 q2 q3 : MV} {ds : Ds} {m : Mm} {Q : Ds → Mm → List MV → Prop} : WP 191 1009 [q0, q1, q2, q3] [(0, s0), (0, s1), (4, s2), (0, s3), (2, s4)] ds m Q = (WP 191 1010 [q0, q1, q2, q3] [(0, w32 (s1 + s0)), (4, s2), (0, s3), (2, s4)] ds m Q) := P_nx k191_1009 rfl
set_option maxRecDepth 20000 in
theorem k191_1010 : mjCode 191 1010 = some (.iaload, 1, 0, 0) := by decide +kernel
theorem p191_1010 {s0 s1 s2 s3 : Int} {q0 q1 q2 q3 : MV} {ds : Ds} {m : Mm} {Q : Ds → Mm → List MV → Prop} : WP 191 1010 [q0, q1, q2, q3] [(0, s0), (4, s1), (0, s2), (2, s3)] ds m Q = ((0 ≤ s0 ∧ s0 < m (-3) 0 ∧ WP 191 1011 [q0, q1, q2, q3] [(0, m (-2) s0), (0, s2), (2, s3)] ds m Q)) := P_sc k191_1010 rfl
set_option maxRecDepth 20000 in
theorem k191_1011 : mjCode 191 1011 = some (.invokevirtual 124, 3, 94, 3) := by decide +kernel
theorem p191_1011 {s0 s1 s2 : Int} {q0 q1 q2 q3 : MV} {ds : Ds} {m : Mm} {Q : Ds → Mm → List MV → Prop} : WP 191 1011 [q0, q1, q2, q3] [(0, s0), (0, s1), (2, s2)] ds m Q = ((dk ds s2 = 6 ∧ WP 93 0 [(2, s2), (0, s1), (0, s0), (3, 0), (3, 0), (3, 0)] [] ds m (fun d2 m2 r2 => WP 191 1014 [q0, q1, q2, q3] (r2 ++ []) d2 m2 Q))) := P_cv k191_1011 mx93 mo93 rfl rfl rfl rfl rfl rfl rfl rfl
set_option maxRecDepth 20000 in
theorem k191_1014 : mjCode 191 1014 = some (.aload_n 2, 1, 0, 0) := by decide +kernel
theorem p191_1014 {l2 s0 : Int} {q0 q1 q3 : MV} {ds : Ds} {m : Mm} {Q : Ds → Mm → List MV → Prop} : WP 191 1014 [q0, q1, (2, l2), q3] [(0, s0)] ds m Q = (WP 191 1015 [q0, q1, (2, l2), q3] [(2, l2), (0, s0)] ds m Q) := P_nx k191_1014 rfl
set_option maxRecDepth 20000 in
theorem k191_1015 : mjCode 191 1015 = some (.aload_n 0, 1, 0, 0) := by decide +kernel
theorem p191_1015 {l0 s0 s1 : Int} {q1 q2 q3 : MV} {ds : Ds} {m : Mm} {Q : Ds → Mm → List MV → Prop} : WP 191 1015 [(4, l0), q1, q2, q3] [(2, s0), (0, s1)] ds m Q = (WP 191 1016 [(4, l0), q1, q2, q3] [(4, l0), (2, s0), (0, s1)] ds m Q) := P_nx k191_1015 rfl
set_option maxRecDepth 20000 in
theorem k191_1016 : mjCode 191 1016 = some (.iload_n 3, 1, 0, 0) := by decide +kernel
theorem p191_1016 {l3 s0 s1 s2 : Int} {q0 q1 q2 : MV} {ds : Ds} {m : Mm} {Q : Ds → Mm → List MV → Prop} : WP 191 1016 [q0, q1, q2, (0, l3)] [(4, s0), (2, s1), (0, s2)] ds m Q = (WP 191 1017 [q0, q1, q2, (0, l3)] [(0, l3), (4, s0), (2, s1), (0, s2)] ds m Q) := P_nx k191_1016 rfl
set_option maxRecDepth 20000 in
theorem k191_1017 : mjCode 191 1017 = some (.iconst 1, 1, 0, 0) := by decide +kernel
theorem p191_1017 {s0 s1 s2 s3 : Int} {q0 q1 q2 q3 : MV} {ds : Ds} {m : Mm} {Q : Ds → Mm → List MV → Prop} : WP 191 1017 [q0, q1, q2, q3] [(0, s0), (4, s1), (2, s2), (0, s3)] ds m Q = (WP 191 1018 [q0, q1, q2, q3] [(0, 1), (0, s0), (4, s1), (2, s2), (0, s3)] ds m Q) := P_nx k191_1017 rfl
set_option maxRecDepth 20000 in
theorem k191_1018 : mjCode 191 1018 = some (.iadd, 1, 0, 0) := by decide +kernel
theorem p191_1018 {s0 s1 s2 s3 s4 : Int} {q0 q1 q2 q3 : MV} {ds : Ds} {m : Mm} {Q : Ds → Mm → List MV → Prop} : WP 191 1018 [q0, q1, q2, q3] [(0, s0), (0, s1), (4, s2), (2, s3), (0, s4)] ds m Q = (WP 191 1019 [q0, q1, q2, q3] [(0, w32 (s1 + s0)), (4, s2), (2, s3), (0, s4)] ds m Q) := P_nx k191_1018 rfl
set_option maxRecDepth 20000 in
theorem k191_1019 : mjCode 191 1019 = some (.iaload, 1, 0, 0) := by decide +kernel
theorem p191_1019 {s0 s1 s2 s3 : Int} {q0 q1 q2 q3 : MV} {ds : Ds} {m : Mm} {Q : Ds → Mm → List MV → Prop} : WP 191 1019 [q0, q1, q2, q3] [(0, s0), (4, s1), (2, s2), (0, s3)] ds m Q = ((0 ≤ s0 ∧ s0 < m (-3) 0 ∧ WP 191 1020 [q0, q1, q2, q3] [(0, m (-2) s0), (2, s2), (0, s3)] ds m Q)) := P_sc k191_1019 rfl
set_option maxRecDepth 20000 in
theorem k191_1020 : mjCode 191 1020 = some (.aload_n 0, 1, 0, 0) := by decide +kernel
theorem p191_1020 {l0 s0 s1 s2 : Int} {q1 q2 q3 : MV} {ds : Ds} {m : Mm} {Q : Ds → Mm → List MV → Prop} : WP 191 1020 [(4, l0), q1, q2, q3] [(0, s0), (2, s1), (0, s2)] ds m Q = (WP 191 1021 [(4, l0), q1, q2, q3] [(4, l0), (0, s0), (2, s1), (0, s2)] ds m Q) := P_nx k191_1020 rfl
set_option maxRecDepth 20000 in
theorem k191_1021 : mjCode 191 1021 = some (.iload_n 3, 1, 0, 0) := by decide +kernel
theorem p191_1021 {l3 s0 s1 s2 s3 : Int} {q0 q1 q2 : MV} {ds : Ds} {m : Mm} {Q : Ds → Mm → List MV → Prop} : WP 191 1021 [q0, q1, q2, (0, l3)] [(4, s0), (0, s1), (2, s2), (0, s3)] ds m Q = (WP 191 1022 [q0, q1, q2, (0, l3)] [(0, l3), (4, s0), (0, s1), (2, s2), (0, s3)] ds m Q) := P_nx k191_1021 rfl
set_option maxRecDepth 20000 in
theorem k191_1022 : mjCode 191 1022 = some (.iconst 2, 1, 0, 0) := by decide +kernel
theorem p191_1022 {s0 s1 s2 s3 s4 : Int} {q0 q1 q2 q3 : MV} {ds : Ds} {m : Mm} {Q : Ds → Mm → List MV → Prop} : WP 191 1022 [q0, q1, q2, q3] [(0, s0), (4, s1), (0, s2), (2, s3), (0, s4)] ds m Q = (WP 191 1023 [q0, q1, q2, q3] [(0, 2), (0, s0), (4, s1), (0, s2), (2, s3), (0, s4)] ds m Q) := P_nx k191_1022 rfl
set_option maxRecDepth 20000 in
theorem k191_1023 : mjCode 191 1023 = some (.iadd, 1, 0, 0) := by decide +kernel
theorem p191_1023 {s0 s1 s2 s3 s4 s5 : Int} {q0 q1 q2 q3 : MV} {ds : Ds} {m : Mm} {Q : Ds → Mm → List MV → Prop} : WP 191 1023 [q0, q1, q2, q3] [(0, s0), (0, s1), (4, s2), (0, s3), (2, s4), (0, s5)] ds m Q = (WP 191 1024 [q0, q1, q2, q3] [(0, w32 (s1 + s0)), (4, s2), (0, s3), (2, s4), (0, s5)] ds m Q) := P_nx k191_1023 rfl
set_option maxRecDepth 20000 in
theorem k191_1024 : mjCode 191 1024 = some (.iaload, 1, 0, 0) := by decide +kernel
theorem p191_1024 {s0 s1 s2 s3 s4 : Int} {q0 q1 q2 q3 : MV} {ds : Ds} {m : Mm} {Q : Ds → Mm → List MV → Prop} : WP 191 1024 [q0, q1, q2, q3] [(0, s0), (4, s1), (0, s2), (2, s3), (0, s4)] ds m Q = ((0 ≤ s0 ∧ s0 < m (-3) 0 ∧ WP 191 1025 [q0, q1, q2, q3] [(0, m (-2) s0), (0, s2), (2, s3), (0, s4)] ds m Q)) := P_sc k191_1024 rfl
set_option maxRecDepth 20000 in
theorem k191_1025 : mjCode 191 1025 = some (.invokevirtual 127, 3, 186, 3) := by decide +kernel
theorem p191_1025 {s0 s1 s2 s3 : Int} {q0 q1 q2 q3 : MV} {ds : Ds} {m : Mm} {Q : Ds → Mm → List MV → Prop} : WP 191 1025 [q0, q1, q2, q3] [(0, s0), (0, s1), (2, s2), (0, s3)] ds m Q = ((dk ds s2 = 7 ∧ WP 185 0 [(2, s2), (0, s1), (0, s0)] [] ds m (fun d2 m2 r2 => WP 191 1028 [q0, q1, q2, q3] (r2 ++ [(0, s3)]) d2 m2 Q))) := P_cv k191_1025 mx185 mo185 rfl rfl rfl rfl rfl rfl rfl rfl
set_option maxRecDepth 20000 in
theorem k191_1028 : mjCode 191 1028 = some (.if_icmp .eq 74, 3, 1102, 0) := by decide +kernel
theorem p191_1028 {s0 s1 : Int} {q0 q1 q2 q3 : MV} {ds : Ds} {m : Mm} {Q : Ds → Mm → List MV → Prop} : WP 191 1028 [q0, q1, q2, q3] [(0, s0), (0, s1)] ds m Q = (if s1 = s0 then WP 191 1102 [q0, q1, q2, q3] [] ds m Q else WP 191 1031 [q0, q1, q2, q3] [] ds m Q) := P_if k191_1028 rfl
set_option maxRecDepth 20000 in
theorem k191_1031 : mjCode 191 1031 = some (.iconst 0, 1, 0, 0) := by decide +kernel
theorem p191_1031 {q0 q1 q2 q3 : MV} {ds : Ds} {m : Mm} {Q : Ds → Mm → List MV → Prop} : WP 191 1031 [q0, q1, q2, q3] [] ds m Q = (WP 191 1032 [q0, q1, q2, q3] [(0, 0)] ds m Q) := P_nx k191_1031 rfl
set_option maxRecDepth 20000 in
theorem k191_1032 : mjCode 191 1032 = some (.ireturn, 1, 0, 0) := by decide +kernel
theorem p191_1032 {s0 : Int} {q0 q1 q2 q3 : MV} {ds : Ds} {m : Mm} {Q : Ds → Mm → List MV → Prop} : WP 191 1032 [q0, q1, q2, q3] [(0, s0)] ds m Q = (((s0 = 0 ∨ s0 = 1) ∧ Q ds m [(0, s0)])) := P_rb k191_1032 rk191
set_option maxRecDepth 20000 in
theorem k191_1033 : mjCode 191 1033 = some (.aload_n 1, 1, 0, 0) := by decide +kernel
theorem p191_1033 {l1 : Int} {q0 q2 q3 : MV} {ds : Ds} {m : Mm} {Q : Ds → Mm → List MV → Prop} : WP 191 1033 [q0, (2, l1), q2, q3] [] ds m Q = (WP 191 1034 [q0, (2, l1), q2, q3] [(2, l1)] ds m Q) := P_nx k191_1033 rfl
set_option maxRecDepth 20000 in
theorem k191_1034 : mjCode 191 1034 = some (.aload_n 0, 1, 0, 0) := by decide +kernel
theorem p191_1034 {l0 s0 : Int} {q1 q2 q3 : MV} {ds : Ds} {m : Mm} {Q : Ds → Mm → List MV → Prop} : WP 191 1034 [(4, l0), q1, q2, q3] [(2, s0)] ds m Q = (WP 191 1035 [(4, l0), q1, q2, q3] [(4, l0), (2, s0)] ds m Q) := P_nx k191_1034 rfl
set_option maxRecDepth 20000 in
theorem k191_1035 : mjCode 191 1035 = some (.iload_n 3, 1, 0, 0) := by decide +kernel
theorem p191_1035 {l3 s0 s1 : Int} {q0 q1 q2 : MV} {ds : Ds} {m : Mm} {Q : Ds → Mm → List MV → Prop} : WP 191 1035 [q0, q1, q2, (0, l3)] [(4, s0), (2, s1)] ds m Q = (WP 191 1036 [q0, q1, q2, (0, l3)] [(0, l3), (4, s0), (2, s1)] ds m Q) := P_nx k191_1035 rfl
set_option maxRecDepth 20000 in
theorem k191_1036 : mjCode 191 1036 = some (.iconst 1, 1, 0, 0) := by decide +kernel
theorem p191_1036 {s0 s1 s2 : Int} {q0 q1 q2 q3 : MV} {ds : Ds} {m : Mm} {Q : Ds → Mm → List MV → Prop} : WP 191 1036 [q0, q1, q2, q3] [(0, s0), (4, s1), (2, s2)] ds m Q = (WP 191 1037 [q0, q1, q2, q3] [(0, 1), (0, s0), (4, s1), (2, s2)] ds m Q) := P_nx k191_1036 rfl
set_option maxRecDepth 20000 in
theorem k191_1037 : mjCode 191 1037 = some (.iadd, 1, 0, 0) := by decide +kernel
theorem p191_1037 {s0 s1 s2 s3 : Int} {q0 q1 q2 q3 : MV} {ds : Ds} {m : Mm} {Q : Ds → Mm → List MV → Prop} : WP 191 1037 [q0, q1, q2, q3] [(0, s0), (0, s1), (4, s2), (2, s3)] ds m Q = (WP 191 1038 [q0, q1, q2, q3] [(0, w32 (s1 + s0)), (4, s2), (2, s3)] ds m Q) := P_nx k191_1037 rfl
set_option maxRecDepth 20000 in
theorem k191_1038 : mjCode 191 1038 = some (.iaload, 1, 0, 0) := by decide +kernel
theorem p191_1038 {s0 s1 s2 : Int} {q0 q1 q2 q3 : MV} {ds : Ds} {m : Mm} {Q : Ds → Mm → List MV → Prop} : WP 191 1038 [q0, q1, q2, q3] [(0, s0), (4, s1), (2, s2)] ds m Q = ((0 ≤ s0 ∧ s0 < m (-3) 0 ∧ WP 191 1039 [q0, q1, q2, q3] [(0, m (-2) s0), (2, s2)] ds m Q)) := P_sc k191_1038 rfl
set_option maxRecDepth 20000 in
theorem k191_1039 : mjCode 191 1039 = some (.invokevirtual 128, 3, 95, 2) := by decide +kernel
theorem p191_1039 {s0 s1 : Int} {q0 q1 q2 q3 : MV} {ds : Ds} {m : Mm} {Q : Ds → Mm → List MV → Prop} : WP 191 1039 [q0, q1, q2, q3] [(0, s0), (2, s1)] ds m Q = ((dk ds s1 = 6 ∧ WP 94 0 [(2, s1), (0, s0)] [] ds m (fun d2 m2 r2 => WP 191 1042 [q0, q1, q2, q3] (r2 ++ []) d2 m2 Q))) := P_cv k191_1039 mx94 mo94 rfl rfl rfl rfl rfl rfl rfl rfl
set_option maxRecDepth 20000 in
theorem k191_1042 : mjCode 191 1042 = some (.aload_n 2, 1, 0, 0) := by decide +kernel
theorem p191_1042 {l2 s0 : Int} {q0 q1 q3 : MV} {ds : Ds} {m : Mm} {Q : Ds → Mm → List MV → Prop} : WP 191 1042 [q0, q1, (2, l2), q3] [(0, s0)] ds m Q = (WP 191 1043 [q0, q1, (2, l2), q3] [(2, l2), (0, s0)] ds m Q) := P_nx k191_1042 rfl
set_option maxRecDepth 20000 in
theorem k191_1043 : mjCode 191 1043 = some (.aload_n 0, 1, 0, 0) := by decide +kernel
theorem p191_1043 {l0 s0 s1 : Int} {q1 q2 q3 : MV} {ds : Ds} {m : Mm} {Q : Ds → Mm → List MV → Prop} : WP 191 1043 [(4, l0), q1, q2, q3] [(2, s0), (0, s1)] ds m Q = (WP 191 1044 [(4, l0), q1, q2, q3] [(4, l0), (2, s0), (0, s1)] ds m Q) := P_nx k191_1043 rfl
set_option maxRecDepth 20000 in
theorem k191_1044 : mjCode 191 1044 = some (.iload_n 3, 1, 0, 0) := by decide +kernel
theorem p191_1044 {l3 s0 s1 s2 : Int} {q0 q1 q2 : MV} {ds : Ds} {m : Mm} {Q : Ds → Mm → List MV → Prop} : WP 191 1044 [q0, q1, q2, (0, l3)] [(4, s0), (2, s1), (0, s2)] ds m Q = (WP 191 1045 [q0, q1, q2, (0, l3)] [(0, l3), (4, s0), (2, s1), (0, s2)] ds m Q) := P_nx k191_1044 rfl
set_option maxRecDepth 20000 in
theorem k191_1045 : mjCode 191 1045 = some (.iconst 1, 1, 0, 0) := by decide +kernel
theorem p191_1045 {s0 s1 s2 s3 : Int} {q0 q1 q2 q3 : MV} {ds : Ds} {m : Mm} {Q : Ds → Mm → List MV → Prop} : WP 191 1045 [q0, q1, q2, q3] [(0, s0), (4, s1), (2, s2), (0, s3)] ds m Q = (WP 191 1046 [q0, q1, q2, q3] [(0, 1), (0, s0), (4, s1), (2, s2), (0, s3)] ds m Q) := P_nx k191_1045 rfl
set_option maxRecDepth 20000 in
theorem k191_1046 : mjCode 191 1046 = some (.iadd, 1, 0, 0) := by decide +kernel
theorem p191_1046 {s0 s1 s2 s3 s4 : Int} {q0 q1 q2 q3 : MV} {ds : Ds} {m : Mm} {Q : Ds → Mm → List MV → Prop} : WP 191 1046 [q0, q1, q2, q3] [(0, s0), (0, s1), (4, s2), (2, s3), (0, s4)] ds m Q = (WP 191 1047 [q0, q1, q2, q3] [(0, w32 (s1 + s0)), (4, s2), (2, s3), (0, s4)] ds m Q) := P_nx k191_1046 rfl
set_option maxRecDepth 20000 in
theorem k191_1047 : mjCode 191 1047 = some (.iaload, 1, 0, 0) := by decide +kernel
theorem p191_1047 {s0 s1 s2 s3 : Int} {q0 q1 q2 q3 : MV} {ds : Ds} {m : Mm} {Q : Ds → Mm → List MV → Prop} : WP 191 1047 [q0, q1, q2, q3] [(0, s0), (4, s1), (2, s2), (0, s3)] ds m Q = ((0 ≤ s0 ∧ s0 < m (-3) 0 ∧ WP 191 1048 [q0, q1, q2, q3] [(0, m (-2) s0), (2, s2), (0, s3)] ds m Q)) := P_sc k191_1047 rfl
set_option maxRecDepth 20000 in
theorem k191_1048 : mjCode 191 1048 = some (.invokevirtual 131, 3, 187, 2) := by decide +kernel
theorem p191_1048 {s0 s1 s2 : Int} {q0 q1 q2 q3 : MV} {ds : Ds} {m : Mm} {Q : Ds → Mm → List MV → Prop} : WP 191 1048 [q0, q1, q2, q3] [(0, s0), (2, s1), (0, s2)] ds m Q = ((dk ds s1 = 7 ∧ WP 186 0 [(2, s1), (0, s0)] [] ds m (fun d2 m2 r2 => WP 191 1051 [q0, q1, q2, q3] (r2 ++ [(0, s2)]) d2 m2 Q))) := P_cv k191_1048 mx186 mo186 rfl rfl rfl rfl rfl rfl rfl rfl
set_option maxRecDepth 20000 in
theorem k191_1051 : mjCode 191 1051 = some (.if_icmp .eq 51, 3, 1102, 0) := by decide +kernel
theorem p191_1051 {s0 s1 : Int} {q0 q1 q2 q3 : MV} {ds : Ds} {m : Mm} {Q : Ds → Mm → List MV → Prop} : WP 191 1051 [q0, q1, q2, q3] [(0, s0), (0, s1)] ds m Q = (if s1 = s0 then WP 191 1102 [q0, q1, q2, q3] [] ds m Q else WP 191 1054 [q0, q1, q2, q3] [] ds m Q) := P_if k191_1051 rfl
set_option maxRecDepth 20000 in
theorem k191_1054 : mjCode 191 1054 = some (.iconst 0, 1, 0, 0) := by decide +kernel
theorem p191_1054 {q0 q1 q2 q3 : MV} {ds : Ds} {m : Mm} {Q : Ds → Mm → List MV → Prop} : WP 191 1054 [q0, q1, q2, q3] [] ds m Q = (WP 191 1055 [q0, q1, q2, q3] [(0, 0)] ds m Q) := P_nx k191_1054 rfl
set_option maxRecDepth 20000 in
theorem k191_1055 : mjCode 191 1055 = some (.ireturn, 1, 0, 0) := by decide +kernel
theorem p191_1055 {s0 : Int} {q0 q1 q2 q3 : MV} {ds : Ds} {m : Mm} {Q : Ds → Mm → List MV → Prop} : WP 191 1055 [q0, q1, q2, q3] [(0, s0)] ds m Q = (((s0 = 0 ∨ s0 = 1) ∧ Q ds m [(0, s0)])) := P_rb k191_1055 rk191
set_option maxRecDepth 20000 in
theorem k191_1056 : mjCode 191 1056 = some (.aload_n 1, 1, 0, 0) := by decide +kernel
theorem p191_1056 {l1 : Int} {q0 q2 q3 : MV} {ds : Ds} {m : Mm} {Q : Ds → Mm → List MV → Prop} : WP 191 1056 [q0, (2, l1), q2, q3] [] ds m Q = (WP 191 1057 [q0, (2, l1), q2, q3] [(2, l1)] ds m Q) := P_nx k191_1056 rfl
set_option maxRecDepth 20000 in
theorem k191_1057 : mjCode 191 1057 = some (.aload_n 0, 1, 0, 0) := by decide +kernel
theorem p191_1057 {l0 s0 : Int} {q1 q2 q3 : MV} {ds : Ds} {m : Mm} {Q : Ds → Mm → List MV → Prop} : WP 191 1057 [(4, l0), q1, q2, q3] [(2, s0)] ds m Q = (WP 191 1058 [(4, l0), q1, q2, q3] [(4, l0), (2, s0)] ds m Q) := P_nx k191_1057 rfl
set_option maxRecDepth 20000 in
theorem k191_1058 : mjCode 191 1058 = some (.iload_n 3, 1, 0, 0) := by decide +kernel
theorem p191_1058 {l3 s0 s1 : Int} {q0 q1 q2 : MV} {ds : Ds} {m : Mm} {Q : Ds → Mm → List MV → Prop} : WP 191 1058 [q0, q1, q2, (0, l3)] [(4, s0), (2, s1)] ds m Q = (WP 191 1059 [q0, q1, q2, (0, l3)] [(0, l3), (4, s0), (2, s1)] ds m Q) := P_nx k191_1058 rfl
set_option maxRecDepth 20000 in
theorem k191_1059 : mjCode 191 1059 = some (.iconst 1, 1, 0, 0) := by decide +kernel
theorem p191_1059 {s0 s1 s2 : Int} {q0 q1 q2 q3 : MV} {ds : Ds} {m : Mm} {Q : Ds → Mm → List MV → Prop} : WP 191 1059 [q0, q1, q2, q3] [(0, s0), (4, s1), (2, s2)] ds m Q = (WP 191 1060 [q0, q1, q2, q3] [(0, 1), (0, s0), (4, s1), (2, s2)] ds m Q) := P_nx k191_1059 rfl
set_option maxRecDepth 20000 in
theorem k191_1060 : mjCode 191 1060 = some (.iadd, 1, 0, 0) := by decide +kernel
theorem p191_1060 {s0 s1 s2 s3 : Int} {q0 q1 q2 q3 : MV} {ds : Ds} {m : Mm} {Q : Ds → Mm → List MV → Prop} : WP 191 1060 [q0, q1, q2, q3] [(0, s0), (0, s1), (4, s2), (2, s3)] ds m Q = (WP 191 1061 [q0, q1, q2, q3] [(0, w32 (s1 + s0)), (4, s2), (2, s3)] ds m Q) := P_nx k191_1060 rfl
set_option maxRecDepth 20000 in
theorem k191_1061 : mjCode 191 1061 = some (.iaload, 1, 0, 0) := by decide +kernel
theorem p191_1061 {s0 s1 s2 : Int} {q0 q1 q2 q3 : MV} {ds : Ds} {m : Mm} {Q : Ds → Mm → List MV → Prop} : WP 191 1061 [q0, q1, q2, q3] [(0, s0), (4, s1), (2, s2)] ds m Q = ((0 ≤ s0 ∧ s0 < m (-3) 0 ∧ WP 191 1062 [q0, q1, q2, q3] [(0, m (-2) s0), (2, s2)] ds m Q)) := P_sc k191_1061 rfl
set_option maxRecDepth 20000 in
theorem k191_1062 : mjCode 191 1062 = some (.invokevirtual 132, 3, 88, 2) := by decide +kernel
theorem p191_1062 {s0 s1 : Int} {q0 q1 q2 q3 : MV} {ds : Ds} {m : Mm} {Q : Ds → Mm → List MV → Prop} : WP 191 1062 [q0, q1, q2, q3] [(0, s0), (2, s1)] ds m Q = ((dk ds s1 = 6 ∧ WP 87 0 [(2, s1), (0, s0), (3, 0), (3, 0), (3, 0), (3, 0)] [] ds m (fun d2 m2 r2 => WP 191 1065 [q0, q1, q2, q3] (r2 ++ []) d2 m2 Q))) := P_cv k191_1062 mx87 mo87 rfl rfl rfl rfl rfl rfl rfl rfl
set_option maxRecDepth 20000 in
theorem k191_1065 : mjCode 191 1065 = some (.aload_n 2, 1, 0, 0) := by decide +kernel
theorem p191_1065 {l2 s0 : Int} {q0 q1 q3 : MV} {ds : Ds} {m : Mm} {Q : Ds → Mm → List MV → Prop} : WP 191 1065 [q0, q1, (2, l2), q3] [(0, s0)] ds m Q = (WP 191 1066 [q0, q1, (2, l2), q3] [(2, l2), (0, s0)] ds m Q) := P_nx k191_1065 rfl
set_option maxRecDepth 20000 in
theorem k191_1066 : mjCode 191 1066 = some (.aload_n 0, 1, 0, 0) := by decide +kernel
theorem p191_1066 {l0 s0 s1 : Int} {q1 q2 q3 : MV} {ds : Ds} {m : Mm} {Q : Ds → Mm → List MV → Prop} : WP 191 1066 [(4, l0), q1, q2, q3] [(2, s0), (0, s1)] ds m Q = (WP 191 1067 [(4, l0), q1, q2, q3] [(4, l0), (2, s0), (0, s1)] ds m Q) := P_nx k191_1066 rfl
set_option maxRecDepth 20000 in
theorem k191_1067 : mjCode 191 1067 = some (.iload_n 3, 1, 0, 0) := by decide +kernel
theorem p191_1067 {l3 s0 s1 s2 : Int} {q0 q1 q2 : MV} {ds : Ds} {m : Mm} {Q : Ds → Mm → List MV → Prop} : WP 191 1067 [q0, q1, q2, (0, l3)] [(4, s0), (2, s1), (0, s2)] ds m Q = (WP 191 1068 [q0, q1, q2, (0, l3)] [(0, l3), (4, s0), (2, s1), (0, s2)] ds m Q) := P_nx k191_1067 rfl
set_option maxRecDepth 20000 in
theorem k191_1068 : mjCode 191 1068 = some (.iconst 1, 1, 0, 0) := by decide +kernel
theorem p191_1068 {s0 s1 s2 s3 : Int} {q0 q1 q2 q3 : MV} {ds : Ds} {m : Mm} {Q : Ds → Mm → List MV → Prop} : WP 191 1068 [q0, q1, q2, q3] [(0, s0), (4, s1), (2, s2), (0, s3)] ds m Q = (WP 191 1069 [q0, q1, q2, q3] [(0, 1), (0, s0), (4, s1), (2, s2), (0, s3)] ds m Q) := P_nx k191_1068 rfl
set_option maxRecDepth 20000 in
theorem k191_1069 : mjCode 191 1069 = some (.iadd, 1, 0, 0) := by decide +kernel
theorem p191_1069 {s0 s1 s2 s3 s4 : Int} {q0 q1 q2 q3 : MV} {ds : Ds} {m : Mm} {Q : Ds → Mm → List MV → Prop} : WP 191 1069 [q0, q1, q2, q3] [(0, s0), (0, s1), (4, s2), (2, s3), (0, s4)] ds m Q = (WP 191 1070 [q0, q1, q2, q3] [(0, w32 (s1 + s0)), (4, s2), (2, s3), (0, s4)] ds m Q) := P_nx k191_1069 rfl
set_option maxRecDepth 20000 in
theorem k191_1070 : mjCode 191 1070 = some (.iaload, 1, 0, 0) := by decide +kernel
theorem p191_1070 {s0 s1 s2 s3 : Int} {q0 q1 q2 q3 : MV} {ds : Ds} {m : Mm} {Q : Ds → Mm → List MV → Prop} : WP 191 1070 [q0, q1, q2, q3] [(0, s0), (4, s1), (2, s2), (0, s3)] ds m Q = ((0 ≤ s0 ∧ s0 < m (-3) 0 ∧ WP 191 1071 [q0, q1, q2, q3] [(0, m (-2) s0), (2, s2), (0, s3)] ds m Q)) := P_sc k191_1070 rfl
set_option maxRecDepth 20000 in
theorem k191_1071 : mjCode 191 1071 = some (.invokevirtual 135, 3, 188, 2) := by decide +kernel
theorem p191_1071 {s0 s1 s2 : Int} {q0 q1 q2 q3 : MV} {ds : Ds} {m : Mm} {Q : Ds → Mm → List MV → Prop} : WP 191 1071 [q0, q1, q2, q3] [(0, s0), (2, s1), (0, s2)] ds m Q = ((dk ds s1 = 7 ∧ WP 187 0 [(2, s1), (0, s0), (3, 0), (3, 0), (3, 0), (3, 0), (3, 0)] [] ds m (fun d2 m2 r2 => WP 191 1074 [q0, q1, q2, q3] (r2 ++ [(0, s2)]) d2 m2 Q))) := P_cv k191_1071 mx187 mo187 rfl rfl rfl rfl rfl rfl rfl rfl
set_option maxRecDepth 20000 in
theorem k191_1074 : mjCode 191 1074 = some (.if_icmp .eq 28, 3, 1102, 0) := by decide +kernel
theorem p191_1074 {s0 s1 : Int} {q0 q1 q2 q3 : MV} {ds : Ds} {m : Mm} {Q : Ds → Mm → List MV → Prop} : WP 191 1074 [q0, q1, q2, q3] [(0, s0), (0, s1)] ds m Q = (if s1 = s0 then WP 191 1102 [q0, q1, q2, q3] [] ds m Q else WP 191 1077 [q0, q1, q2, q3] [] ds m Q) := P_if k191_1074 rfl
set_option maxRecDepth 20000 in
theorem k191_1077 : mjCode 191 1077 = some (.iconst 0, 1, 0, 0) := by decide +kernel
theorem p191_1077 {q0 q1 q2 q3 : MV} {ds : Ds} {m : Mm} {Q : Ds → Mm → List MV → Prop} : WP 191 1077 [q0, q1, q2, q3] [] ds m Q = (WP 191 1078 [q0, q1, q2, q3] [(0, 0)] ds m Q) := P_nx k191_1077 rfl
set_option maxRecDepth 20000 in
theorem k191_1078 : mjCode 191 1078 = some (.ireturn, 1, 0, 0) := by decide +kernel
theorem p191_1078 {s0 : Int} {q0 q1 q2 q3 : MV} {ds : Ds} {m : Mm} {Q : Ds → Mm → List MV → Prop} : WP 191 1078 [q0, q1, q2, q3] [(0, s0)] ds m Q = (((s0 = 0 ∨ s0 = 1) ∧ Q ds m [(0, s0)])) := P_rb k191_1078 rk191
set_option maxRecDepth 20000 in
theorem k191_1079 : mjCode 191 1079 = some (.aload_n 1, 1, 0, 0) := by decide +kernel
theorem p191_1079 {l1 : Int} {q0 q2 q3 : MV} {ds : Ds} {m : Mm} {Q : Ds → Mm → List MV → Prop} : WP 191 1079 [q0, (2, l1), q2, q3] [] ds m Q = (WP 191 1080 [q0, (2, l1), q2, q3] [(2, l1)] ds m Q) := P_nx k191_1079 rfl
set_option maxRecDepth 20000 in
theorem k191_1080 : mjCode 191 1080 = some (.aload_n 0, 1, 0, 0) := by decide +kernel
theorem p191_1080 {l0 s0 : Int} {q1 q2 q3 : MV} {ds : Ds} {m : Mm} {Q : Ds → Mm → List MV → Prop} : WP 191 1080 [(4, l0), q1, q2, q3] [(2, s0)] ds m Q = (WP 191 1081 [(4, l0), q1, q2, q3] [(4, l0), (2, s0)] ds m Q) := P_nx k191_1080 rfl
set_option maxRecDepth 20000 in
theorem k191_1081 : mjCode 191 1081 = some (.iload_n 3, 1, 0, 0) := by decide +kernel
theorem p191_1081 {l3 s0 s1 : Int} {q0 q1 q2 : MV} {ds : Ds} {m : Mm} {Q : Ds → Mm → List MV → Prop} : WP 191 1081 [q0, q1, q2, (0, l3)] [(4, s0), (2, s1)] ds m Q = (WP 191 1082 [q0, q1, q2, (0, l3)] [(0, l3), (4, s0), (2, s1)] ds m Q) := P_nx k191_1081 rfl
set_option maxRecDepth 20000 in
theorem k191_1082 : mjCode 191 1082 = some (.iconst 1, 1, 0, 0) := by decide +kernel
theorem p191_1082 {s0 s1 s2 : Int} {q0 q1 q2 q3 : MV} {ds : Ds} {m : Mm} {Q : Ds → Mm → List MV → Prop} : WP 191 1082 [q0, q1, q2, q3] [(0, s0), (4, s1), (2, s2)] ds m Q = (WP 191 1083 [q0, q1, q2, q3] [(0, 1), (0, s0), (4, s1), (2, s2)] ds m Q) := P_nx k191_1082 rfl
set_option maxRecDepth 20000 in
theorem k191_1083 : mjCode 191 1083 = some (.iadd, 1, 0, 0) := by decide +kernel
theorem p191_1083 {s0 s1 s2 s3 : Int} {q0 q1 q2 q3 : MV} {ds : Ds} {m : Mm} {Q : Ds → Mm → List MV → Prop} : WP 191 1083 [q0, q1, q2, q3] [(0, s0), (0, s1), (4, s2), (2, s3)] ds m Q = (WP 191 1084 [q0, q1, q2, q3] [(0, w32 (s1 + s0)), (4, s2), (2, s3)] ds m Q) := P_nx k191_1083 rfl
set_option maxRecDepth 20000 in
theorem k191_1084 : mjCode 191 1084 = some (.iaload, 1, 0, 0) := by decide +kernel
theorem p191_1084 {s0 s1 s2 : Int} {q0 q1 q2 q3 : MV} {ds : Ds} {m : Mm} {Q : Ds → Mm → List MV → Prop} : WP 191 1084 [q0, q1, q2, q3] [(0, s0), (4, s1), (2, s2)] ds m Q = ((0 ≤ s0 ∧ s0 < m (-3) 0 ∧ WP 191 1085 [q0, q1, q2, q3] [(0, m (-2) s0), (2, s2)] ds m Q)) := P_sc k191_1084 rfl
set_option maxRecDepth 20000 in
theorem k191_1085 : mjCode 191 1085 = some (.invokevirtual 136, 3, 74, 2) := by decide +kernel
theorem p191_1085 {s0 s1 : Int} {q0 q1 q2 q3 : MV} {ds : Ds} {m : Mm} {Q : Ds → Mm → List MV → Prop} : WP 191 1085 [q0, q1, q2, q3] [(0, s0), (2, s1)] ds m Q = ((dk ds s1 = 6 ∧ WP 73 0 [(2, s1), (0, s0), (3, 0)] [] ds m (fun d2 m2 r2 => WP 191 1088 [q0, q1, q2, q3] (r2 ++ []) d2 m2 Q))) := P_cv k191_1085 mx73 mo73 rfl rfl rfl rfl rfl rfl rfl rfl
set_option maxRecDepth 20000 in
theorem k191_1088 : mjCode 191 1088 = some (.aload_n 2, 1, 0, 0) := by decide +kernel
theorem p191_1088 {l2 s0 : Int} {q0 q1 q3 : MV} {ds : Ds} {m : Mm} {Q : Ds → Mm → List MV → Prop} : WP 191 1088 [q0, q1, (2, l2), q3] [(0, s0)] ds m Q = (WP 191 1089 [q0, q1, (2, l2), q3] [(2, l2), (0, s0)] ds m Q) := P_nx k191_1088 rfl
set_option maxRecDepth 20000 in
theorem k191_1089 : mjCode 191 1089 = some (.aload_n 0, 1, 0, 0) := by decide +kernel
theorem p191_1089 {l0 s0 s1 : Int} {q1 q2 q3 : MV} {ds : Ds} {m : Mm} {Q : Ds → Mm → List MV → Prop} : WP 191 1089 [(4, l0), q1, q2, q3] [(2, s0), (0, s1)] ds m Q = (WP 191 1090 [(4, l0), q1, q2, q3] [(4, l0), (2, s0), (0, s1)] ds m Q) := P_nx k191_1089 rfl
set_option maxRecDepth 20000 in
theorem k191_1090 : mjCode 191 1090 = some (.iload_n 3, 1, 0, 0) := by decide +kernel
theorem p191_1090 {l3 s0 s1 s2 : Int} {q0 q1 q2 : MV} {ds : Ds} {m : Mm} {Q : Ds → Mm → List MV → Prop} : WP 191 1090 [q0, q1, q2, (0, l3)] [(4, s0), (2, s1), (0, s2)] ds m Q = (WP 191 1091 [q0, q1, q2, (0, l3)] [(0, l3), (4, s0), (2, s1), (0, s2)] ds m Q) := P_nx k191_1090 rfl
set_option maxRecDepth 20000 in
theorem k191_1091 : mjCode 191 1091 = some (.iconst 1, 1, 0, 0) := by decide +kernel
theorem p191_1091 {s0 s1 s2 s3 : Int} {q0 q1 q2 q3 : MV} {ds : Ds} {m : Mm} {Q : Ds → Mm → List MV → Prop} : WP 191 1091 [q0, q1, q2, q3] [(0, s0), (4, s1), (2, s2), (0, s3)] ds m Q = (WP 191 1092 [q0, q1, q2, q3] [(0, 1), (0, s0), (4, s1), (2, s2), (0, s3)] ds m Q) := P_nx k191_1091 rfl
set_option maxRecDepth 20000 in
theorem k191_1092 : mjCode 191 1092 = some (.iadd, 1, 0, 0) := by decide +kernel
theorem p191_1092 {s0 s1 s2 s3 s4 : Int} {q0 q1 q2 q3 : MV} {ds : Ds} {m : Mm} {Q : Ds → Mm → List MV → Prop} : WP 191 1092 [q0, q1, q2, q3] [(0, s0), (0, s1), (4, s2), (2, s3), (0, s4)] ds m Q = (WP 191 1093 [q0, q1, q2, q3] [(0, w32 (s1 + s0)), (4, s2), (2, s3), (0, s4)] ds m Q) := P_nx k191_1092 rfl
set_option maxRecDepth 20000 in
theorem k191_1093 : mjCode 191 1093 = some (.iaload, 1, 0, 0) := by decide +kernel
theorem p191_1093 {s0 s1 s2 s3 : Int} {q0 q1 q2 q3 : MV} {ds : Ds} {m : Mm} {Q : Ds → Mm → List MV → Prop} : WP 191 1093 [q0, q1, q2, q3] [(0, s0), (4, s1), (2, s2), (0, s3)] ds m Q = ((0 ≤ s0 ∧ s0 < m (-3) 0 ∧ WP 191 1094 [q0, q1, q2, q3] [(0, m (-2) s0), (2, s2), (0, s3)] ds m Q)) := P_sc k191_1093 rfl
set_option maxRecDepth 20000 in
theorem k191_1094 : mjCode 191 1094 = some (.invokevirtual 139, 3, 190, 2) := by decide +kernel
theorem p191_1094 {s0 s1 s2 : Int} {q0 q1 q2 q3 : MV} {ds : Ds} {m : Mm} {Q : Ds → Mm → List MV → Prop} : WP 191 1094 [q0, q1, q2, q3] [(0, s0), (2, s1), (0, s2)] ds m Q = ((dk ds s1 = 7 ∧ WP 189 0 [(2, s1), (0, s0)] [] ds m (fun d2 m2 r2 => WP 191 1097 [q0, q1, q2, q3] (r2 ++ [(0, s2)]) d2 m2 Q))) := P_cv k191_1094 mx189 mo189 rfl rfl rfl rfl rfl rfl rfl rfl
set_option maxRecDepth 20000 in
theorem k191_1097 : mjCode 191 1097 = some (.if_icmp .eq 5, 3, 1102, 0) := by decide +kernel
theorem p191_1097 {s0 s1 : Int} {q0 q1 q2 q3 : MV} {ds : Ds} {m : Mm} {Q : Ds → Mm → List MV → Prop} : WP 191 1097 [q0, q1, q2, q3] [(0, s0), (0, s1)] ds m Q = (if s1 = s0 then WP 191 1102 [q0, q1, q2, q3] [] ds m Q else WP 191 1100 [q0, q1, q2, q3] [] ds m Q) := P_if k191_1097 rfl
set_option maxRecDepth 20000 in
theorem k191_1100 : mjCode 191 1100 = some (.iconst 0, 1, 0, 0) := by decide +kernel
theorem p191_1100 {q0 q1 q2 q3 : MV} {ds : Ds} {m : Mm} {Q : Ds → Mm → List MV → Prop} : WP 191 1100 [q0, q1, q2, q3] [] ds m Q = (WP 191 1101 [q0, q1, q2, q3] [(0, 0)] ds m Q) := P_nx k191_1100 rfl
set_option maxRecDepth 20000 in
theorem k191_1101 : mjCode 191 1101 = some (.ireturn, 1, 0, 0) := by decide +kernel
theorem p191_1101 {s0 : Int} {q0 q1 q2 q3 : MV} {ds : Ds} {m : Mm} {Q : Ds → Mm → List MV → Prop} : WP 191 1101 [q0, q1, q2, q3] [(0, s0)] ds m Q = (((s0 = 0 ∨ s0 = 1) ∧ Q ds m [(0, s0)])) := P_rb k191_1101 rk191
set_option maxRecDepth 20000 in
theorem k191_1102 : mjCode 191 1102 = some (.iinc 3 6, 3, 0, 0) := by decide +kernel
theorem p191_1102 {l3 : Int} {q0 q1 q2 : MV} {ds : Ds} {m : Mm} {Q : Ds → Mm → List MV → Prop} : WP 191 1102 [q0, q1, q2, (0, l3)] [] ds m Q = (WP 191 1105 [q0, q1, q2, (0, w32 (l3 + 6))] [] ds m Q) := P_nx k191_1102 rfl
set_option maxRecDepth 20000 in
theorem k191_1105 : mjCode 191 1105 = some (.goto (-1087), 3, 18, 0) := by decide +kernel
theorem p191_1105 {q0 q1 q2 q3 : MV} {ds : Ds} {m : Mm} {Q : Ds → Mm → List MV → Prop} : WP 191 1105 [q0, q1, q2, q3] [] ds m Q = (WP 191 18 [q0, q1, q2, q3] [] ds m Q) := P_nx k191_1105 rfl
set_option maxRecDepth 20000 in
theorem k191_1108 : mjCode 191 1108 = some (.iconst 1, 1, 0, 0) := by decide +kernel
theorem p191_1108 {q0 q1 q2 q3 : MV} {ds : Ds} {m : Mm} {Q : Ds → Mm → List MV → Prop} : WP 191 1108 [q0, q1, q2, q3] [] ds m Q = (WP 191 1109 [q0, q1, q2, q3] [(0, 1)] ds m Q) := P_nx k191_1108 rfl
set_option maxRecDepth 20000 in
theorem k191_1109 : mjCode 191 1109 = some (.ireturn, 1, 0, 0) := by decide +kernel
theorem p191_1109 {s0 : Int} {q0 q1 q2 q3 : MV} {ds : Ds} {m : Mm} {Q : Ds → Mm → List MV → Prop} : WP 191 1109 [q0, q1, q2, q3] [(0, s0)] ds m Q = (((s0 = 0 ∨ s0 = 1) ∧ Q ds m [(0, s0)])) := P_rb k191_1109 rk191
