/-! the steps, entry by entry -/
set_option maxRecDepth 20000 in
theorem k163_0 : mjCode 163 0 = some (.iconst 0, 1, 0, 0) := by decide +kernel
theorem p163_0 {q0 q1 : MV} {ds : Ds} {m : Mm} {Q : Ds → Mm → List MV → Prop} : WP 163 0 [q0, q1] [] ds m Q = (WP 163 1 [q0, q1] [(0, 0)] ds m Q) := P_nx k163_0 rfl
set_option maxRecDepth 20000 in
theorem k163_1 : mjCode 163 1 = some (.istore_n 1, 1, 0, 0) := by decide +kernel
theorem p163_1 {l0 s0 : Int} {q1 : MV} {ds : Ds} {m : Mm} {Q : Ds → Mm → List MV → Prop} : WP 163 1 [(2, l0), q1] [(0, s0)] ds m Q = (WP 163 2 [(2, l0), (0, s0)] [] ds m Q) := P_nx k163_1 rfl
set_option maxRecDepth 20000 in
theorem k163_2 : mjCode 163 2 = some (.iload_n 1, 1, 0, 0) := by decide +kernel
theorem p163_2 {l1 : Int} {q0 : MV} {ds : Ds} {m : Mm} {Q : Ds → Mm → List MV → Prop} : WP 163 2 [q0, (0, l1)] [] ds m Q = (WP 163 3 [q0, (0, l1)] [(0, l1)] ds m Q) := P_nx k163_2 rfl
set_option maxRecDepth 20000 in
theorem k163_3 : mjCode 163 3 = some (.bipush 6, 2, 0, 0) := by decide +kernel
theorem p163_3 {s0 : Int} {q0 q1 : MV} {ds : Ds} {m : Mm} {Q : Ds → Mm → List MV → Prop} : WP 163 3 [q0, q1] [(0, s0)] ds m Q = (WP 163 5 [q0, q1] [(0, 6), (0, s0)] ds m Q) := P_nx k163_3 rfl
set_option maxRecDepth 20000 in
theorem k163_5 : mjCode 163 5 = some (.if_icmp .ge 24, 3, 29, 0) := by decide +kernel
theorem p163_5 {s0 s1 : Int} {q0 q1 : MV} {ds : Ds} {m : Mm} {Q : Ds → Mm → List MV → Prop} : WP 163 5 [q0, q1] [(0, s0), (0, s1)] ds m Q = (if s1 < s0 then WP 163 8 [q0, q1] [] ds m Q else WP 163 29 [q0, q1] [] ds m Q) := P_if k163_5 rfl
set_option maxRecDepth 20000 in
theorem k163_8 : mjCode 163 8 = some (.aload_n 0, 1, 0, 0) := by decide +kernel
theorem p163_8 {l0 : Int} {q1 : MV} {ds : Ds} {m : Mm} {Q : Ds → Mm → List MV → Prop} : WP 163 8 [(2, l0), q1] [] ds m Q = (WP 163 9 [(2, l0), q1] [(2, l0)] ds m Q) := P_nx k163_8 rfl
set_option maxRecDepth 20000 in
theorem k163_9 : mjCode 163 9 = some (.getfield 102, 3, 7, 36) := by decide +kernel
theorem p163_9 {s0 : Int} {q0 q1 : MV} {ds : Ds} {m : Mm} {Q : Ds → Mm → List MV → Prop} : WP 163 9 [q0, q1] [(2, s0)] ds m Q = ((dk ds s0 = 7 ∧ WP 163 12 [q0, q1] [(2, m s0 36)] ds m Q)) := P_gd k163_9 rfl
set_option maxRecDepth 20000 in
theorem k163_12 : mjCode 163 12 = some (.bipush 6, 2, 0, 0) := by decide +kernel
theorem p163_12 {s0 : Int} {q0 q1 : MV} {ds : Ds} {m : Mm} {Q : Ds → Mm → List MV → Prop} : WP 163 12 [q0, q1] [(2, s0)] ds m Q = (WP 163 14 [q0, q1] [(0, 6), (2, s0)] ds m Q) := P_nx k163_12 rfl
set_option maxRecDepth 20000 in
theorem k163_14 : mjCode 163 14 = some (.aload_n 0, 1, 0, 0) := by decide +kernel
theorem p163_14 {l0 s0 s1 : Int} {q1 : MV} {ds : Ds} {m : Mm} {Q : Ds → Mm → List MV → Prop} : WP 163 14 [(2, l0), q1] [(0, s0), (2, s1)] ds m Q = (WP 163 15 [(2, l0), q1] [(2, l0), (0, s0), (2, s1)] ds m Q) := P_nx k163_14 rfl
set_option maxRecDepth 20000 in
theorem k163_15 : mjCode 163 15 = some (.getfield 222, 3, 7, 45) := by decide +kernel
theorem p163_15 {s0 s1 s2 : Int} {q0 q1 : MV} {ds : Ds} {m : Mm} {Q : Ds → Mm → List MV → Prop} : WP 163 15 [q0, q1] [(2, s0), (0, s1), (2, s2)] ds m Q = ((dk ds s0 = 7 ∧ WP 163 18 [q0, q1] [(0, m s0 45), (0, s1), (2, s2)] ds m Q)) := P_gd k163_15 rfl
set_option maxRecDepth 20000 in
theorem k163_18 : mjCode 163 18 = some (.imul, 1, 0, 0) := by decide +kernel
theorem p163_18 {s0 s1 s2 : Int} {q0 q1 : MV} {ds : Ds} {m : Mm} {Q : Ds → Mm → List MV → Prop} : WP 163 18 [q0, q1] [(0, s0), (0, s1), (2, s2)] ds m Q = (WP 163 19 [q0, q1] [(0, w32 (s1 * s0)), (2, s2)] ds m Q) := P_nx k163_18 rfl
set_option maxRecDepth 20000 in
theorem k163_19 : mjCode 163 19 = some (.iload_n 1, 1, 0, 0) := by decide +kernel
theorem p163_19 {l1 s0 s1 : Int} {q0 : MV} {ds : Ds} {m : Mm} {Q : Ds → Mm → List MV → Prop} : WP 163 19 [q0, (0, l1)] [(0, s0), (2, s1)] ds m Q = (WP 163 20 [q0, (0, l1)] [(0, l1), (0, s0), (2, s1)] ds m Q) := P_nx k163_19 rfl
set_option maxRecDepth 20000 in
theorem k163_20 : mjCode 163 20 = some (.iadd, 1, 0, 0) := by decide +kernel
theorem p163_20 {s0 s1 s2 : Int} {q0 q1 : MV} {ds : Ds} {m : Mm} {Q : Ds → Mm → List MV → Prop} : WP 163 20 [q0, q1] [(0, s0), (0, s1), (2, s2)] ds m Q = (WP 163 21 [q0, q1] [(0, w32 (s1 + s0)), (2, s2)] ds m Q) := P_nx k163_20 rfl
set_option maxRecDepth 20000 in
theorem k163_21 : mjCode 163 21 = some (.iconst 0, 1, 0, 0) := by decide +kernel
theorem p163_21 {s0 s1 : Int} {q0 q1 : MV} {ds : Ds} {m : Mm} {Q : Ds → Mm → List MV → Prop} : WP 163 21 [q0, q1] [(0, s0), (2, s1)] ds m Q = (WP 163 22 [q0, q1] [(0, 0), (0, s0), (2, s1)] ds m Q) := P_nx k163_21 rfl
set_option maxRecDepth 20000 in
theorem k163_22 : mjCode 163 22 = some (.iastore, 1, 0, 0) := by decide +kernel
theorem p163_22 {s0 s1 s2 : Int} {q0 q1 : MV} {ds : Ds} {m : Mm} {Q : Ds → Mm → List MV → Prop} : WP 163 22 [q0, q1] [(0, s0), (0, s1), (2, s2)] ds m Q = ((dk ds s2 = 10 ∧ 0 ≤ s1 ∧ s1 < dl ds s2 ∧ WP 163 23 [q0, q1] [] ds (up m s2 s1 s0) Q)) := P_s3 k163_22 rfl
set_option maxRecDepth 20000 in
theorem k163_23 : mjCode 163 23 = some (.iinc 1 1, 3, 0, 0) := by decide +kernel
theorem p163_23 {l1 : Int} {q0 : MV} {ds : Ds} {m : Mm} {Q : Ds → Mm → List MV → Prop} : WP 163 23 [q0, (0, l1)] [] ds m Q = (WP 163 26 [q0, (0, w32 (l1 + 1))] [] ds m Q) := P_nx k163_23 rfl
set_option maxRecDepth 20000 in
theorem k163_26 : mjCode 163 26 = some (.goto (-24), 3, 2, 0) := by decide +kernel
theorem p163_26 {q0 q1 : MV} {ds : Ds} {m : Mm} {Q : Ds → Mm → List MV → Prop} : WP 163 26 [q0, q1] [] ds m Q = (WP 163 2 [q0, q1] [] ds m Q) := P_nx k163_26 rfl
set_option maxRecDepth 20000 in
theorem k163_29 : mjCode 163 29 = some (.iconst 0, 1, 0, 0) := by decide +kernel
theorem p163_29 {q0 q1 : MV} {ds : Ds} {m : Mm} {Q : Ds → Mm → List MV → Prop} : WP 163 29 [q0, q1] [] ds m Q = (WP 163 30 [q0, q1] [(0, 0)] ds m Q) := P_nx k163_29 rfl
set_option maxRecDepth 20000 in
theorem k163_30 : mjCode 163 30 = some (.istore_n 1, 1, 0, 0) := by decide +kernel
theorem p163_30 {l0 s0 : Int} {q1 : MV} {ds : Ds} {m : Mm} {Q : Ds → Mm → List MV → Prop} : WP 163 30 [(2, l0), q1] [(0, s0)] ds m Q = (WP 163 31 [(2, l0), (0, s0)] [] ds m Q) := P_nx k163_30 rfl
set_option maxRecDepth 20000 in
theorem k163_31 : mjCode 163 31 = some (.iload_n 1, 1, 0, 0) := by decide +kernel
theorem p163_31 {l1 : Int} {q0 : MV} {ds : Ds} {m : Mm} {Q : Ds → Mm → List MV → Prop} : WP 163 31 [q0, (0, l1)] [] ds m Q = (WP 163 32 [q0, (0, l1)] [(0, l1)] ds m Q) := P_nx k163_31 rfl
set_option maxRecDepth 20000 in
theorem k163_32 : mjCode 163 32 = some (.sipush 520, 3, 0, 0) := by decide +kernel
theorem p163_32 {s0 : Int} {q0 q1 : MV} {ds : Ds} {m : Mm} {Q : Ds → Mm → List MV → Prop} : WP 163 32 [q0, q1] [(0, s0)] ds m Q = (WP 163 35 [q0, q1] [(0, 520), (0, s0)] ds m Q) := P_nx k163_32 rfl
set_option maxRecDepth 20000 in
theorem k163_35 : mjCode 163 35 = some (.if_icmp .ge 16, 3, 51, 0) := by decide +kernel
theorem p163_35 {s0 s1 : Int} {q0 q1 : MV} {ds : Ds} {m : Mm} {Q : Ds → Mm → List MV → Prop} : WP 163 35 [q0, q1] [(0, s0), (0, s1)] ds m Q = (if s1 < s0 then WP 163 38 [q0, q1] [] ds m Q else WP 163 51 [q0, q1] [] ds m Q) := P_if k163_35 rfl
set_option maxRecDepth 20000 in
theorem k163_38 : mjCode 163 38 = some (.aload_n 0, 1, 0, 0) := by decide +kernel
theorem p163_38 {l0 : Int} {q1 : MV} {ds : Ds} {m : Mm} {Q : Ds → Mm → List MV → Prop} : WP 163 38 [(2, l0), q1] [] ds m Q = (WP 163 39 [(2, l0), q1] [(2, l0)] ds m Q) := P_nx k163_38 rfl
set_option maxRecDepth 20000 in
theorem k163_39 : mjCode 163 39 = some (.getfield 72, 3, 7, 22) := by decide +kernel
theorem p163_39 {s0 : Int} {q0 q1 : MV} {ds : Ds} {m : Mm} {Q : Ds → Mm → List MV → Prop} : WP 163 39 [q0, q1] [(2, s0)] ds m Q = ((dk ds s0 = 7 ∧ WP 163 42 [q0, q1] [(2, m s0 22)] ds m Q)) := P_gd k163_39 rfl
set_option maxRecDepth 20000 in
theorem k163_42 : mjCode 163 42 = some (.iload_n 1, 1, 0, 0) := by decide +kernel
theorem p163_42 {l1 s0 : Int} {q0 : MV} {ds : Ds} {m : Mm} {Q : Ds → Mm → List MV → Prop} : WP 163 42 [q0, (0, l1)] [(2, s0)] ds m Q = (WP 163 43 [q0, (0, l1)] [(0, l1), (2, s0)] ds m Q) := P_nx k163_42 rfl
set_option maxRecDepth 20000 in
theorem k163_43 : mjCode 163 43 = some (.iconst (-1), 1, 0, 0) := by decide +kernel
theorem p163_43 {s0 s1 : Int} {q0 q1 : MV} {ds : Ds} {m : Mm} {Q : Ds → Mm → List MV → Prop} : WP 163 43 [q0, q1] [(0, s0), (2, s1)] ds m Q = (WP 163 44 [q0, q1] [(0, (-1)), (0, s0), (2, s1)] ds m Q) := P_nx k163_43 rfl
set_option maxRecDepth 20000 in
theorem k163_44 : mjCode 163 44 = some (.iastore, 1, 0, 0) := by decide +kernel
theorem p163_44 {s0 s1 s2 : Int} {q0 q1 : MV} {ds : Ds} {m : Mm} {Q : Ds → Mm → List MV → Prop} : WP 163 44 [q0, q1] [(0, s0), (0, s1), (2, s2)] ds m Q = ((dk ds s2 = 10 ∧ 0 ≤ s1 ∧ s1 < dl ds s2 ∧ WP 163 45 [q0, q1] [] ds (up m s2 s1 s0) Q)) := P_s3 k163_44 rfl
set_option maxRecDepth 20000 in
theorem k163_45 : mjCode 163 45 = some (.iinc 1 1, 3, 0, 0) := by decide +kernel
theorem p163_45 {l1 : Int} {q0 : MV} {ds : Ds} {m : Mm} {Q : Ds → Mm → List MV → Prop} : WP 163 45 [q0, (0, l1)] [] ds m Q = (WP 163 48 [q0, (0, w32 (l1 + 1))] [] ds m Q) := P_nx k163_45 rfl
set_option maxRecDepth 20000 in
theorem k163_48 : mjCode 163 48 = some (.goto (-17), 3, 31, 0) := by decide +kernel
theorem p163_48 {q0 q1 : MV} {ds : Ds} {m : Mm} {Q : Ds → Mm → List MV → Prop} : WP 163 48 [q0, q1] [] ds m Q = (WP 163 31 [q0, q1] [] ds m Q) := P_nx k163_48 rfl
set_option maxRecDepth 20000 in
theorem k163_51 : mjCode 163 51 = some (.aload_n 0, 1, 0, 0) := by decide +kernel
theorem p163_51 {l0 : Int} {q1 : MV} {ds : Ds} {m : Mm} {Q : Ds → Mm → List MV → Prop} : WP 163 51 [(2, l0), q1] [] ds m Q = (WP 163 52 [(2, l0), q1] [(2, l0)] ds m Q) := P_nx k163_51 rfl
set_option maxRecDepth 20000 in
theorem k163_52 : mjCode 163 52 = some (.iconst 0, 1, 0, 0) := by decide +kernel
theorem p163_52 {s0 : Int} {q0 q1 : MV} {ds : Ds} {m : Mm} {Q : Ds → Mm → List MV → Prop} : WP 163 52 [q0, q1] [(2, s0)] ds m Q = (WP 163 53 [q0, q1] [(0, 0), (2, s0)] ds m Q) := P_nx k163_52 rfl
set_option maxRecDepth 20000 in
theorem k163_53 : mjCode 163 53 = some (.putfield 207, 3, 7, 24) := by decide +kernel
theorem p163_53 {s0 s1 : Int} {q0 q1 : MV} {ds : Ds} {m : Mm} {Q : Ds → Mm → List MV → Prop} : WP 163 53 [q0, q1] [(0, s0), (2, s1)] ds m Q = ((dk ds s1 = 7 ∧ WP 163 56 [q0, q1] [] ds (up m s1 24 s0) Q)) := P_pf k163_53 rfl
set_option maxRecDepth 20000 in
theorem k163_56 : mjCode 163 56 = some (.aload_n 0, 1, 0, 0) := by decide +kernel
theorem p163_56 {l0 : Int} {q1 : MV} {ds : Ds} {m : Mm} {Q : Ds → Mm → List MV → Prop} : WP 163 56 [(2, l0), q1] [] ds m Q = (WP 163 57 [(2, l0), q1] [(2, l0)] ds m Q) := P_nx k163_56 rfl
set_option maxRecDepth 20000 in
theorem k163_57 : mjCode 163 57 = some (.iconst 0, 1, 0, 0) := by decide +kernel
theorem p163_57 {s0 : Int} {q0 q1 : MV} {ds : Ds} {m : Mm} {Q : Ds → Mm → List MV → Prop} : WP 163 57 [q0, q1] [(2, s0)] ds m Q = (WP 163 58 [q0, q1] [(0, 0), (2, s0)] ds m Q) := P_nx k163_57 rfl
set_option maxRecDepth 20000 in
theorem k163_58 : mjCode 163 58 = some (.putfield 210, 3, 7, 25) := by decide +kernel
theorem p163_58 {s0 s1 : Int} {q0 q1 : MV} {ds : Ds} {m : Mm} {Q : Ds → Mm → List MV → Prop} : WP 163 58 [q0, q1] [(0, s0), (2, s1)] ds m Q = ((dk ds s1 = 7 ∧ WP 163 61 [q0, q1] [] ds (up m s1 25 s0) Q)) := P_pf k163_58 rfl
set_option maxRecDepth 20000 in
theorem k163_61 : mjCode 163 61 = some (.aload_n 0, 1, 0, 0) := by decide +kernel
theorem p163_61 {l0 : Int} {q1 : MV} {ds : Ds} {m : Mm} {Q : Ds → Mm → List MV → Prop} : WP 163 61 [(2, l0), q1] [] ds m Q = (WP 163 62 [(2, l0), q1] [(2, l0)] ds m Q) := P_nx k163_61 rfl
set_option maxRecDepth 20000 in
theorem k163_62 : mjCode 163 62 = some (.iconst 0, 1, 0, 0) := by decide +kernel
theorem p163_62 {s0 : Int} {q0 q1 : MV} {ds : Ds} {m : Mm} {Q : Ds → Mm → List MV → Prop} : WP 163 62 [q0, q1] [(2, s0)] ds m Q = (WP 163 63 [q0, q1] [(0, 0), (2, s0)] ds m Q) := P_nx k163_62 rfl
set_option maxRecDepth 20000 in
theorem k163_63 : mjCode 163 63 = some (.putfield 245, 3, 7, 30) := by decide +kernel
theorem p163_63 {s0 s1 : Int} {q0 q1 : MV} {ds : Ds} {m : Mm} {Q : Ds → Mm → List MV → Prop} : WP 163 63 [q0, q1] [(0, s0), (2, s1)] ds m Q = ((dk ds s1 = 7 ∧ WP 163 66 [q0, q1] [] ds (up m s1 30 s0) Q)) := P_pf k163_63 rfl
set_option maxRecDepth 20000 in
theorem k163_66 : mjCode 163 66 = some (.iconst 0, 1, 0, 0) := by decide +kernel
theorem p163_66 {q0 q1 : MV} {ds : Ds} {m : Mm} {Q : Ds → Mm → List MV → Prop} : WP 163 66 [q0, q1] [] ds m Q = (WP 163 67 [q0, q1] [(0, 0)] ds m Q) := P_nx k163_66 rfl
set_option maxRecDepth 20000 in
theorem k163_67 : mjCode 163 67 = some (.istore_n 1, 1, 0, 0) := by decide +kernel
theorem p163_67 {l0 s0 : Int} {q1 : MV} {ds : Ds} {m : Mm} {Q : Ds → Mm → List MV → Prop} : WP 163 67 [(2, l0), q1] [(0, s0)] ds m Q = (WP 163 68 [(2, l0), (0, s0)] [] ds m Q) := P_nx k163_67 rfl
set_option maxRecDepth 20000 in
theorem k163_68 : mjCode 163 68 = some (.iload_n 1, 1, 0, 0) := by decide +kernel
theorem p163_68 {l1 : Int} {q0 : MV} {ds : Ds} {m : Mm} {Q : Ds → Mm → List MV → Prop} : WP 163 68 [q0, (0, l1)] [] ds m Q = (WP 163 69 [q0, (0, l1)] [(0, l1)] ds m Q) := P_nx k163_68 rfl
set_option maxRecDepth 20000 in
theorem k163_69 : mjCode 163 69 = some (.bipush 96, 2, 0, 0) := by decide +kernel
theorem p163_69 {s0 : Int} {q0 q1 : MV} {ds : Ds} {m : Mm} {Q : Ds → Mm → List MV → Prop} : WP 163 69 [q0, q1] [(0, s0)] ds m Q = (WP 163 71 [q0, q1] [(0, 96), (0, s0)] ds m Q) := P_nx k163_69 rfl
set_option maxRecDepth 20000 in
theorem k163_71 : mjCode 163 71 = some (.if_icmp .ge 139, 3, 210, 0) := by decide +kernel
theorem p163_71 {s0 s1 : Int} {q0 q1 : MV} {ds : Ds} {m : Mm} {Q : Ds → Mm → List MV → Prop} : WP 163 71 [q0, q1] [(0, s0), (0, s1)] ds m Q = (if s1 < s0 then WP 163 74 [q0, q1] [] ds m Q else WP 163 210 [q0, q1] [] ds m Q) := P_if k163_71 rfl
set_option maxRecDepth 20000 in
theorem k163_74 : mjCode 163 74 = some (.aload_n 0, 1, 0, 0) := by decide +kernel
theorem p163_74 {l0 : Int} {q1 : MV} {ds : Ds} {m : Mm} {Q : Ds → Mm → List MV → Prop} : WP 163 74 [(2, l0), q1] [] ds m Q = (WP 163 75 [(2, l0), q1] [(2, l0)] ds m Q) := P_nx k163_74 rfl
set_option maxRecDepth 20000 in
theorem k163_75 : mjCode 163 75 = some (.getfield 78, 3, 7, 27) := by decide +kernel
theorem p163_75 {s0 : Int} {q0 q1 : MV} {ds : Ds} {m : Mm} {Q : Ds → Mm → List MV → Prop} : WP 163 75 [q0, q1] [(2, s0)] ds m Q = ((dk ds s0 = 7 ∧ WP 163 78 [q0, q1] [(2, m s0 27)] ds m Q)) := P_gd k163_75 rfl
set_option maxRecDepth 20000 in
theorem k163_78 : mjCode 163 78 = some (.iload_n 1, 1, 0, 0) := by decide +kernel
theorem p163_78 {l1 s0 : Int} {q0 : MV} {ds : Ds} {m : Mm} {Q : Ds → Mm → List MV → Prop} : WP 163 78 [q0, (0, l1)] [(2, s0)] ds m Q = (WP 163 79 [q0, (0, l1)] [(0, l1), (2, s0)] ds m Q) := P_nx k163_78 rfl
set_option maxRecDepth 20000 in
theorem k163_79 : mjCode 163 79 = some (.iconst 0, 1, 0, 0) := by decide +kernel
theorem p163_79 {s0 s1 : Int} {q0 q1 : MV} {ds : Ds} {m : Mm} {Q : Ds → Mm → List MV → Prop} : WP 163 79 [q0, q1] [(0, s0), (2, s1)] ds m Q = (WP 163 80 [q0, q1] [(0, 0), (0, s0), (2, s1)] ds m Q) := P_nx k163_79 rfl
set_option maxRecDepth 20000 in
theorem k163_80 : mjCode 163 80 = some (.iastore, 1, 0, 0) := by decide +kernel
theorem p163_80 {s0 s1 s2 : Int} {q0 q1 : MV} {ds : Ds} {m : Mm} {Q : Ds → Mm → List MV → Prop} : WP 163 80 [q0, q1] [(0, s0), (0, s1), (2, s2)] ds m Q = ((dk ds s2 = 10 ∧ 0 ≤ s1 ∧ s1 < dl ds s2 ∧ WP 163 81 [q0, q1] [] ds (up m s2 s1 s0) Q)) := P_s3 k163_80 rfl
set_option maxRecDepth 20000 in
theorem k163_81 : mjCode 163 81 = some (.aload_n 0, 1, 0, 0) := by decide +kernel
theorem p163_81 {l0 : Int} {q1 : MV} {ds : Ds} {m : Mm} {Q : Ds → Mm → List MV → Prop} : WP 163 81 [(2, l0), q1] [] ds m Q = (WP 163 82 [(2, l0), q1] [(2, l0)] ds m Q) := P_nx k163_81 rfl
set_option maxRecDepth 20000 in
theorem k163_82 : mjCode 163 82 = some (.getfield 81, 3, 7, 28) := by decide +kernel
theorem p163_82 {s0 : Int} {q0 q1 : MV} {ds : Ds} {m : Mm} {Q : Ds → Mm → List MV → Prop} : WP 163 82 [q0, q1] [(2, s0)] ds m Q = ((dk ds s0 = 7 ∧ WP 163 85 [q0, q1] [(2, m s0 28)] ds m Q)) := P_gd k163_82 rfl
set_option maxRecDepth 20000 in
theorem k163_85 : mjCode 163 85 = some (.iload_n 1, 1, 0, 0) := by decide +kernel
theorem p163_85 {l1 s0 : Int} {q0 : MV} {ds : Ds} {m : Mm} {Q : Ds → Mm → List MV → Prop} : WP 163 85 [q0, (0, l1)] [(2, s0)] ds m Q = (WP 163 86 [q0, (0, l1)] [(0, l1), (2, s0)] ds m Q) := P_nx k163_85 rfl
set_option maxRecDepth 20000 in
theorem k163_86 : mjCode 163 86 = some (.iconst 0, 1, 0, 0) := by decide +kernel
theorem p163_86 {s0 s1 : Int} {q0 q1 : MV} {ds : Ds} {m : Mm} {Q : Ds → Mm → List MV → Prop} : WP 163 86 [q0, q1] [(0, s0), (2, s1)] ds m Q = (WP 163 87 [q0, q1] [(0, 0), (0, s0), (2, s1)] ds m Q) := P_nx k163_86 rfl
set_option maxRecDepth 20000 in
theorem k163_87 : mjCode 163 87 = some (.bastore, 1, 0, 0) := by decide +kernel
theorem p163_87 {s0 s1 s2 : Int} {q0 q1 : MV} {ds : Ds} {m : Mm} {Q : Ds → Mm → List MV → Prop} : WP 163 87 [q0, q1] [(0, s0), (0, s1), (2, s2)] ds m Q = (((s0 = 0 ∨ s0 = 1) ∧ dk ds s2 = 11 ∧ 0 ≤ s1 ∧ s1 < dl ds s2 ∧ WP 163 88 [q0, q1] [] ds (up m s2 s1 s0) Q)) := P_s4 k163_87 rfl
set_option maxRecDepth 20000 in
theorem k163_88 : mjCode 163 88 = some (.aload_n 0, 1, 0, 0) := by decide +kernel
theorem p163_88 {l0 : Int} {q1 : MV} {ds : Ds} {m : Mm} {Q : Ds → Mm → List MV → Prop} : WP 163 88 [(2, l0), q1] [] ds m Q = (WP 163 89 [(2, l0), q1] [(2, l0)] ds m Q) := P_nx k163_88 rfl
set_option maxRecDepth 20000 in
theorem k163_89 : mjCode 163 89 = some (.getfield 84, 3, 7, 29) := by decide +kernel
theorem p163_89 {s0 : Int} {q0 q1 : MV} {ds : Ds} {m : Mm} {Q : Ds → Mm → List MV → Prop} : WP 163 89 [q0, q1] [(2, s0)] ds m Q = ((dk ds s0 = 7 ∧ WP 163 92 [q0, q1] [(2, m s0 29)] ds m Q)) := P_gd k163_89 rfl
set_option maxRecDepth 20000 in
theorem k163_92 : mjCode 163 92 = some (.iload_n 1, 1, 0, 0) := by decide +kernel
theorem p163_92 {l1 s0 : Int} {q0 : MV} {ds : Ds} {m : Mm} {Q : Ds → Mm → List MV → Prop} : WP 163 92 [q0, (0, l1)] [(2, s0)] ds m Q = (WP 163 93 [q0, (0, l1)] [(0, l1), (2, s0)] ds m Q) := P_nx k163_92 rfl
set_option maxRecDepth 20000 in
theorem k163_93 : mjCode 163 93 = some (.iconst (-1), 1, 0, 0) := by decide +kernel
theorem p163_93 {s0 s1 : Int} {q0 q1 : MV} {ds : Ds} {m : Mm} {Q : Ds → Mm → List MV → Prop} : WP 163 93 [q0, q1] [(0, s0), (2, s1)] ds m Q = (WP 163 94 [q0, q1] [(0, (-1)), (0, s0), (2, s1)] ds m Q) := P_nx k163_93 rfl
set_option maxRecDepth 20000 in
theorem k163_94 : mjCode 163 94 = some (.iastore, 1, 0, 0) := by decide +kernel
theorem p163_94 {s0 s1 s2 : Int} {q0 q1 : MV} {ds : Ds} {m : Mm} {Q : Ds → Mm → List MV → Prop} : WP 163 94 [q0, q1] [(0, s0), (0, s1), (2, s2)] ds m Q = ((dk ds s2 = 10 ∧ 0 ≤ s1 ∧ s1 < dl ds s2 ∧ WP 163 95 [q0, q1] [] ds (up m s2 s1 s0) Q)) := P_s3 k163_94 rfl
set_option maxRecDepth 20000 in
theorem k163_95 : mjCode 163 95 = some (.aload_n 0, 1, 0, 0) := by decide +kernel
theorem p163_95 {l0 : Int} {q1 : MV} {ds : Ds} {m : Mm} {Q : Ds → Mm → List MV → Prop} : WP 163 95 [(2, l0), q1] [] ds m Q = (WP 163 96 [(2, l0), q1] [(2, l0)] ds m Q) := P_nx k163_95 rfl
set_option maxRecDepth 20000 in
theorem k163_96 : mjCode 163 96 = some (.getfield 108, 3, 7, 38) := by decide +kernel
theorem p163_96 {s0 : Int} {q0 q1 : MV} {ds : Ds} {m : Mm} {Q : Ds → Mm → List MV → Prop} : WP 163 96 [q0, q1] [(2, s0)] ds m Q = ((dk ds s0 = 7 ∧ WP 163 99 [q0, q1] [(2, m s0 38)] ds m Q)) := P_gd k163_96 rfl
set_option maxRecDepth 20000 in
theorem k163_99 : mjCode 163 99 = some (.bipush 96, 2, 0, 0) := by decide +kernel
theorem p163_99 {s0 : Int} {q0 q1 : MV} {ds : Ds} {m : Mm} {Q : Ds → Mm → List MV → Prop} : WP 163 99 [q0, q1] [(2, s0)] ds m Q = (WP 163 101 [q0, q1] [(0, 96), (2, s0)] ds m Q) := P_nx k163_99 rfl
set_option maxRecDepth 20000 in
theorem k163_101 : mjCode 163 101 = some (.aload_n 0, 1, 0, 0) := by decide +kernel
theorem p163_101 {l0 s0 s1 : Int} {q1 : MV} {ds : Ds} {m : Mm} {Q : Ds → Mm → List MV → Prop} : WP 163 101 [(2, l0), q1] [(0, s0), (2, s1)] ds m Q = (WP 163 102 [(2, l0), q1] [(2, l0), (0, s0), (2, s1)] ds m Q) := P_nx k163_101 rfl
set_option maxRecDepth 20000 in
theorem k163_102 : mjCode 163 102 = some (.getfield 222, 3, 7, 45) := by decide +kernel
theorem p163_102 {s0 s1 s2 : Int} {q0 q1 : MV} {ds : Ds} {m : Mm} {Q : Ds → Mm → List MV → Prop} : WP 163 102 [q0, q1] [(2, s0), (0, s1), (2, s2)] ds m Q = ((dk ds s0 = 7 ∧ WP 163 105 [q0, q1] [(0, m s0 45), (0, s1), (2, s2)] ds m Q)) := P_gd k163_102 rfl
set_option maxRecDepth 20000 in
theorem k163_105 : mjCode 163 105 = some (.imul, 1, 0, 0) := by decide +kernel
theorem p163_105 {s0 s1 s2 : Int} {q0 q1 : MV} {ds : Ds} {m : Mm} {Q : Ds → Mm → List MV → Prop} : WP 163 105 [q0, q1] [(0, s0), (0, s1), (2, s2)] ds m Q = (WP 163 106 [q0, q1] [(0, w32 (s1 * s0)), (2, s2)] ds m Q) := P_nx k163_105 rfl
set_option maxRecDepth 20000 in
theorem k163_106 : mjCode 163 106 = some (.iload_n 1, 1, 0, 0) := by decide +kernel
theorem p163_106 {l1 s0 s1 : Int} {q0 : MV} {ds : Ds} {m : Mm} {Q : Ds → Mm → List MV → Prop} : WP 163 106 [q0, (0, l1)] [(0, s0), (2, s1)] ds m Q = (WP 163 107 [q0, (0, l1)] [(0, l1), (0, s0), (2, s1)] ds m Q) := P_nx k163_106 rfl
set_option maxRecDepth 20000 in
theorem k163_107 : mjCode 163 107 = some (.iadd, 1, 0, 0) := by decide +kernel
theorem p163_107 {s0 s1 s2 : Int} {q0 q1 : MV} {ds : Ds} {m : Mm} {Q : Ds → Mm → List MV → Prop} : WP 163 107 [q0, q1] [(0, s0), (0, s1), (2, s2)] ds m Q = (WP 163 108 [q0, q1] [(0, w32 (s1 + s0)), (2, s2)] ds m Q) := P_nx k163_107 rfl
set_option maxRecDepth 20000 in
theorem k163_108 : mjCode 163 108 = some (.iconst (-1), 1, 0, 0) := by decide +kernel
theorem p163_108 {s0 s1 : Int} {q0 q1 : MV} {ds : Ds} {m : Mm} {Q : Ds → Mm → List MV → Prop} : WP 163 108 [q0, q1] [(0, s0), (2, s1)] ds m Q = (WP 163 109 [q0, q1] [(0, (-1)), (0, s0), (2, s1)] ds m Q) := P_nx k163_108 rfl
set_option maxRecDepth 20000 in
theorem k163_109 : mjCode 163 109 = some (.iastore, 1, 0, 0) := by decide +kernel
theorem p163_109 {s0 s1 s2 : Int} {q0 q1 : MV} {ds : Ds} {m : Mm} {Q : Ds → Mm → List MV → Prop} : WP 163 109 [q0, q1] [(0, s0), (0, s1), (2, s2)] ds m Q = ((dk ds s2 = 10 ∧ 0 ≤ s1 ∧ s1 < dl ds s2 ∧ WP 163 110 [q0, q1] [] ds (up m s2 s1 s0) Q)) := P_s3 k163_109 rfl
set_option maxRecDepth 20000 in
theorem k163_110 : mjCode 163 110 = some (.aload_n 0, 1, 0, 0) := by decide +kernel
theorem p163_110 {l0 : Int} {q1 : MV} {ds : Ds} {m : Mm} {Q : Ds → Mm → List MV → Prop} : WP 163 110 [(2, l0), q1] [] ds m Q = (WP 163 111 [(2, l0), q1] [(2, l0)] ds m Q) := P_nx k163_110 rfl
set_option maxRecDepth 20000 in
theorem k163_111 : mjCode 163 111 = some (.getfield 114, 3, 7, 40) := by decide +kernel
theorem p163_111 {s0 : Int} {q0 q1 : MV} {ds : Ds} {m : Mm} {Q : Ds → Mm → List MV → Prop} : WP 163 111 [q0, q1] [(2, s0)] ds m Q = ((dk ds s0 = 7 ∧ WP 163 114 [q0, q1] [(2, m s0 40)] ds m Q)) := P_gd k163_111 rfl
set_option maxRecDepth 20000 in
theorem k163_114 : mjCode 163 114 = some (.bipush 96, 2, 0, 0) := by decide +kernel
theorem p163_114 {s0 : Int} {q0 q1 : MV} {ds : Ds} {m : Mm} {Q : Ds → Mm → List MV → Prop} : WP 163 114 [q0, q1] [(2, s0)] ds m Q = (WP 163 116 [q0, q1] [(0, 96), (2, s0)] ds m Q) := P_nx k163_114 rfl
set_option maxRecDepth 20000 in
theorem k163_116 : mjCode 163 116 = some (.aload_n 0, 1, 0, 0) := by decide +kernel
theorem p163_116 {l0 s0 s1 : Int} {q1 : MV} {ds : Ds} {m : Mm} {Q : Ds → Mm → List MV → Prop} : WP 163 116 [(2, l0), q1] [(0, s0), (2, s1)] ds m Q = (WP 163 117 [(2, l0), q1] [(2, l0), (0, s0), (2, s1)] ds m Q) := P_nx k163_116 rfl
set_option maxRecDepth 20000 in
theorem k163_117 : mjCode 163 117 = some (.getfield 222, 3, 7, 45) := by decide +kernel
theorem p163_117 {s0 s1 s2 : Int} {q0 q1 : MV} {ds : Ds} {m : Mm} {Q : Ds → Mm → List MV → Prop} : WP 163 117 [q0, q1] [(2, s0), (0, s1), (2, s2)] ds m Q = ((dk ds s0 = 7 ∧ WP 163 120 [q0, q1] [(0, m s0 45), (0, s1), (2, s2)] ds m Q)) := P_gd k163_117 rfl
set_option maxRecDepth 20000 in
theorem k163_120 : mjCode 163 120 = some (.imul, 1, 0, 0) := by decide +kernel
theorem p163_120 {s0 s1 s2 : Int} {q0 q1 : MV} {ds : Ds} {m : Mm} {Q : Ds → Mm → List MV → Prop} : WP 163 120 [q0, q1] [(0, s0), (0, s1), (2, s2)] ds m Q = (WP 163 121 [q0, q1] [(0, w32 (s1 * s0)), (2, s2)] ds m Q) := P_nx k163_120 rfl
set_option maxRecDepth 20000 in
theorem k163_121 : mjCode 163 121 = some (.iload_n 1, 1, 0, 0) := by decide +kernel
theorem p163_121 {l1 s0 s1 : Int} {q0 : MV} {ds : Ds} {m : Mm} {Q : Ds → Mm → List MV → Prop} : WP 163 121 [q0, (0, l1)] [(0, s0), (2, s1)] ds m Q = (WP 163 122 [q0, (0, l1)] [(0, l1), (0, s0), (2, s1)] ds m Q) := P_nx k163_121 rfl
set_option maxRecDepth 20000 in
theorem k163_122 : mjCode 163 122 = some (.iadd, 1, 0, 0) := by decide +kernel
theorem p163_122 {s0 s1 s2 : Int} {q0 q1 : MV} {ds : Ds} {m : Mm} {Q : Ds → Mm → List MV → Prop} : WP 163 122 [q0, q1] [(0, s0), (0, s1), (2, s2)] ds m Q = (WP 163 123 [q0, q1] [(0, w32 (s1 + s0)), (2, s2)] ds m Q) := P_nx k163_122 rfl
set_option maxRecDepth 20000 in
theorem k163_123 : mjCode 163 123 = some (.iconst 0, 1, 0, 0) := by decide +kernel
theorem p163_123 {s0 s1 : Int} {q0 q1 : MV} {ds : Ds} {m : Mm} {Q : Ds → Mm → List MV → Prop} : WP 163 123 [q0, q1] [(0, s0), (2, s1)] ds m Q = (WP 163 124 [q0, q1] [(0, 0), (0, s0), (2, s1)] ds m Q) := P_nx k163_123 rfl
set_option maxRecDepth 20000 in
theorem k163_124 : mjCode 163 124 = some (.iastore, 1, 0, 0) := by decide +kernel
theorem p163_124 {s0 s1 s2 : Int} {q0 q1 : MV} {ds : Ds} {m : Mm} {Q : Ds → Mm → List MV → Prop} : WP 163 124 [q0, q1] [(0, s0), (0, s1), (2, s2)] ds m Q = ((dk ds s2 = 10 ∧ 0 ≤ s1 ∧ s1 < dl ds s2 ∧ WP 163 125 [q0, q1] [] ds (up m s2 s1 s0) Q)) := P_s3 k163_124 rfl
set_option maxRecDepth 20000 in
theorem k163_125 : mjCode 163 125 = some (.aload_n 0, 1, 0, 0) := by decide +kernel
theorem p163_125 {l0 : Int} {q1 : MV} {ds : Ds} {m : Mm} {Q : Ds → Mm → List MV → Prop} : WP 163 125 [(2, l0), q1] [] ds m Q = (WP 163 126 [(2, l0), q1] [(2, l0)] ds m Q) := P_nx k163_125 rfl
set_option maxRecDepth 20000 in
theorem k163_126 : mjCode 163 126 = some (.getfield 117, 3, 7, 41) := by decide +kernel
theorem p163_126 {s0 : Int} {q0 q1 : MV} {ds : Ds} {m : Mm} {Q : Ds → Mm → List MV → Prop} : WP 163 126 [q0, q1] [(2, s0)] ds m Q = ((dk ds s0 = 7 ∧ WP 163 129 [q0, q1] [(2, m s0 41)] ds m Q)) := P_gd k163_126 rfl
set_option maxRecDepth 20000 in
theorem k163_129 : mjCode 163 129 = some (.bipush 96, 2, 0, 0) := by decide +kernel
theorem p163_129 {s0 : Int} {q0 q1 : MV} {ds : Ds} {m : Mm} {Q : Ds → Mm → List MV → Prop} : WP 163 129 [q0, q1] [(2, s0)] ds m Q = (WP 163 131 [q0, q1] [(0, 96), (2, s0)] ds m Q) := P_nx k163_129 rfl
set_option maxRecDepth 20000 in
theorem k163_131 : mjCode 163 131 = some (.aload_n 0, 1, 0, 0) := by decide +kernel
theorem p163_131 {l0 s0 s1 : Int} {q1 : MV} {ds : Ds} {m : Mm} {Q : Ds → Mm → List MV → Prop} : WP 163 131 [(2, l0), q1] [(0, s0), (2, s1)] ds m Q = (WP 163 132 [(2, l0), q1] [(2, l0), (0, s0), (2, s1)] ds m Q) := P_nx k163_131 rfl
set_option maxRecDepth 20000 in
theorem k163_132 : mjCode 163 132 = some (.getfield 222, 3, 7, 45) := by decide +kernel
theorem p163_132 {s0 s1 s2 : Int} {q0 q1 : MV} {ds : Ds} {m : Mm} {Q : Ds → Mm → List MV → Prop} : WP 163 132 [q0, q1] [(2, s0), (0, s1), (2, s2)] ds m Q = ((dk ds s0 = 7 ∧ WP 163 135 [q0, q1] [(0, m s0 45), (0, s1), (2, s2)] ds m Q)) := P_gd k163_132 rfl
set_option maxRecDepth 20000 in
theorem k163_135 : mjCode 163 135 = some (.imul, 1, 0, 0) := by decide +kernel
theorem p163_135 {s0 s1 s2 : Int} {q0 q1 : MV} {ds : Ds} {m : Mm} {Q : Ds → Mm → List MV → Prop} : WP 163 135 [q0, q1] [(0, s0), (0, s1), (2, s2)] ds m Q = (WP 163 136 [q0, q1] [(0, w32 (s1 * s0)), (2, s2)] ds m Q) := P_nx k163_135 rfl
set_option maxRecDepth 20000 in
theorem k163_136 : mjCode 163 136 = some (.iload_n 1, 1, 0, 0) := by decide +kernel
theorem p163_136 {l1 s0 s1 : Int} {q0 : MV} {ds : Ds} {m : Mm} {Q : Ds → Mm → List MV → Prop} : WP 163 136 [q0, (0, l1)] [(0, s0), (2, s1)] ds m Q = (WP 163 137 [q0, (0, l1)] [(0, l1), (0, s0), (2, s1)] ds m Q) := P_nx k163_136 rfl
set_option maxRecDepth 20000 in
theorem k163_137 : mjCode 163 137 = some (.iadd, 1, 0, 0) := by decide +kernel
theorem p163_137 {s0 s1 s2 : Int} {q0 q1 : MV} {ds : Ds} {m : Mm} {Q : Ds → Mm → List MV → Prop} : WP 163 137 [q0, q1] [(0, s0), (0, s1), (2, s2)] ds m Q = (WP 163 138 [q0, q1] [(0, w32 (s1 + s0)), (2, s2)] ds m Q) := P_nx k163_137 rfl
set_option maxRecDepth 20000 in
theorem k163_138 : mjCode 163 138 = some (.iconst 0, 1, 0, 0) := by decide +kernel
theorem p163_138 {s0 s1 : Int} {q0 q1 : MV} {ds : Ds} {m : Mm} {Q : Ds → Mm → List MV → Prop} : WP 163 138 [q0, q1] [(0, s0), (2, s1)] ds m Q = (WP 163 139 [q0, q1] [(0, 0), (0, s0), (2, s1)] ds m Q) := P_nx k163_138 rfl
set_option maxRecDepth 20000 in
theorem k163_139 : mjCode 163 139 = some (.iastore, 1, 0, 0) := by decide +kernel
theorem p163_139 {s0 s1 s2 : Int} {q0 q1 : MV} {ds : Ds} {m : Mm} {Q : Ds → Mm → List MV → Prop} : WP 163 139 [q0, q1] [(0, s0), (0, s1), (2, s2)] ds m Q = ((dk ds s2 = 10 ∧ 0 ≤ s1 ∧ s1 < dl ds s2 ∧ WP 163 140 [q0, q1] [] ds (up m s2 s1 s0) Q)) := P_s3 k163_139 rfl
set_option maxRecDepth 20000 in
theorem k163_140 : mjCode 163 140 = some (.aload_n 0, 1, 0, 0) := by decide +kernel
theorem p163_140 {l0 : Int} {q1 : MV} {ds : Ds} {m : Mm} {Q : Ds → Mm → List MV → Prop} : WP 163 140 [(2, l0), q1] [] ds m Q = (WP 163 141 [(2, l0), q1] [(2, l0)] ds m Q) := P_nx k163_140 rfl
set_option maxRecDepth 20000 in
theorem k163_141 : mjCode 163 141 = some (.getfield 126, 3, 7, 44) := by decide +kernel
theorem p163_141 {s0 : Int} {q0 q1 : MV} {ds : Ds} {m : Mm} {Q : Ds → Mm → List MV → Prop} : WP 163 141 [q0, q1] [(2, s0)] ds m Q = ((dk ds s0 = 7 ∧ WP 163 144 [q0, q1] [(2, m s0 44)] ds m Q)) := P_gd k163_141 rfl
set_option maxRecDepth 20000 in
theorem k163_144 : mjCode 163 144 = some (.bipush 96, 2, 0, 0) := by decide +kernel
theorem p163_144 {s0 : Int} {q0 q1 : MV} {ds : Ds} {m : Mm} {Q : Ds → Mm → List MV → Prop} : WP 163 144 [q0, q1] [(2, s0)] ds m Q = (WP 163 146 [q0, q1] [(0, 96), (2, s0)] ds m Q) := P_nx k163_144 rfl
set_option maxRecDepth 20000 in
theorem k163_146 : mjCode 163 146 = some (.aload_n 0, 1, 0, 0) := by decide +kernel
theorem p163_146 {l0 s0 s1 : Int} {q1 : MV} {ds : Ds} {m : Mm} {Q : Ds → Mm → List MV → Prop} : WP 163 146 [(2, l0), q1] [(0, s0), (2, s1)] ds m Q = (WP 163 147 [(2, l0), q1] [(2, l0), (0, s0), (2, s1)] ds m Q) := P_nx k163_146 rfl
set_option maxRecDepth 20000 in
theorem k163_147 : mjCode 163 147 = some (.getfield 222, 3, 7, 45) := by decide +kernel
theorem p163_147 {s0 s1 s2 : Int} {q0 q1 : MV} {ds : Ds} {m : Mm} {Q : Ds → Mm → List MV → Prop} : WP 163 147 [q0, q1] [(2, s0), (0, s1), (2, s2)] ds m Q = ((dk ds s0 = 7 ∧ WP 163 150 [q0, q1] [(0, m s0 45), (0, s1), (2, s2)] ds m Q)) := P_gd k163_147 rfl
set_option maxRecDepth 20000 in
theorem k163_150 : mjCode 163 150 = some (.imul, 1, 0, 0) := by decide +kernel
theorem p163_150 {s0 s1 s2 : Int} {q0 q1 : MV} {ds : Ds} {m : Mm} {Q : Ds → Mm → List MV → Prop} : WP 163 150 [q0, q1] [(0, s0), (0, s1), (2, s2)] ds m Q = (WP 163 151 [q0, q1] [(0, w32 (s1 * s0)), (2, s2)] ds m Q) := P_nx k163_150 rfl
set_option maxRecDepth 20000 in
theorem k163_151 : mjCode 163 151 = some (.iload_n 1, 1, 0, 0) := by decide +kernel
theorem p163_151 {l1 s0 s1 : Int} {q0 : MV} {ds : Ds} {m : Mm} {Q : Ds → Mm → List MV → Prop} : WP 163 151 [q0, (0, l1)] [(0, s0), (2, s1)] ds m Q = (WP 163 152 [q0, (0, l1)] [(0, l1), (0, s0), (2, s1)] ds m Q) := P_nx k163_151 rfl
set_option maxRecDepth 20000 in
theorem k163_152 : mjCode 163 152 = some (.iadd, 1, 0, 0) := by decide +kernel
theorem p163_152 {s0 s1 s2 : Int} {q0 q1 : MV} {ds : Ds} {m : Mm} {Q : Ds → Mm → List MV → Prop} : WP 163 152 [q0, q1] [(0, s0), (0, s1), (2, s2)] ds m Q = (WP 163 153 [q0, q1] [(0, w32 (s1 + s0)), (2, s2)] ds m Q) := P_nx k163_152 rfl
set_option maxRecDepth 20000 in
theorem k163_153 : mjCode 163 153 = some (.iconst 0, 1, 0, 0) := by decide +kernel
theorem p163_153 {s0 s1 : Int} {q0 q1 : MV} {ds : Ds} {m : Mm} {Q : Ds → Mm → List MV → Prop} : WP 163 153 [q0, q1] [(0, s0), (2, s1)] ds m Q = (WP 163 154 [q0, q1] [(0, 0), (0, s0), (2, s1)] ds m Q) := P_nx k163_153 rfl
set_option maxRecDepth 20000 in
theorem k163_154 : mjCode 163 154 = some (.bastore, 1, 0, 0) := by decide +kernel
theorem p163_154 {s0 s1 s2 : Int} {q0 q1 : MV} {ds : Ds} {m : Mm} {Q : Ds → Mm → List MV → Prop} : WP 163 154 [q0, q1] [(0, s0), (0, s1), (2, s2)] ds m Q = (((s0 = 0 ∨ s0 = 1) ∧ dk ds s2 = 11 ∧ 0 ≤ s1 ∧ s1 < dl ds s2 ∧ WP 163 155 [q0, q1] [] ds (up m s2 s1 s0) Q)) := P_s4 k163_154 rfl
set_option maxRecDepth 20000 in
theorem k163_155 : mjCode 163 155 = some (.aload_n 0, 1, 0, 0) := by decide +kernel
theorem p163_155 {l0 : Int} {q1 : MV} {ds : Ds} {m : Mm} {Q : Ds → Mm → List MV → Prop} : WP 163 155 [(2, l0), q1] [] ds m Q = (WP 163 156 [(2, l0), q1] [(2, l0)] ds m Q) := P_nx k163_155 rfl
set_option maxRecDepth 20000 in
theorem k163_156 : mjCode 163 156 = some (.getfield 25, 3, 7, 5) := by decide +kernel
theorem p163_156 {s0 : Int} {q0 q1 : MV} {ds : Ds} {m : Mm} {Q : Ds → Mm → List MV → Prop} : WP 163 156 [q0, q1] [(2, s0)] ds m Q = ((dk ds s0 = 7 ∧ WP 163 159 [q0, q1] [(2, m s0 5)] ds m Q)) := P_gd k163_156 rfl
set_option maxRecDepth 20000 in
theorem k163_159 : mjCode 163 159 = some (.iload_n 1, 1, 0, 0) := by decide +kernel
theorem p163_159 {l1 s0 : Int} {q0 : MV} {ds : Ds} {m : Mm} {Q : Ds → Mm → List MV → Prop} : WP 163 159 [q0, (0, l1)] [(2, s0)] ds m Q = (WP 163 160 [q0, (0, l1)] [(0, l1), (2, s0)] ds m Q) := P_nx k163_159 rfl
set_option maxRecDepth 20000 in
theorem k163_160 : mjCode 163 160 = some (.baload, 1, 0, 0) := by decide +kernel
theorem p163_160 {s0 s1 : Int} {q0 q1 : MV} {ds : Ds} {m : Mm} {Q : Ds → Mm → List MV → Prop} : WP 163 160 [q0, q1] [(0, s0), (2, s1)] ds m Q = ((dk ds s1 = 11 ∧ 0 ≤ s0 ∧ s0 < dl ds s1 ∧ WP 163 161 [q0, q1] [(0, m s1 s0)] ds m Q)) := P_g3 k163_160 rfl
set_option maxRecDepth 20000 in
theorem k163_161 : mjCode 163 161 = some (.ifCond .eq 43, 3, 204, 0) := by decide +kernel
theorem p163_161 {s0 : Int} {q0 q1 : MV} {ds : Ds} {m : Mm} {Q : Ds → Mm → List MV → Prop} : WP 163 161 [q0, q1] [(0, s0)] ds m Q = (if s0 = 0 then WP 163 204 [q0, q1] [] ds m Q else WP 163 164 [q0, q1] [] ds m Q) := P_if k163_161 rfl
set_option maxRecDepth 20000 in
theorem k163_164 : mjCode 163 164 = some (.aload_n 0, 1, 0, 0) := by decide +kernel
theorem p163_164 {l0 : Int} {q1 : MV} {ds : Ds} {m : Mm} {Q : Ds → Mm → List MV → Prop} : WP 163 164 [(2, l0), q1] [] ds m Q = (WP 163 165 [(2, l0), q1] [(2, l0)] ds m Q) := P_nx k163_164 rfl
set_option maxRecDepth 20000 in
theorem k163_165 : mjCode 163 165 = some (.getfield 84, 3, 7, 29) := by decide +kernel
theorem p163_165 {s0 : Int} {q0 q1 : MV} {ds : Ds} {m : Mm} {Q : Ds → Mm → List MV → Prop} : WP 163 165 [q0, q1] [(2, s0)] ds m Q = ((dk ds s0 = 7 ∧ WP 163 168 [q0, q1] [(2, m s0 29)] ds m Q)) := P_gd k163_165 rfl
set_option maxRecDepth 20000 in
theorem k163_168 : mjCode 163 168 = some (.iload_n 1, 1, 0, 0) := by decide +kernel
theorem p163_168 {l1 s0 : Int} {q0 : MV} {ds : Ds} {m : Mm} {Q : Ds → Mm → List MV → Prop} : WP 163 168 [q0, (0, l1)] [(2, s0)] ds m Q = (WP 163 169 [q0, (0, l1)] [(0, l1), (2, s0)] ds m Q) := P_nx k163_168 rfl
set_option maxRecDepth 20000 in
theorem k163_169 : mjCode 163 169 = some (.aload_n 0, 1, 0, 0) := by decide +kernel
theorem p163_169 {l0 s0 s1 : Int} {q1 : MV} {ds : Ds} {m : Mm} {Q : Ds → Mm → List MV → Prop} : WP 163 169 [(2, l0), q1] [(0, s0), (2, s1)] ds m Q = (WP 163 170 [(2, l0), q1] [(2, l0), (0, s0), (2, s1)] ds m Q) := P_nx k163_169 rfl
set_option maxRecDepth 20000 in
theorem k163_170 : mjCode 163 170 = some (.getfield 245, 3, 7, 30) := by decide +kernel
theorem p163_170 {s0 s1 s2 : Int} {q0 q1 : MV} {ds : Ds} {m : Mm} {Q : Ds → Mm → List MV → Prop} : WP 163 170 [q0, q1] [(2, s0), (0, s1), (2, s2)] ds m Q = ((dk ds s0 = 7 ∧ WP 163 173 [q0, q1] [(0, m s0 30), (0, s1), (2, s2)] ds m Q)) := P_gd k163_170 rfl
set_option maxRecDepth 20000 in
theorem k163_173 : mjCode 163 173 = some (.iastore, 1, 0, 0) := by decide +kernel
theorem p163_173 {s0 s1 s2 : Int} {q0 q1 : MV} {ds : Ds} {m : Mm} {Q : Ds → Mm → List MV → Prop} : WP 163 173 [q0, q1] [(0, s0), (0, s1), (2, s2)] ds m Q = ((dk ds s2 = 10 ∧ 0 ≤ s1 ∧ s1 < dl ds s2 ∧ WP 163 174 [q0, q1] [] ds (up m s2 s1 s0) Q)) := P_s3 k163_173 rfl
set_option maxRecDepth 20000 in
theorem k163_174 : mjCode 163 174 = some (.aload_n 0, 1, 0, 0) := by decide +kernel
theorem p163_174 {l0 : Int} {q1 : MV} {ds : Ds} {m : Mm} {Q : Ds → Mm → List MV → Prop} : WP 163 174 [(2, l0), q1] [] ds m Q = (WP 163 175 [(2, l0), q1] [(2, l0)] ds m Q) := P_nx k163_174 rfl
set_option maxRecDepth 20000 in
theorem k163_175 : mjCode 163 175 = some (.getfield 87, 3, 7, 31) := by decide +kernel
theorem p163_175 {s0 : Int} {q0 q1 : MV} {ds : Ds} {m : Mm} {Q : Ds → Mm → List MV → Prop} : WP 163 175 [q0, q1] [(2, s0)] ds m Q = ((dk ds s0 = 7 ∧ WP 163 178 [q0, q1] [(2, m s0 31)] ds m Q)) := P_gd k163_175 rfl
set_option maxRecDepth 20000 in
theorem k163_178 : mjCode 163 178 = some (.aload_n 0, 1, 0, 0) := by decide +kernel
theorem p163_178 {l0 s0 : Int} {q1 : MV} {ds : Ds} {m : Mm} {Q : Ds → Mm → List MV → Prop} : WP 163 178 [(2, l0), q1] [(2, s0)] ds m Q = (WP 163 179 [(2, l0), q1] [(2, l0), (2, s0)] ds m Q) := P_nx k163_178 rfl
set_option maxRecDepth 20000 in
theorem k163_179 : mjCode 163 179 = some (.getfield 245, 3, 7, 30) := by decide +kernel
theorem p163_179 {s0 s1 : Int} {q0 q1 : MV} {ds : Ds} {m : Mm} {Q : Ds → Mm → List MV → Prop} : WP 163 179 [q0, q1] [(2, s0), (2, s1)] ds m Q = ((dk ds s0 = 7 ∧ WP 163 182 [q0, q1] [(0, m s0 30), (2, s1)] ds m Q)) := P_gd k163_179 rfl
set_option maxRecDepth 20000 in
theorem k163_182 : mjCode 163 182 = some (.iload_n 1, 1, 0, 0) := by decide +kernel
theorem p163_182 {l1 s0 s1 : Int} {q0 : MV} {ds : Ds} {m : Mm} {Q : Ds → Mm → List MV → Prop} : WP 163 182 [q0, (0, l1)] [(0, s0), (2, s1)] ds m Q = (WP 163 183 [q0, (0, l1)] [(0, l1), (0, s0), (2, s1)] ds m Q) := P_nx k163_182 rfl
set_option maxRecDepth 20000 in
theorem k163_183 : mjCode 163 183 = some (.iastore, 1, 0, 0) := by decide +kernel
theorem p163_183 {s0 s1 s2 : Int} {q0 q1 : MV} {ds : Ds} {m : Mm} {Q : Ds → Mm → List MV → Prop} : WP 163 183 [q0, q1] [(0, s0), (0, s1), (2, s2)] ds m Q = ((dk ds s2 = 10 ∧ 0 ≤ s1 ∧ s1 < dl ds s2 ∧ WP 163 184 [q0, q1] [] ds (up m s2 s1 s0) Q)) := P_s3 k163_183 rfl
set_option maxRecDepth 20000 in
theorem k163_184 : mjCode 163 184 = some (.aload_n 0, 1, 0, 0) := by decide +kernel
theorem p163_184 {l0 : Int} {q1 : MV} {ds : Ds} {m : Mm} {Q : Ds → Mm → List MV → Prop} : WP 163 184 [(2, l0), q1] [] ds m Q = (WP 163 185 [(2, l0), q1] [(2, l0)] ds m Q) := P_nx k163_184 rfl
set_option maxRecDepth 20000 in
theorem k163_185 : mjCode 163 185 = some (.getfield 90, 3, 7, 32) := by decide +kernel
theorem p163_185 {s0 : Int} {q0 q1 : MV} {ds : Ds} {m : Mm} {Q : Ds → Mm → List MV → Prop} : WP 163 185 [q0, q1] [(2, s0)] ds m Q = ((dk ds s0 = 7 ∧ WP 163 188 [q0, q1] [(2, m s0 32)] ds m Q)) := P_gd k163_185 rfl
set_option maxRecDepth 20000 in
theorem k163_188 : mjCode 163 188 = some (.aload_n 0, 1, 0, 0) := by decide +kernel
theorem p163_188 {l0 s0 : Int} {q1 : MV} {ds : Ds} {m : Mm} {Q : Ds → Mm → List MV → Prop} : WP 163 188 [(2, l0), q1] [(2, s0)] ds m Q = (WP 163 189 [(2, l0), q1] [(2, l0), (2, s0)] ds m Q) := P_nx k163_188 rfl
set_option maxRecDepth 20000 in
theorem k163_189 : mjCode 163 189 = some (.getfield 245, 3, 7, 30) := by decide +kernel
theorem p163_189 {s0 s1 : Int} {q0 q1 : MV} {ds : Ds} {m : Mm} {Q : Ds → Mm → List MV → Prop} : WP 163 189 [q0, q1] [(2, s0), (2, s1)] ds m Q = ((dk ds s0 = 7 ∧ WP 163 192 [q0, q1] [(0, m s0 30), (2, s1)] ds m Q)) := P_gd k163_189 rfl
set_option maxRecDepth 20000 in
theorem k163_192 : mjCode 163 192 = some (.iconst (-1), 1, 0, 0) := by decide +kernel
theorem p163_192 {s0 s1 : Int} {q0 q1 : MV} {ds : Ds} {m : Mm} {Q : Ds → Mm → List MV → Prop} : WP 163 192 [q0, q1] [(0, s0), (2, s1)] ds m Q = (WP 163 193 [q0, q1] [(0, (-1)), (0, s0), (2, s1)] ds m Q) := P_nx k163_192 rfl
set_option maxRecDepth 20000 in
theorem k163_193 : mjCode 163 193 = some (.iastore, 1, 0, 0) := by decide +kernel
theorem p163_193 {s0 s1 s2 : Int} {q0 q1 : MV} {ds : Ds} {m : Mm} {Q : Ds → Mm → List MV → Prop} : WP 163 193 [q0, q1] [(0, s0), (0, s1), (2, s2)] ds m Q = ((dk ds s2 = 10 ∧ 0 ≤ s1 ∧ s1 < dl ds s2 ∧ WP 163 194 [q0, q1] [] ds (up m s2 s1 s0) Q)) := P_s3 k163_193 rfl
set_option maxRecDepth 20000 in
theorem k163_194 : mjCode 163 194 = some (.aload_n 0, 1, 0, 0) := by decide +kernel
theorem p163_194 {l0 : Int} {q1 : MV} {ds : Ds} {m : Mm} {Q : Ds → Mm → List MV → Prop} : WP 163 194 [(2, l0), q1] [] ds m Q = (WP 163 195 [(2, l0), q1] [(2, l0)] ds m Q) := P_nx k163_194 rfl
set_option maxRecDepth 20000 in
theorem k163_195 : mjCode 163 195 = some (.dup, 1, 0, 0) := by decide +kernel
theorem p163_195 {s0 : Int} {q0 q1 : MV} {ds : Ds} {m : Mm} {Q : Ds → Mm → List MV → Prop} : WP 163 195 [q0, q1] [(2, s0)] ds m Q = (WP 163 196 [q0, q1] [(2, s0), (2, s0)] ds m Q) := P_nx k163_195 rfl
set_option maxRecDepth 20000 in
theorem k163_196 : mjCode 163 196 = some (.getfield 245, 3, 7, 30) := by decide +kernel
theorem p163_196 {s0 s1 : Int} {q0 q1 : MV} {ds : Ds} {m : Mm} {Q : Ds → Mm → List MV → Prop} : WP 163 196 [q0, q1] [(2, s0), (2, s1)] ds m Q = ((dk ds s0 = 7 ∧ WP 163 199 [q0, q1] [(0, m s0 30), (2, s1)] ds m Q)) := P_gd k163_196 rfl
set_option maxRecDepth 20000 in
theorem k163_199 : mjCode 163 199 = some (.iconst 1, 1, 0, 0) := by decide +kernel
theorem p163_199 {s0 s1 : Int} {q0 q1 : MV} {ds : Ds} {m : Mm} {Q : Ds → Mm → List MV → Prop} : WP 163 199 [q0, q1] [(0, s0), (2, s1)] ds m Q = (WP 163 200 [q0, q1] [(0, 1), (0, s0), (2, s1)] ds m Q) := P_nx k163_199 rfl
set_option maxRecDepth 20000 in
theorem k163_200 : mjCode 163 200 = some (.iadd, 1, 0, 0) := by decide +kernel
theorem p163_200 {s0 s1 s2 : Int} {q0 q1 : MV} {ds : Ds} {m : Mm} {Q : Ds → Mm → List MV → Prop} : WP 163 200 [q0, q1] [(0, s0), (0, s1), (2, s2)] ds m Q = (WP 163 201 [q0, q1] [(0, w32 (s1 + s0)), (2, s2)] ds m Q) := P_nx k163_200 rfl
set_option maxRecDepth 20000 in
theorem k163_201 : mjCode 163 201 = some (.putfield 245, 3, 7, 30) := by decide +kernel
theorem p163_201 {s0 s1 : Int} {q0 q1 : MV} {ds : Ds} {m : Mm} {Q : Ds → Mm → List MV → Prop} : WP 163 201 [q0, q1] [(0, s0), (2, s1)] ds m Q = ((dk ds s1 = 7 ∧ WP 163 204 [q0, q1] [] ds (up m s1 30 s0) Q)) := P_pf k163_201 rfl
set_option maxRecDepth 20000 in
theorem k163_204 : mjCode 163 204 = some (.iinc 1 1, 3, 0, 0) := by decide +kernel
theorem p163_204 {l1 : Int} {q0 : MV} {ds : Ds} {m : Mm} {Q : Ds → Mm → List MV → Prop} : WP 163 204 [q0, (0, l1)] [] ds m Q = (WP 163 207 [q0, (0, w32 (l1 + 1))] [] ds m Q) := P_nx k163_204 rfl
set_option maxRecDepth 20000 in
theorem k163_207 : mjCode 163 207 = some (.goto (-139), 3, 68, 0) := by decide +kernel
theorem p163_207 {q0 q1 : MV} {ds : Ds} {m : Mm} {Q : Ds → Mm → List MV → Prop} : WP 163 207 [q0, q1] [] ds m Q = (WP 163 68 [q0, q1] [] ds m Q) := P_nx k163_207 rfl
set_option maxRecDepth 20000 in
theorem k163_210 : mjCode 163 210 = some (.aload_n 0, 1, 0, 0) := by decide +kernel
theorem p163_210 {l0 : Int} {q1 : MV} {ds : Ds} {m : Mm} {Q : Ds → Mm → List MV → Prop} : WP 163 210 [(2, l0), q1] [] ds m Q = (WP 163 211 [(2, l0), q1] [(2, l0)] ds m Q) := P_nx k163_210 rfl
set_option maxRecDepth 20000 in
theorem k163_211 : mjCode 163 211 = some (.iconst 0, 1, 0, 0) := by decide +kernel
theorem p163_211 {s0 : Int} {q0 q1 : MV} {ds : Ds} {m : Mm} {Q : Ds → Mm → List MV → Prop} : WP 163 211 [q0, q1] [(2, s0)] ds m Q = (WP 163 212 [q0, q1] [(0, 0), (2, s0)] ds m Q) := P_nx k163_211 rfl
set_option maxRecDepth 20000 in
theorem k163_212 : mjCode 163 212 = some (.putfield 213, 3, 7, 26) := by decide +kernel
theorem p163_212 {s0 s1 : Int} {q0 q1 : MV} {ds : Ds} {m : Mm} {Q : Ds → Mm → List MV → Prop} : WP 163 212 [q0, q1] [(0, s0), (2, s1)] ds m Q = ((dk ds s1 = 7 ∧ WP 163 215 [q0, q1] [] ds (up m s1 26 s0) Q)) := P_pf k163_212 rfl
set_option maxRecDepth 20000 in
theorem k163_215 : mjCode 163 215 = some (.iconst 0, 1, 0, 0) := by decide +kernel
theorem p163_215 {q0 q1 : MV} {ds : Ds} {m : Mm} {Q : Ds → Mm → List MV → Prop} : WP 163 215 [q0, q1] [] ds m Q = (WP 163 216 [q0, q1] [(0, 0)] ds m Q) := P_nx k163_215 rfl
set_option maxRecDepth 20000 in
theorem k163_216 : mjCode 163 216 = some (.istore_n 1, 1, 0, 0) := by decide +kernel
theorem p163_216 {l0 s0 : Int} {q1 : MV} {ds : Ds} {m : Mm} {Q : Ds → Mm → List MV → Prop} : WP 163 216 [(2, l0), q1] [(0, s0)] ds m Q = (WP 163 217 [(2, l0), (0, s0)] [] ds m Q) := P_nx k163_216 rfl
set_option maxRecDepth 20000 in
theorem k163_217 : mjCode 163 217 = some (.iload_n 1, 1, 0, 0) := by decide +kernel
theorem p163_217 {l1 : Int} {q0 : MV} {ds : Ds} {m : Mm} {Q : Ds → Mm → List MV → Prop} : WP 163 217 [q0, (0, l1)] [] ds m Q = (WP 163 218 [q0, (0, l1)] [(0, l1)] ds m Q) := P_nx k163_217 rfl
set_option maxRecDepth 20000 in
theorem k163_218 : mjCode 163 218 = some (.aload_n 0, 1, 0, 0) := by decide +kernel
theorem p163_218 {l0 s0 : Int} {q1 : MV} {ds : Ds} {m : Mm} {Q : Ds → Mm → List MV → Prop} : WP 163 218 [(2, l0), q1] [(0, s0)] ds m Q = (WP 163 219 [(2, l0), q1] [(2, l0), (0, s0)] ds m Q) := P_nx k163_218 rfl
set_option maxRecDepth 20000 in
theorem k163_219 : mjCode 163 219 = some (.getfield 173, 3, 7, 6) := by decide +kernel
theorem p163_219 {s0 s1 : Int} {q0 q1 : MV} {ds : Ds} {m : Mm} {Q : Ds → Mm → List MV → Prop} : WP 163 219 [q0, q1] [(2, s0), (0, s1)] ds m Q = ((dk ds s0 = 7 ∧ WP 163 222 [q0, q1] [(0, m s0 6), (0, s1)] ds m Q)) := P_gd k163_219 rfl
set_option maxRecDepth 20000 in
theorem k163_222 : mjCode 163 222 = some (.if_icmp .ge 33, 3, 255, 0) := by decide +kernel
theorem p163_222 {s0 s1 : Int} {q0 q1 : MV} {ds : Ds} {m : Mm} {Q : Ds → Mm → List MV → Prop} : WP 163 222 [q0, q1] [(0, s0), (0, s1)] ds m Q = (if s1 < s0 then WP 163 225 [q0, q1] [] ds m Q else WP 163 255 [q0, q1] [] ds m Q) := P_if k163_222 rfl
set_option maxRecDepth 20000 in
theorem k163_225 : mjCode 163 225 = some (.aload_n 0, 1, 0, 0) := by decide +kernel
theorem p163_225 {l0 : Int} {q1 : MV} {ds : Ds} {m : Mm} {Q : Ds → Mm → List MV → Prop} : WP 163 225 [(2, l0), q1] [] ds m Q = (WP 163 226 [(2, l0), q1] [(2, l0)] ds m Q) := P_nx k163_225 rfl
set_option maxRecDepth 20000 in
theorem k163_226 : mjCode 163 226 = some (.aload_n 0, 1, 0, 0) := by decide +kernel
theorem p163_226 {l0 s0 : Int} {q1 : MV} {ds : Ds} {m : Mm} {Q : Ds → Mm → List MV → Prop} : WP 163 226 [(2, l0), q1] [(2, s0)] ds m Q = (WP 163 227 [(2, l0), q1] [(2, l0), (2, s0)] ds m Q) := P_nx k163_226 rfl
set_option maxRecDepth 20000 in
theorem k163_227 : mjCode 163 227 = some (.getfield 35, 3, 7, 9) := by decide +kernel
theorem p163_227 {s0 s1 : Int} {q0 q1 : MV} {ds : Ds} {m : Mm} {Q : Ds → Mm → List MV → Prop} : WP 163 227 [q0, q1] [(2, s0), (2, s1)] ds m Q = ((dk ds s0 = 7 ∧ WP 163 230 [q0, q1] [(2, m s0 9), (2, s1)] ds m Q)) := P_gd k163_227 rfl
set_option maxRecDepth 20000 in
theorem k163_230 : mjCode 163 230 = some (.iload_n 1, 1, 0, 0) := by decide +kernel
theorem p163_230 {l1 s0 s1 : Int} {q0 : MV} {ds : Ds} {m : Mm} {Q : Ds → Mm → List MV → Prop} : WP 163 230 [q0, (0, l1)] [(2, s0), (2, s1)] ds m Q = (WP 163 231 [q0, (0, l1)] [(0, l1), (2, s0), (2, s1)] ds m Q) := P_nx k163_230 rfl
set_option maxRecDepth 20000 in
theorem k163_231 : mjCode 163 231 = some (.iaload, 1, 0, 0) := by decide +kernel
theorem p163_231 {s0 s1 s2 : Int} {q0 q1 : MV} {ds : Ds} {m : Mm} {Q : Ds → Mm → List MV → Prop} : WP 163 231 [q0, q1] [(0, s0), (2, s1), (2, s2)] ds m Q = ((dk ds s1 = 10 ∧ 0 ≤ s0 ∧ s0 < dl ds s1 ∧ WP 163 232 [q0, q1] [(0, m s1 s0), (2, s2)] ds m Q)) := P_g3 k163_231 rfl
set_option maxRecDepth 20000 in
theorem k163_232 : mjCode 163 232 = some (.aload_n 0, 1, 0, 0) := by decide +kernel
theorem p163_232 {l0 s0 s1 : Int} {q1 : MV} {ds : Ds} {m : Mm} {Q : Ds → Mm → List MV → Prop} : WP 163 232 [(2, l0), q1] [(0, s0), (2, s1)] ds m Q = (WP 163 233 [(2, l0), q1] [(2, l0), (0, s0), (2, s1)] ds m Q) := P_nx k163_232 rfl
set_option maxRecDepth 20000 in
theorem k163_233 : mjCode 163 233 = some (.getfield 29, 3, 7, 7) := by decide +kernel
theorem p163_233 {s0 s1 s2 : Int} {q0 q1 : MV} {ds : Ds} {m : Mm} {Q : Ds → Mm → List MV → Prop} : WP 163 233 [q0, q1] [(2, s0), (0, s1), (2, s2)] ds m Q = ((dk ds s0 = 7 ∧ WP 163 236 [q0, q1] [(2, m s0 7), (0, s1), (2, s2)] ds m Q)) := P_gd k163_233 rfl
set_option maxRecDepth 20000 in
theorem k163_236 : mjCode 163 236 = some (.iload_n 1, 1, 0, 0) := by decide +kernel
theorem p163_236 {l1 s0 s1 s2 : Int} {q0 : MV} {ds : Ds} {m : Mm} {Q : Ds → Mm → List MV → Prop} : WP 163 236 [q0, (0, l1)] [(2, s0), (0, s1), (2, s2)] ds m Q = (WP 163 237 [q0, (0, l1)] [(0, l1), (2, s0), (0, s1), (2, s2)] ds m Q) := P_nx k163_236 rfl
set_option maxRecDepth 20000 in
theorem k163_237 : mjCode 163 237 = some (.iaload, 1, 0, 0) := by decide +kernel
theorem p163_237 {s0 s1 s2 s3 : Int} {q0 q1 : MV} {ds : Ds} {m : Mm} {Q : Ds → Mm → List MV → Prop} : WP 163 237 [q0, q1] [(0, s0), (2, s1), (0, s2), (2, s3)] ds m Q = ((dk ds s1 = 10 ∧ 0 ≤ s0 ∧ s0 < dl ds s1 ∧ WP 163 238 [q0, q1] [(0, m s1 s0), (0, s2), (2, s3)] ds m Q)) := P_g3 k163_237 rfl
set_option maxRecDepth 20000 in
theorem k163_238 : mjCode 163 238 = some (.aload_n 0, 1, 0, 0) := by decide +kernel
theorem p163_238 {l0 s0 s1 s2 : Int} {q1 : MV} {ds : Ds} {m : Mm} {Q : Ds → Mm → List MV → Prop} : WP 163 238 [(2, l0), q1] [(0, s0), (0, s1), (2, s2)] ds m Q = (WP 163 239 [(2, l0), q1] [(2, l0), (0, s0), (0, s1), (2, s2)] ds m Q) := P_nx k163_238 rfl
set_option maxRecDepth 20000 in
theorem k163_239 : mjCode 163 239 = some (.getfield 32, 3, 7, 8) := by decide +kernel
theorem p163_239 {s0 s1 s2 s3 : Int} {q0 q1 : MV} {ds : Ds} {m : Mm} {Q : Ds → Mm → List MV → Prop} : WP 163 239 [q0, q1] [(2, s0), (0, s1), (0, s2), (2, s3)] ds m Q = ((dk ds s0 = 7 ∧ WP 163 242 [q0, q1] [(2, m s0 8), (0, s1), (0, s2), (2, s3)] ds m Q)) := P_gd k163_239 rfl
set_option maxRecDepth 20000 in
theorem k163_242 : mjCode 163 242 = some (.iload_n 1, 1, 0, 0) := by decide +kernel
theorem p163_242 {l1 s0 s1 s2 s3 : Int} {q0 : MV} {ds : Ds} {m : Mm} {Q : Ds → Mm → List MV → Prop} : WP 163 242 [q0, (0, l1)] [(2, s0), (0, s1), (0, s2), (2, s3)] ds m Q = (WP 163 243 [q0, (0, l1)] [(0, l1), (2, s0), (0, s1), (0, s2), (2, s3)] ds m Q) := P_nx k163_242 rfl
set_option maxRecDepth 20000 in
theorem k163_243 : mjCode 163 243 = some (.iaload, 1, 0, 0) := by decide +kernel
theorem p163_243 {s0 s1 s2 s3 s4 : Int} {q0 q1 : MV} {ds : Ds} {m : Mm} {Q : Ds → Mm → List MV → Prop} : WP 163 243 [q0, q1] [(0, s0), (2, s1), (0, s2), (0, s3), (2, s4)] ds m Q = ((dk ds s1 = 10 ∧ 0 ≤ s0 ∧ s0 < dl ds s1 ∧ WP 163 244 [q0, q1] [(0, m s1 s0), (0, s2), (0, s3), (2, s4)] ds m Q)) := P_g3 k163_243 rfl
set_option maxRecDepth 20000 in
theorem k163_244 : mjCode 163 244 = some (.iconst (-1), 1, 0, 0) := by decide +kernel
theorem p163_244 {s0 s1 s2 s3 : Int} {q0 q1 : MV} {ds : Ds} {m : Mm} {Q : Ds → Mm → List MV → Prop} : WP 163 244 [q0, q1] [(0, s0), (0, s1), (0, s2), (2, s3)] ds m Q = (WP 163 245 [q0, q1] [(0, (-1)), (0, s0), (0, s1), (0, s2), (2, s3)] ds m Q) := P_nx k163_244 rfl
set_option maxRecDepth 20000 in
theorem k163_245 : mjCode 163 245 = some (.iconst 0, 1, 0, 0) := by decide +kernel
theorem p163_245 {s0 s1 s2 s3 s4 : Int} {q0 q1 : MV} {ds : Ds} {m : Mm} {Q : Ds → Mm → List MV → Prop} : WP 163 245 [q0, q1] [(0, s0), (0, s1), (0, s2), (0, s3), (2, s4)] ds m Q = (WP 163 246 [q0, q1] [(0, 0), (0, s0), (0, s1), (0, s2), (0, s3), (2, s4)] ds m Q) := P_nx k163_245 rfl
set_option maxRecDepth 20000 in
theorem k163_246 : mjCode 163 246 = some (.invokevirtual 219, 3, 156, 6) := by decide +kernel
theorem p163_246 {s0 s1 s2 s3 s4 s5 : Int} {q0 q1 : MV} {ds : Ds} {m : Mm} {Q : Ds → Mm → List MV → Prop} : WP 163 246 [q0, q1] [(0, s0), (0, s1), (0, s2), (0, s3), (0, s4), (2, s5)] ds m Q = ((dk ds s5 = 7 ∧ WP 155 0 [(2, s5), (0, s4), (0, s3), (0, s2), (0, s1), (0, s0)] [] ds m (fun d2 m2 r2 => WP 163 249 [q0, q1] (r2 ++ []) d2 m2 Q))) := P_cv k163_246 mx155 mo155 rfl rfl rfl rfl rfl rfl rfl rfl
set_option maxRecDepth 20000 in
theorem k163_249 : mjCode 163 249 = some (.iinc 1 1, 3, 0, 0) := by decide +kernel
theorem p163_249 {l1 : Int} {q0 : MV} {ds : Ds} {m : Mm} {Q : Ds → Mm → List MV → Prop} : WP 163 249 [q0, (0, l1)] [] ds m Q = (WP 163 252 [q0, (0, w32 (l1 + 1))] [] ds m Q) := P_nx k163_249 rfl
set_option maxRecDepth 20000 in
theorem k163_252 : mjCode 163 252 = some (.goto (-35), 3, 217, 0) := by decide +kernel
theorem p163_252 {q0 q1 : MV} {ds : Ds} {m : Mm} {Q : Ds → Mm → List MV → Prop} : WP 163 252 [q0, q1] [] ds m Q = (WP 163 217 [q0, q1] [] ds m Q) := P_nx k163_252 rfl
set_option maxRecDepth 20000 in
theorem k163_255 : mjCode 163 255 = some (.return_, 1, 0, 0) := by decide +kernel
theorem p163_255 {q0 q1 : MV} {ds : Ds} {m : Mm} {Q : Ds → Mm → List MV → Prop} : WP 163 255 [q0, q1] [] ds m Q = (Q ds m []) := P_rv k163_255 rk163
set_option maxRecDepth 20000 in
theorem k164_0 : mjCode 164 0 = some (.aload_n 0, 1, 0, 0) := by decide +kernel
theorem p164_0 {l0 : Int} {ds : Ds} {m : Mm} {Q : Ds → Mm → List MV → Prop} : WP 164 0 [(2, l0)] [] ds m Q = (WP 164 1 [(2, l0)] [(2, l0)] ds m Q) := P_nx k164_0 rfl
set_option maxRecDepth 20000 in
theorem k164_1 : mjCode 164 1 = some (.getfield 102, 3, 7, 36) := by decide +kernel
theorem p164_1 {s0 : Int} {q0 : MV} {ds : Ds} {m : Mm} {Q : Ds → Mm → List MV → Prop} : WP 164 1 [q0] [(2, s0)] ds m Q = ((dk ds s0 = 7 ∧ WP 164 4 [q0] [(2, m s0 36)] ds m Q)) := P_gd k164_1 rfl
set_option maxRecDepth 20000 in
theorem k164_4 : mjCode 164 4 = some (.bipush 6, 2, 0, 0) := by decide +kernel
theorem p164_4 {s0 : Int} {q0 : MV} {ds : Ds} {m : Mm} {Q : Ds → Mm → List MV → Prop} : WP 164 4 [q0] [(2, s0)] ds m Q = (WP 164 6 [q0] [(0, 6), (2, s0)] ds m Q) := P_nx k164_4 rfl
set_option maxRecDepth 20000 in
theorem k164_6 : mjCode 164 6 = some (.aload_n 0, 1, 0, 0) := by decide +kernel
theorem p164_6 {l0 s0 s1 : Int} {ds : Ds} {m : Mm} {Q : Ds → Mm → List MV → Prop} : WP 164 6 [(2, l0)] [(0, s0), (2, s1)] ds m Q = (WP 164 7 [(2, l0)] [(2, l0), (0, s0), (2, s1)] ds m Q) := P_nx k164_6 rfl
set_option maxRecDepth 20000 in
theorem k164_7 : mjCode 164 7 = some (.getfield 222, 3, 7, 45) := by decide +kernel
theorem p164_7 {s0 s1 s2 : Int} {q0 : MV} {ds : Ds} {m : Mm} {Q : Ds → Mm → List MV → Prop} : WP 164 7 [q0] [(2, s0), (0, s1), (2, s2)] ds m Q = ((dk ds s0 = 7 ∧ WP 164 10 [q0] [(0, m s0 45), (0, s1), (2, s2)] ds m Q)) := P_gd k164_7 rfl
set_option maxRecDepth 20000 in
theorem k164_10 : mjCode 164 10 = some (.imul, 1, 0, 0) := by decide +kernel
theorem p164_10 {s0 s1 s2 : Int} {q0 : MV} {ds : Ds} {m : Mm} {Q : Ds → Mm → List MV → Prop} : WP 164 10 [q0] [(0, s0), (0, s1), (2, s2)] ds m Q = (WP 164 11 [q0] [(0, w32 (s1 * s0)), (2, s2)] ds m Q) := P_nx k164_10 rfl
set_option maxRecDepth 20000 in
theorem k164_11 : mjCode 164 11 = some (.iconst 2, 1, 0, 0) := by decide +kernel
theorem p164_11 {s0 s1 : Int} {q0 : MV} {ds : Ds} {m : Mm} {Q : Ds → Mm → List MV → Prop} : WP 164 11 [q0] [(0, s0), (2, s1)] ds m Q = (WP 164 12 [q0] [(0, 2), (0, s0), (2, s1)] ds m Q) := P_nx k164_11 rfl
set_option maxRecDepth 20000 in
theorem k164_12 : mjCode 164 12 = some (.iadd, 1, 0, 0) := by decide +kernel
theorem p164_12 {s0 s1 s2 : Int} {q0 : MV} {ds : Ds} {m : Mm} {Q : Ds → Mm → List MV → Prop} : WP 164 12 [q0] [(0, s0), (0, s1), (2, s2)] ds m Q = (WP 164 13 [q0] [(0, w32 (s1 + s0)), (2, s2)] ds m Q) := P_nx k164_12 rfl
set_option maxRecDepth 20000 in
theorem k164_13 : mjCode 164 13 = some (.iaload, 1, 0, 0) := by decide +kernel
theorem p164_13 {s0 s1 : Int} {q0 : MV} {ds : Ds} {m : Mm} {Q : Ds → Mm → List MV → Prop} : WP 164 13 [q0] [(0, s0), (2, s1)] ds m Q = ((dk ds s1 = 10 ∧ 0 ≤ s0 ∧ s0 < dl ds s1 ∧ WP 164 14 [q0] [(0, m s1 s0)] ds m Q)) := P_g3 k164_13 rfl
set_option maxRecDepth 20000 in
theorem k164_14 : mjCode 164 14 = some (.sipush 1000, 3, 0, 0) := by decide +kernel
theorem p164_14 {s0 : Int} {q0 : MV} {ds : Ds} {m : Mm} {Q : Ds → Mm → List MV → Prop} : WP 164 14 [q0] [(0, s0)] ds m Q = (WP 164 17 [q0] [(0, 1000), (0, s0)] ds m Q) := P_nx k164_14 rfl
set_option maxRecDepth 20000 in
theorem k164_17 : mjCode 164 17 = some (.if_icmp .ne 7, 3, 24, 0) := by decide +kernel
theorem p164_17 {s0 s1 : Int} {q0 : MV} {ds : Ds} {m : Mm} {Q : Ds → Mm → List MV → Prop} : WP 164 17 [q0] [(0, s0), (0, s1)] ds m Q = (if s1 = s0 then WP 164 20 [q0] [] ds m Q else WP 164 24 [q0] [] ds m Q) := P_if k164_17 rfl
set_option maxRecDepth 20000 in
theorem k164_20 : mjCode 164 20 = some (.iconst 1, 1, 0, 0) := by decide +kernel
theorem p164_20 {q0 : MV} {ds : Ds} {m : Mm} {Q : Ds → Mm → List MV → Prop} : WP 164 20 [q0] [] ds m Q = (WP 164 21 [q0] [(0, 1)] ds m Q) := P_nx k164_20 rfl
set_option maxRecDepth 20000 in
theorem k164_21 : mjCode 164 21 = some (.goto 4, 3, 25, 0) := by decide +kernel
theorem p164_21 {s0 : Int} {q0 : MV} {ds : Ds} {m : Mm} {Q : Ds → Mm → List MV → Prop} : WP 164 21 [q0] [(0, s0)] ds m Q = (WP 164 25 [q0] [(0, s0)] ds m Q) := P_nx k164_21 rfl
set_option maxRecDepth 20000 in
theorem k164_24 : mjCode 164 24 = some (.iconst 0, 1, 0, 0) := by decide +kernel
theorem p164_24 {q0 : MV} {ds : Ds} {m : Mm} {Q : Ds → Mm → List MV → Prop} : WP 164 24 [q0] [] ds m Q = (WP 164 25 [q0] [(0, 0)] ds m Q) := P_nx k164_24 rfl
set_option maxRecDepth 20000 in
theorem k164_25 : mjCode 164 25 = some (.ireturn, 1, 0, 0) := by decide +kernel
theorem p164_25 {s0 : Int} {q0 : MV} {ds : Ds} {m : Mm} {Q : Ds → Mm → List MV → Prop} : WP 164 25 [q0] [(0, s0)] ds m Q = (((s0 = 0 ∨ s0 = 1) ∧ Q ds m [(0, s0)])) := P_rb k164_25 rk164
set_option maxRecDepth 20000 in
theorem k165_0 : mjCode 165 0 = some (.aload_n 0, 1, 0, 0) := by decide +kernel
theorem p165_0 {l0 : Int} {q1 q2 q3 q4 : MV} {ds : Ds} {m : Mm} {Q : Ds → Mm → List MV → Prop} : WP 165 0 [(2, l0), q1, q2, q3, q4] [] ds m Q = (WP 165 1 [(2, l0), q1, q2, q3, q4] [(2, l0)] ds m Q) := P_nx k165_0 rfl
set_option maxRecDepth 20000 in
theorem k165_1 : mjCode 165 1 = some (.getfield 57, 3, 7, 17) := by decide +kernel
theorem p165_1 {s0 : Int} {q0 q1 q2 q3 q4 : MV} {ds : Ds} {m : Mm} {Q : Ds → Mm → List MV → Prop} : WP 165 1 [q0, q1, q2, q3, q4] [(2, s0)] ds m Q = ((dk ds s0 = 7 ∧ WP 165 4 [q0, q1, q2, q3, q4] [(2, m s0 17)] ds m Q)) := P_gd k165_1 rfl
set_option maxRecDepth 20000 in
theorem k165_4 : mjCode 165 4 = some (.iload_n 1, 1, 0, 0) := by decide +kernel
theorem p165_4 {l1 s0 : Int} {q0 q2 q3 q4 : MV} {ds : Ds} {m : Mm} {Q : Ds → Mm → List MV → Prop} : WP 165 4 [q0, (0, l1), q2, q3, q4] [(2, s0)] ds m Q = (WP 165 5 [q0, (0, l1), q2, q3, q4] [(0, l1), (2, s0)] ds m Q) := P_nx k165_4 rfl
set_option maxRecDepth 20000 in
theorem k165_5 : mjCode 165 5 = some (.iaload, 1, 0, 0) := by decide +kernel
theorem p165_5 {s0 s1 : Int} {q0 q1 q2 q3 q4 : MV} {ds : Ds} {m : Mm} {Q : Ds → Mm → List MV → Prop} : WP 165 5 [q0, q1, q2, q3, q4] [(0, s0), (2, s1)] ds m Q = ((dk ds s1 = 10 ∧ 0 ≤ s0 ∧ s0 < dl ds s1 ∧ WP 165 6 [q0, q1, q2, q3, q4] [(0, m s1 s0)] ds m Q)) := P_g3 k165_5 rfl
set_option maxRecDepth 20000 in
theorem k165_6 : mjCode 165 6 = some (.istore_n 2, 1, 0, 0) := by decide +kernel
theorem p165_6 {l1 s0 : Int} {q0 q2 q3 q4 : MV} {ds : Ds} {m : Mm} {Q : Ds → Mm → List MV → Prop} : WP 165 6 [q0, (0, l1), q2, q3, q4] [(0, s0)] ds m Q = (WP 165 7 [q0, (0, l1), (0, s0), q3, q4] [] ds m Q) := P_nx k165_6 rfl
set_option maxRecDepth 20000 in
theorem k165_7 : mjCode 165 7 = some (.aload_n 0, 1, 0, 0) := by decide +kernel
theorem p165_7 {l0 : Int} {q1 q2 q3 q4 : MV} {ds : Ds} {m : Mm} {Q : Ds → Mm → List MV → Prop} : WP 165 7 [(2, l0), q1, q2, q3, q4] [] ds m Q = (WP 165 8 [(2, l0), q1, q2, q3, q4] [(2, l0)] ds m Q) := P_nx k165_7 rfl
set_option maxRecDepth 20000 in
theorem k165_8 : mjCode 165 8 = some (.getfield 60, 3, 7, 18) := by decide +kernel
theorem p165_8 {s0 : Int} {q0 q1 q2 q3 q4 : MV} {ds : Ds} {m : Mm} {Q : Ds → Mm → List MV → Prop} : WP 165 8 [q0, q1, q2, q3, q4] [(2, s0)] ds m Q = ((dk ds s0 = 7 ∧ WP 165 11 [q0, q1, q2, q3, q4] [(2, m s0 18)] ds m Q)) := P_gd k165_8 rfl
set_option maxRecDepth 20000 in
theorem k165_11 : mjCode 165 11 = some (.iload_n 1, 1, 0, 0) := by decide +kernel
theorem p165_11 {l1 s0 : Int} {q0 q2 q3 q4 : MV} {ds : Ds} {m : Mm} {Q : Ds → Mm → List MV → Prop} : WP 165 11 [q0, (0, l1), q2, q3, q4] [(2, s0)] ds m Q = (WP 165 12 [q0, (0, l1), q2, q3, q4] [(0, l1), (2, s0)] ds m Q) := P_nx k165_11 rfl
set_option maxRecDepth 20000 in
theorem k165_12 : mjCode 165 12 = some (.iaload, 1, 0, 0) := by decide +kernel
theorem p165_12 {s0 s1 : Int} {q0 q1 q2 q3 q4 : MV} {ds : Ds} {m : Mm} {Q : Ds → Mm → List MV → Prop} : WP 165 12 [q0, q1, q2, q3, q4] [(0, s0), (2, s1)] ds m Q = ((dk ds s1 = 10 ∧ 0 ≤ s0 ∧ s0 < dl ds s1 ∧ WP 165 13 [q0, q1, q2, q3, q4] [(0, m s1 s0)] ds m Q)) := P_g3 k165_12 rfl
set_option maxRecDepth 20000 in
theorem k165_13 : mjCode 165 13 = some (.istore_n 3, 1, 0, 0) := by decide +kernel
theorem p165_13 {l2 s0 : Int} {q0 q1 q3 q4 : MV} {ds : Ds} {m : Mm} {Q : Ds → Mm → List MV → Prop} : WP 165 13 [q0, q1, (0, l2), q3, q4] [(0, s0)] ds m Q = (WP 165 14 [q0, q1, (0, l2), (0, s0), q4] [] ds m Q) := P_nx k165_13 rfl
set_option maxRecDepth 20000 in
theorem k165_14 : mjCode 165 14 = some (.aload_n 0, 1, 0, 0) := by decide +kernel
theorem p165_14 {l0 : Int} {q1 q2 q3 q4 : MV} {ds : Ds} {m : Mm} {Q : Ds → Mm → List MV → Prop} : WP 165 14 [(2, l0), q1, q2, q3, q4] [] ds m Q = (WP 165 15 [(2, l0), q1, q2, q3, q4] [(2, l0)] ds m Q) := P_nx k165_14 rfl
set_option maxRecDepth 20000 in
theorem k165_15 : mjCode 165 15 = some (.getfield 66, 3, 7, 20) := by decide +kernel
theorem p165_15 {s0 : Int} {q0 q1 q2 q3 q4 : MV} {ds : Ds} {m : Mm} {Q : Ds → Mm → List MV → Prop} : WP 165 15 [q0, q1, q2, q3, q4] [(2, s0)] ds m Q = ((dk ds s0 = 7 ∧ WP 165 18 [q0, q1, q2, q3, q4] [(2, m s0 20)] ds m Q)) := P_gd k165_15 rfl
set_option maxRecDepth 20000 in
theorem k165_18 : mjCode 165 18 = some (.iload_n 1, 1, 0, 0) := by decide +kernel
theorem p165_18 {l1 s0 : Int} {q0 q2 q3 q4 : MV} {ds : Ds} {m : Mm} {Q : Ds → Mm → List MV → Prop} : WP 165 18 [q0, (0, l1), q2, q3, q4] [(2, s0)] ds m Q = (WP 165 19 [q0, (0, l1), q2, q3, q4] [(0, l1), (2, s0)] ds m Q) := P_nx k165_18 rfl
set_option maxRecDepth 20000 in
theorem k165_19 : mjCode 165 19 = some (.baload, 1, 0, 0) := by decide +kernel
theorem p165_19 {s0 s1 : Int} {q0 q1 q2 q3 q4 : MV} {ds : Ds} {m : Mm} {Q : Ds → Mm → List MV → Prop} : WP 165 19 [q0, q1, q2, q3, q4] [(0, s0), (2, s1)] ds m Q = ((dk ds s1 = 11 ∧ 0 ≤ s0 ∧ s0 < dl ds s1 ∧ WP 165 20 [q0, q1, q2, q3, q4] [(0, m s1 s0)] ds m Q)) := P_g3 k165_19 rfl
set_option maxRecDepth 20000 in
theorem k165_20 : mjCode 165 20 = some (.ifCond .eq 38, 3, 58, 0) := by decide +kernel
theorem p165_20 {s0 : Int} {q0 q1 q2 q3 q4 : MV} {ds : Ds} {m : Mm} {Q : Ds → Mm → List MV → Prop} : WP 165 20 [q0, q1, q2, q3, q4] [(0, s0)] ds m Q = (if s0 = 0 then WP 165 58 [q0, q1, q2, q3, q4] [] ds m Q else WP 165 23 [q0, q1, q2, q3, q4] [] ds m Q) := P_if k165_20 rfl
set_option maxRecDepth 20000 in
theorem k165_23 : mjCode 165 23 = some (.aload_n 0, 1, 0, 0) := by decide +kernel
theorem p165_23 {l0 : Int} {q1 q2 q3 q4 : MV} {ds : Ds} {m : Mm} {Q : Ds → Mm → List MV → Prop} : WP 165 23 [(2, l0), q1, q2, q3, q4] [] ds m Q = (WP 165 24 [(2, l0), q1, q2, q3, q4] [(2, l0)] ds m Q) := P_nx k165_23 rfl
set_option maxRecDepth 20000 in
theorem k165_24 : mjCode 165 24 = some (.iload_n 2, 1, 0, 0) := by decide +kernel
theorem p165_24 {l2 s0 : Int} {q0 q1 q3 q4 : MV} {ds : Ds} {m : Mm} {Q : Ds → Mm → List MV → Prop} : WP 165 24 [q0, q1, (0, l2), q3, q4] [(2, s0)] ds m Q = (WP 165 25 [q0, q1, (0, l2), q3, q4] [(0, l2), (2, s0)] ds m Q) := P_nx k165_24 rfl
set_option maxRecDepth 20000 in
theorem k165_25 : mjCode 165 25 = some (.invokevirtual 225, 3, 157, 2) := by decide +kernel
theorem p165_25 {s0 s1 : Int} {q0 q1 q2 q3 q4 : MV} {ds : Ds} {m : Mm} {Q : Ds → Mm → List MV → Prop} : WP 165 25 [q0, q1, q2, q3, q4] [(0, s0), (2, s1)] ds m Q = ((dk ds s1 = 7 ∧ WP 156 0 [(2, s1), (0, s0)] [] ds m (fun d2 m2 r2 => WP 165 28 [q0, q1, q2, q3, q4] (r2 ++ []) d2 m2 Q))) := P_cv k165_25 mx156 mo156 rfl rfl rfl rfl rfl rfl rfl rfl
set_option maxRecDepth 20000 in
theorem k165_28 : mjCode 165 28 = some (.ifCond .ne 30, 3, 58, 0) := by decide +kernel
theorem p165_28 {s0 : Int} {q0 q1 q2 q3 q4 : MV} {ds : Ds} {m : Mm} {Q : Ds → Mm → List MV → Prop} : WP 165 28 [q0, q1, q2, q3, q4] [(0, s0)] ds m Q = (if s0 = 0 then WP 165 31 [q0, q1, q2, q3, q4] [] ds m Q else WP 165 58 [q0, q1, q2, q3, q4] [] ds m Q) := P_if k165_28 rfl
set_option maxRecDepth 20000 in
theorem k165_31 : mjCode 165 31 = some (.iload_n 2, 1, 0, 0) := by decide +kernel
theorem p165_31 {l2 : Int} {q0 q1 q3 q4 : MV} {ds : Ds} {m : Mm} {Q : Ds → Mm → List MV → Prop} : WP 165 31 [q0, q1, (0, l2), q3, q4] [] ds m Q = (WP 165 32 [q0, q1, (0, l2), q3, q4] [(0, l2)] ds m Q) := P_nx k165_31 rfl
set_option maxRecDepth 20000 in
theorem k165_32 : mjCode 165 32 = some (.iload_n 3, 1, 0, 0) := by decide +kernel
theorem p165_32 {l3 s0 : Int} {q0 q1 q2 q4 : MV} {ds : Ds} {m : Mm} {Q : Ds → Mm → List MV → Prop} : WP 165 32 [q0, q1, q2, (0, l3), q4] [(0, s0)] ds m Q = (WP 165 33 [q0, q1, q2, (0, l3), q4] [(0, l3), (0, s0)] ds m Q) := P_nx k165_32 rfl
set_option maxRecDepth 20000 in
theorem k165_33 : mjCode 165 33 = some (.iconst 2, 1, 0, 0) := by decide +kernel
theorem p165_33 {s0 s1 : Int} {q0 q1 q2 q3 q4 : MV} {ds : Ds} {m : Mm} {Q : Ds → Mm → List MV → Prop} : WP 165 33 [q0, q1, q2, q3, q4] [(0, s0), (0, s1)] ds m Q = (WP 165 34 [q0, q1, q2, q3, q4] [(0, 2), (0, s0), (0, s1)] ds m Q) := P_nx k165_33 rfl
set_option maxRecDepth 20000 in
theorem k165_34 : mjCode 165 34 = some (.iadd, 1, 0, 0) := by decide +kernel
theorem p165_34 {s0 s1 s2 : Int} {q0 q1 q2 q3 q4 : MV} {ds : Ds} {m : Mm} {Q : Ds → Mm → List MV → Prop} : WP 165 34 [q0, q1, q2, q3, q4] [(0, s0), (0, s1), (0, s2)] ds m Q = (WP 165 35 [q0, q1, q2, q3, q4] [(0, w32 (s1 + s0)), (0, s2)] ds m Q) := P_nx k165_34 rfl
set_option maxRecDepth 20000 in
theorem k165_35 : mjCode 165 35 = some (.iconst 4, 1, 0, 0) := by decide +kernel
theorem p165_35 {s0 s1 : Int} {q0 q1 q2 q3 q4 : MV} {ds : Ds} {m : Mm} {Q : Ds → Mm → List MV → Prop} : WP 165 35 [q0, q1, q2, q3, q4] [(0, s0), (0, s1)] ds m Q = (WP 165 36 [q0, q1, q2, q3, q4] [(0, 4), (0, s0), (0, s1)] ds m Q) := P_nx k165_35 rfl
set_option maxRecDepth 20000 in
theorem k165_36 : mjCode 165 36 = some (.irem, 1, 0, 0) := by decide +kernel
theorem p165_36 {s0 s1 s2 : Int} {q0 q1 q2 q3 q4 : MV} {ds : Ds} {m : Mm} {Q : Ds → Mm → List MV → Prop} : WP 165 36 [q0, q1, q2, q3, q4] [(0, s0), (0, s1), (0, s2)] ds m Q = ((¬ s0 = 0 ∧ WP 165 37 [q0, q1, q2, q3, q4] [(0, jrem s1 s0), (0, s2)] ds m Q)) := P_dv k165_36 rfl
set_option maxRecDepth 20000 in
theorem k165_37 : mjCode 165 37 = some (.invokestatic 216, 3, 124, 2) := by decide +kernel
theorem p165_37 {s0 s1 : Int} {q0 q1 q2 q3 q4 : MV} {ds : Ds} {m : Mm} {Q : Ds → Mm → List MV → Prop} : WP 165 37 [q0, q1, q2, q3, q4] [(0, s0), (0, s1)] ds m Q = (WP 123 0 [(0, s1), (0, s0), (3, 0), (3, 0)] [] ds m (fun d2 m2 r2 => WP 165 40 [q0, q1, q2, q3, q4] (r2 ++ []) d2 m2 Q)) := P_cs k165_37 mx123 rfl rfl rfl rfl rfl rfl rfl
set_option maxRecDepth 20000 in
theorem k165_40 : mjCode 165 40 = some (.istore 4, 2, 0, 0) := by decide +kernel
theorem p165_40 {l3 s0 : Int} {q0 q1 q2 q4 : MV} {ds : Ds} {m : Mm} {Q : Ds → Mm → List MV → Prop} : WP 165 40 [q0, q1, q2, (0, l3), q4] [(0, s0)] ds m Q = (WP 165 42 [q0, q1, q2, (0, l3), (0, s0)] [] ds m Q) := P_nx k165_40 rfl
set_option maxRecDepth 20000 in
theorem k165_42 : mjCode 165 42 = some (.aload_n 0, 1, 0, 0) := by decide +kernel
theorem p165_42 {l0 : Int} {q1 q2 q3 q4 : MV} {ds : Ds} {m : Mm} {Q : Ds → Mm → List MV → Prop} : WP 165 42 [(2, l0), q1, q2, q3, q4] [] ds m Q = (WP 165 43 [(2, l0), q1, q2, q3, q4] [(2, l0)] ds m Q) := P_nx k165_42 rfl
set_option maxRecDepth 20000 in
theorem k165_43 : mjCode 165 43 = some (.iload 4, 2, 0, 0) := by decide +kernel
theorem p165_43 {l4 s0 : Int} {q0 q1 q2 q3 : MV} {ds : Ds} {m : Mm} {Q : Ds → Mm → List MV → Prop} : WP 165 43 [q0, q1, q2, q3, (0, l4)] [(2, s0)] ds m Q = (WP 165 45 [q0, q1, q2, q3, (0, l4)] [(0, l4), (2, s0)] ds m Q) := P_nx k165_43 rfl
set_option maxRecDepth 20000 in
theorem k165_45 : mjCode 165 45 = some (.invokevirtual 225, 3, 157, 2) := by decide +kernel
theorem p165_45 {s0 s1 : Int} {q0 q1 q2 q3 q4 : MV} {ds : Ds} {m : Mm} {Q : Ds → Mm → List MV → Prop} : WP 165 45 [q0, q1, q2, q3, q4] [(0, s0), (2, s1)] ds m Q = ((dk ds s1 = 7 ∧ WP 156 0 [(2, s1), (0, s0)] [] ds m (fun d2 m2 r2 => WP 165 48 [q0, q1, q2, q3, q4] (r2 ++ []) d2 m2 Q))) := P_cv k165_45 mx156 mo156 rfl rfl rfl rfl rfl rfl rfl rfl
set_option maxRecDepth 20000 in
theorem k165_48 : mjCode 165 48 = some (.ifCond .eq 8, 3, 56, 0) := by decide +kernel
theorem p165_48 {s0 : Int} {q0 q1 q2 q3 q4 : MV} {ds : Ds} {m : Mm} {Q : Ds → Mm → List MV → Prop} : WP 165 48 [q0, q1, q2, q3, q4] [(0, s0)] ds m Q = (if s0 = 0 then WP 165 56 [q0, q1, q2, q3, q4] [] ds m Q else WP 165 51 [q0, q1, q2, q3, q4] [] ds m Q) := P_if k165_48 rfl
set_option maxRecDepth 20000 in
theorem k165_51 : mjCode 165 51 = some (.iload 4, 2, 0, 0) := by decide +kernel
theorem p165_51 {l4 : Int} {q0 q1 q2 q3 : MV} {ds : Ds} {m : Mm} {Q : Ds → Mm → List MV → Prop} : WP 165 51 [q0, q1, q2, q3, (0, l4)] [] ds m Q = (WP 165 53 [q0, q1, q2, q3, (0, l4)] [(0, l4)] ds m Q) := P_nx k165_51 rfl
set_option maxRecDepth 20000 in
theorem k165_53 : mjCode 165 53 = some (.goto 4, 3, 57, 0) := by decide +kernel
theorem p165_53 {s0 : Int} {q0 q1 q2 q3 q4 : MV} {ds : Ds} {m : Mm} {Q : Ds → Mm → List MV → Prop} : WP 165 53 [q0, q1, q2, q3, q4] [(0, s0)] ds m Q = (WP 165 57 [q0, q1, q2, q3, q4] [(0, s0)] ds m Q) := P_nx k165_53 rfl
set_option maxRecDepth 20000 in
theorem k165_56 : mjCode 165 56 = some (.iload_n 2, 1, 0, 0) := by decide +kernel
theorem p165_56 {l2 : Int} {q0 q1 q3 q4 : MV} {ds : Ds} {m : Mm} {Q : Ds → Mm → List MV → Prop} : WP 165 56 [q0, q1, (0, l2), q3, q4] [] ds m Q = (WP 165 57 [q0, q1, (0, l2), q3, q4] [(0, l2)] ds m Q) := P_nx k165_56 rfl
set_option maxRecDepth 20000 in
theorem k165_57 : mjCode 165 57 = some (.istore_n 2, 1, 0, 0) := by decide +kernel
theorem p165_57 {l1 s0 : Int} {q0 q2 q3 q4 : MV} {ds : Ds} {m : Mm} {Q : Ds → Mm → List MV → Prop} : WP 165 57 [q0, (0, l1), q2, q3, q4] [(0, s0)] ds m Q = (WP 165 58 [q0, (0, l1), (0, s0), q3, q4] [] ds m Q) := P_nx k165_57 rfl
set_option maxRecDepth 20000 in
theorem k165_58 : mjCode 165 58 = some (.aload_n 0, 1, 0, 0) := by decide +kernel
theorem p165_58 {l0 : Int} {q1 q2 q3 q4 : MV} {ds : Ds} {m : Mm} {Q : Ds → Mm → List MV → Prop} : WP 165 58 [(2, l0), q1, q2, q3, q4] [] ds m Q = (WP 165 59 [(2, l0), q1, q2, q3, q4] [(2, l0)] ds m Q) := P_nx k165_58 rfl
set_option maxRecDepth 20000 in
theorem k165_59 : mjCode 165 59 = some (.iload_n 2, 1, 0, 0) := by decide +kernel
theorem p165_59 {l2 s0 : Int} {q0 q1 q3 q4 : MV} {ds : Ds} {m : Mm} {Q : Ds → Mm → List MV → Prop} : WP 165 59 [q0, q1, (0, l2), q3, q4] [(2, s0)] ds m Q = (WP 165 60 [q0, q1, (0, l2), q3, q4] [(0, l2), (2, s0)] ds m Q) := P_nx k165_59 rfl
set_option maxRecDepth 20000 in
theorem k165_60 : mjCode 165 60 = some (.iload_n 3, 1, 0, 0) := by decide +kernel
theorem p165_60 {l3 s0 s1 : Int} {q0 q1 q2 q4 : MV} {ds : Ds} {m : Mm} {Q : Ds → Mm → List MV → Prop} : WP 165 60 [q0, q1, q2, (0, l3), q4] [(0, s0), (2, s1)] ds m Q = (WP 165 61 [q0, q1, q2, (0, l3), q4] [(0, l3), (0, s0), (2, s1)] ds m Q) := P_nx k165_60 rfl
set_option maxRecDepth 20000 in
theorem k165_61 : mjCode 165 61 = some (.aload_n 0, 1, 0, 0) := by decide +kernel
theorem p165_61 {l0 s0 s1 s2 : Int} {q1 q2 q3 q4 : MV} {ds : Ds} {m : Mm} {Q : Ds → Mm → List MV → Prop} : WP 165 61 [(2, l0), q1, q2, q3, q4] [(0, s0), (0, s1), (2, s2)] ds m Q = (WP 165 62 [(2, l0), q1, q2, q3, q4] [(2, l0), (0, s0), (0, s1), (2, s2)] ds m Q) := P_nx k165_61 rfl
set_option maxRecDepth 20000 in
theorem k165_62 : mjCode 165 62 = some (.getfield 63, 3, 7, 19) := by decide +kernel
theorem p165_62 {s0 s1 s2 s3 : Int} {q0 q1 q2 q3 q4 : MV} {ds : Ds} {m : Mm} {Q : Ds → Mm → List MV → Prop} : WP 165 62 [q0, q1, q2, q3, q4] [(2, s0), (0, s1), (0, s2), (2, s3)] ds m Q = ((dk ds s0 = 7 ∧ WP 165 65 [q0, q1, q2, q3, q4] [(2, m s0 19), (0, s1), (0, s2), (2, s3)] ds m Q)) := P_gd k165_62 rfl
set_option maxRecDepth 20000 in
theorem k165_65 : mjCode 165 65 = some (.iload_n 1, 1, 0, 0) := by decide +kernel
theorem p165_65 {l1 s0 s1 s2 s3 : Int} {q0 q2 q3 q4 : MV} {ds : Ds} {m : Mm} {Q : Ds → Mm → List MV → Prop} : WP 165 65 [q0, (0, l1), q2, q3, q4] [(2, s0), (0, s1), (0, s2), (2, s3)] ds m Q = (WP 165 66 [q0, (0, l1), q2, q3, q4] [(0, l1), (2, s0), (0, s1), (0, s2), (2, s3)] ds m Q) := P_nx k165_65 rfl
set_option maxRecDepth 20000 in
theorem k165_66 : mjCode 165 66 = some (.iaload, 1, 0, 0) := by decide +kernel
theorem p165_66 {s0 s1 s2 s3 s4 : Int} {q0 q1 q2 q3 q4 : MV} {ds : Ds} {m : Mm} {Q : Ds → Mm → List MV → Prop} : WP 165 66 [q0, q1, q2, q3, q4] [(0, s0), (2, s1), (0, s2), (0, s3), (2, s4)] ds m Q = ((dk ds s1 = 10 ∧ 0 ≤ s0 ∧ s0 < dl ds s1 ∧ WP 165 67 [q0, q1, q2, q3, q4] [(0, m s1 s0), (0, s2), (0, s3), (2, s4)] ds m Q)) := P_g3 k165_66 rfl
set_option maxRecDepth 20000 in
theorem k165_67 : mjCode 165 67 = some (.iconst 0, 1, 0, 0) := by decide +kernel
theorem p165_67 {s0 s1 s2 s3 : Int} {q0 q1 q2 q3 q4 : MV} {ds : Ds} {m : Mm} {Q : Ds → Mm → List MV → Prop} : WP 165 67 [q0, q1, q2, q3, q4] [(0, s0), (0, s1), (0, s2), (2, s3)] ds m Q = (WP 165 68 [q0, q1, q2, q3, q4] [(0, 0), (0, s0), (0, s1), (0, s2), (2, s3)] ds m Q) := P_nx k165_67 rfl
set_option maxRecDepth 20000 in
theorem k165_68 : mjCode 165 68 = some (.invokevirtual 238, 3, 159, 5) := by decide +kernel
theorem p165_68 {s0 s1 s2 s3 s4 : Int} {q0 q1 q2 q3 q4 : MV} {ds : Ds} {m : Mm} {Q : Ds → Mm → List MV → Prop} : WP 165 68 [q0, q1, q2, q3, q4] [(0, s0), (0, s1), (0, s2), (0, s3), (2, s4)] ds m Q = ((dk ds s4 = 7 ∧ WP 158 0 [(2, s4), (0, s3), (0, s2), (0, s1), (0, s0), (3, 0), (3, 0), (3, 0)] [] ds m (fun d2 m2 r2 => WP 165 71 [q0, q1, q2, q3, q4] (r2 ++ []) d2 m2 Q))) := P_cv k165_68 mx158 mo158 rfl rfl rfl rfl rfl rfl rfl rfl
set_option maxRecDepth 20000 in
theorem k165_71 : mjCode 165 71 = some (.return_, 1, 0, 0) := by decide +kernel
theorem p165_71 {q0 q1 q2 q3 q4 : MV} {ds : Ds} {m : Mm} {Q : Ds → Mm → List MV → Prop} : WP 165 71 [q0, q1, q2, q3, q4] [] ds m Q = (Q ds m []) := P_rv k165_71 rk165
set_option maxRecDepth 20000 in
theorem k166_0 : mjCode 166 0 = some (.aload_n 0, 1, 0, 0) := by decide +kernel
theorem p166_0 {l0 : Int} {q1 q2 q3 q4 : MV} {ds : Ds} {m : Mm} {Q : Ds → Mm → List MV → Prop} : WP 166 0 [(2, l0), q1, q2, q3, q4] [] ds m Q = (WP 166 1 [(2, l0), q1, q2, q3, q4] [(2, l0)] ds m Q) := P_nx k166_0 rfl
set_option maxRecDepth 20000 in
theorem k166_1 : mjCode 166 1 = some (.iload_n 1, 1, 0, 0) := by decide +kernel
theorem p166_1 {l1 s0 : Int} {q0 q2 q3 q4 : MV} {ds : Ds} {m : Mm} {Q : Ds → Mm → List MV → Prop} : WP 166 1 [q0, (0, l1), q2, q3, q4] [(2, s0)] ds m Q = (WP 166 2 [q0, (0, l1), q2, q3, q4] [(0, l1), (2, s0)] ds m Q) := P_nx k166_1 rfl
set_option maxRecDepth 20000 in
theorem k166_2 : mjCode 166 2 = some (.putfield 222, 3, 7, 45) := by decide +kernel
theorem p166_2 {s0 s1 : Int} {q0 q1 q2 q3 q4 : MV} {ds : Ds} {m : Mm} {Q : Ds → Mm → List MV → Prop} : WP 166 2 [q0, q1, q2, q3, q4] [(0, s0), (2, s1)] ds m Q = ((dk ds s1 = 7 ∧ WP 166 5 [q0, q1, q2, q3, q4] [] ds (up m s1 45 s0) Q)) := P_pf k166_2 rfl
set_option maxRecDepth 20000 in
theorem k166_5 : mjCode 166 5 = some (.aload_n 0, 1, 0, 0) := by decide +kernel
theorem p166_5 {l0 : Int} {q1 q2 q3 q4 : MV} {ds : Ds} {m : Mm} {Q : Ds → Mm → List MV → Prop} : WP 166 5 [(2, l0), q1, q2, q3, q4] [] ds m Q = (WP 166 6 [(2, l0), q1, q2, q3, q4] [(2, l0)] ds m Q) := P_nx k166_5 rfl
set_option maxRecDepth 20000 in
theorem k166_6 : mjCode 166 6 = some (.invokevirtual 248, 3, 164, 1) := by decide +kernel
theorem p166_6 {s0 : Int} {q0 q1 q2 q3 q4 : MV} {ds : Ds} {m : Mm} {Q : Ds → Mm → List MV → Prop} : WP 166 6 [q0, q1, q2, q3, q4] [(2, s0)] ds m Q = ((dk ds s0 = 7 ∧ WP 163 0 [(2, s0), (3, 0)] [] ds m (fun d2 m2 r2 => WP 166 9 [q0, q1, q2, q3, q4] (r2 ++ []) d2 m2 Q))) := P_cv k166_6 mx163 mo163 rfl rfl rfl rfl rfl rfl rfl rfl
set_option maxRecDepth 20000 in
theorem k166_9 : mjCode 166 9 = some (.iconst 1, 1, 0, 0) := by decide +kernel
theorem p166_9 {q0 q1 q2 q3 q4 : MV} {ds : Ds} {m : Mm} {Q : Ds → Mm → List MV → Prop} : WP 166 9 [q0, q1, q2, q3, q4] [] ds m Q = (WP 166 10 [q0, q1, q2, q3, q4] [(0, 1)] ds m Q) := P_nx k166_9 rfl
set_option maxRecDepth 20000 in
theorem k166_10 : mjCode 166 10 = some (.istore_n 2, 1, 0, 0) := by decide +kernel
theorem p166_10 {l1 s0 : Int} {q0 q2 q3 q4 : MV} {ds : Ds} {m : Mm} {Q : Ds → Mm → List MV → Prop} : WP 166 10 [q0, (0, l1), q2, q3, q4] [(0, s0)] ds m Q = (WP 166 11 [q0, (0, l1), (0, s0), q3, q4] [] ds m Q) := P_nx k166_10 rfl
set_option maxRecDepth 20000 in
theorem k166_11 : mjCode 166 11 = some (.iload_n 2, 1, 0, 0) := by decide +kernel
theorem p166_11 {l2 : Int} {q0 q1 q3 q4 : MV} {ds : Ds} {m : Mm} {Q : Ds → Mm → List MV → Prop} : WP 166 11 [q0, q1, (0, l2), q3, q4] [] ds m Q = (WP 166 12 [q0, q1, (0, l2), q3, q4] [(0, l2)] ds m Q) := P_nx k166_11 rfl
set_option maxRecDepth 20000 in
theorem k166_12 : mjCode 166 12 = some (.ifCond .eq 282, 3, 294, 0) := by decide +kernel
theorem p166_12 {s0 : Int} {q0 q1 q2 q3 q4 : MV} {ds : Ds} {m : Mm} {Q : Ds → Mm → List MV → Prop} : WP 166 12 [q0, q1, q2, q3, q4] [(0, s0)] ds m Q = (if s0 = 0 then WP 166 294 [q0, q1, q2, q3, q4] [] ds m Q else WP 166 15 [q0, q1, q2, q3, q4] [] ds m Q) := P_if k166_12 rfl
set_option maxRecDepth 20000 in
theorem k166_15 : mjCode 166 15 = some (.iconst 0, 1, 0, 0) := by decide +kernel
theorem p166_15 {q0 q1 q2 q3 q4 : MV} {ds : Ds} {m : Mm} {Q : Ds → Mm → List MV → Prop} : WP 166 15 [q0, q1, q2, q3, q4] [] ds m Q = (WP 166 16 [q0, q1, q2, q3, q4] [(0, 0)] ds m Q) := P_nx k166_15 rfl
set_option maxRecDepth 20000 in
theorem k166_16 : mjCode 166 16 = some (.istore_n 3, 1, 0, 0) := by decide +kernel
theorem p166_16 {l2 s0 : Int} {q0 q1 q3 q4 : MV} {ds : Ds} {m : Mm} {Q : Ds → Mm → List MV → Prop} : WP 166 16 [q0, q1, (0, l2), q3, q4] [(0, s0)] ds m Q = (WP 166 17 [q0, q1, (0, l2), (0, s0), q4] [] ds m Q) := P_nx k166_16 rfl
set_option maxRecDepth 20000 in
theorem k166_17 : mjCode 166 17 = some (.iconst 0, 1, 0, 0) := by decide +kernel
theorem p166_17 {q0 q1 q2 q3 q4 : MV} {ds : Ds} {m : Mm} {Q : Ds → Mm → List MV → Prop} : WP 166 17 [q0, q1, q2, q3, q4] [] ds m Q = (WP 166 18 [q0, q1, q2, q3, q4] [(0, 0)] ds m Q) := P_nx k166_17 rfl
set_option maxRecDepth 20000 in
theorem k166_18 : mjCode 166 18 = some (.istore 4, 2, 0, 0) := by decide +kernel
theorem p166_18 {l3 s0 : Int} {q0 q1 q2 q4 : MV} {ds : Ds} {m : Mm} {Q : Ds → Mm → List MV → Prop} : WP 166 18 [q0, q1, q2, (0, l3), q4] [(0, s0)] ds m Q = (WP 166 20 [q0, q1, q2, (0, l3), (0, s0)] [] ds m Q) := P_nx k166_18 rfl
set_option maxRecDepth 20000 in
theorem k166_20 : mjCode 166 20 = some (.iload 4, 2, 0, 0) := by decide +kernel
theorem p166_20 {l4 : Int} {q0 q1 q2 q3 : MV} {ds : Ds} {m : Mm} {Q : Ds → Mm → List MV → Prop} : WP 166 20 [q0, q1, q2, q3, (0, l4)] [] ds m Q = (WP 166 22 [q0, q1, q2, q3, (0, l4)] [(0, l4)] ds m Q) := P_nx k166_20 rfl
set_option maxRecDepth 20000 in
theorem k166_22 : mjCode 166 22 = some (.aload_n 0, 1, 0, 0) := by decide +kernel
theorem p166_22 {l0 s0 : Int} {q1 q2 q3 q4 : MV} {ds : Ds} {m : Mm} {Q : Ds → Mm → List MV → Prop} : WP 166 22 [(2, l0), q1, q2, q3, q4] [(0, s0)] ds m Q = (WP 166 23 [(2, l0), q1, q2, q3, q4] [(2, l0), (0, s0)] ds m Q) := P_nx k166_22 rfl
set_option maxRecDepth 20000 in
theorem k166_23 : mjCode 166 23 = some (.getfield 245, 3, 7, 30) := by decide +kernel
theorem p166_23 {s0 s1 : Int} {q0 q1 q2 q3 q4 : MV} {ds : Ds} {m : Mm} {Q : Ds → Mm → List MV → Prop} : WP 166 23 [q0, q1, q2, q3, q4] [(2, s0), (0, s1)] ds m Q = ((dk ds s0 = 7 ∧ WP 166 26 [q0, q1, q2, q3, q4] [(0, m s0 30), (0, s1)] ds m Q)) := P_gd k166_23 rfl
set_option maxRecDepth 20000 in
theorem k166_26 : mjCode 166 26 = some (.if_icmp .ge 32, 3, 58, 0) := by decide +kernel
theorem p166_26 {s0 s1 : Int} {q0 q1 q2 q3 q4 : MV} {ds : Ds} {m : Mm} {Q : Ds → Mm → List MV → Prop} : WP 166 26 [q0, q1, q2, q3, q4] [(0, s0), (0, s1)] ds m Q = (if s1 < s0 then WP 166 29 [q0, q1, q2, q3, q4] [] ds m Q else WP 166 58 [q0, q1, q2, q3, q4] [] ds m Q) := P_if k166_26 rfl
set_option maxRecDepth 20000 in
theorem k166_29 : mjCode 166 29 = some (.aload_n 0, 1, 0, 0) := by decide +kernel
theorem p166_29 {l0 : Int} {q1 q2 q3 q4 : MV} {ds : Ds} {m : Mm} {Q : Ds → Mm → List MV → Prop} : WP 166 29 [(2, l0), q1, q2, q3, q4] [] ds m Q = (WP 166 30 [(2, l0), q1, q2, q3, q4] [(2, l0)] ds m Q) := P_nx k166_29 rfl
set_option maxRecDepth 20000 in
theorem k166_30 : mjCode 166 30 = some (.getfield 99, 3, 7, 35) := by decide +kernel
theorem p166_30 {s0 : Int} {q0 q1 q2 q3 q4 : MV} {ds : Ds} {m : Mm} {Q : Ds → Mm → List MV → Prop} : WP 166 30 [q0, q1, q2, q3, q4] [(2, s0)] ds m Q = ((dk ds s0 = 7 ∧ WP 166 33 [q0, q1, q2, q3, q4] [(2, m s0 35)] ds m Q)) := P_gd k166_30 rfl
set_option maxRecDepth 20000 in
theorem k166_33 : mjCode 166 33 = some (.iload 4, 2, 0, 0) := by decide +kernel
theorem p166_33 {l4 s0 : Int} {q0 q1 q2 q3 : MV} {ds : Ds} {m : Mm} {Q : Ds → Mm → List MV → Prop} : WP 166 33 [q0, q1, q2, q3, (0, l4)] [(2, s0)] ds m Q = (WP 166 35 [q0, q1, q2, q3, (0, l4)] [(0, l4), (2, s0)] ds m Q) := P_nx k166_33 rfl
set_option maxRecDepth 20000 in
theorem k166_35 : mjCode 166 35 = some (.aload_n 0, 1, 0, 0) := by decide +kernel
theorem p166_35 {l0 s0 s1 : Int} {q1 q2 q3 q4 : MV} {ds : Ds} {m : Mm} {Q : Ds → Mm → List MV → Prop} : WP 166 35 [(2, l0), q1, q2, q3, q4] [(0, s0), (2, s1)] ds m Q = (WP 166 36 [(2, l0), q1, q2, q3, q4] [(2, l0), (0, s0), (2, s1)] ds m Q) := P_nx k166_35 rfl
set_option maxRecDepth 20000 in
theorem k166_36 : mjCode 166 36 = some (.getfield 90, 3, 7, 32) := by decide +kernel
theorem p166_36 {s0 s1 s2 : Int} {q0 q1 q2 q3 q4 : MV} {ds : Ds} {m : Mm} {Q : Ds → Mm → List MV → Prop} : WP 166 36 [q0, q1, q2, q3, q4] [(2, s0), (0, s1), (2, s2)] ds m Q = ((dk ds s0 = 7 ∧ WP 166 39 [q0, q1, q2, q3, q4] [(2, m s0 32), (0, s1), (2, s2)] ds m Q)) := P_gd k166_36 rfl
set_option maxRecDepth 20000 in
theorem k166_39 : mjCode 166 39 = some (.iload 4, 2, 0, 0) := by decide +kernel
theorem p166_39 {l4 s0 s1 s2 : Int} {q0 q1 q2 q3 : MV} {ds : Ds} {m : Mm} {Q : Ds → Mm → List MV → Prop} : WP 166 39 [q0, q1, q2, q3, (0, l4)] [(2, s0), (0, s1), (2, s2)] ds m Q = (WP 166 41 [q0, q1, q2, q3, (0, l4)] [(0, l4), (2, s0), (0, s1), (2, s2)] ds m Q) := P_nx k166_39 rfl
set_option maxRecDepth 20000 in
theorem k166_41 : mjCode 166 41 = some (.iaload, 1, 0, 0) := by decide +kernel
theorem p166_41 {s0 s1 s2 s3 : Int} {q0 q1 q2 q3 q4 : MV} {ds : Ds} {m : Mm} {Q : Ds → Mm → List MV → Prop} : WP 166 41 [q0, q1, q2, q3, q4] [(0, s0), (2, s1), (0, s2), (2, s3)] ds m Q = ((dk ds s1 = 10 ∧ 0 ≤ s0 ∧ s0 < dl ds s1 ∧ WP 166 42 [q0, q1, q2, q3, q4] [(0, m s1 s0), (0, s2), (2, s3)] ds m Q)) := P_g3 k166_41 rfl
set_option maxRecDepth 20000 in
theorem k166_42 : mjCode 166 42 = some (.iconst (-1), 1, 0, 0) := by decide +kernel
theorem p166_42 {s0 s1 s2 : Int} {q0 q1 q2 q3 q4 : MV} {ds : Ds} {m : Mm} {Q : Ds → Mm → List MV → Prop} : WP 166 42 [q0, q1, q2, q3, q4] [(0, s0), (0, s1), (2, s2)] ds m Q = (WP 166 43 [q0, q1, q2, q3, q4] [(0, (-1)), (0, s0), (0, s1), (2, s2)] ds m Q) := P_nx k166_42 rfl
set_option maxRecDepth 20000 in
theorem k166_43 : mjCode 166 43 = some (.if_icmp .eq 7, 3, 50, 0) := by decide +kernel
theorem p166_43 {s0 s1 s2 s3 : Int} {q0 q1 q2 q3 q4 : MV} {ds : Ds} {m : Mm} {Q : Ds → Mm → List MV → Prop} : WP 166 43 [q0, q1, q2, q3, q4] [(0, s0), (0, s1), (0, s2), (2, s3)] ds m Q = (if s1 = s0 then WP 166 50 [q0, q1, q2, q3, q4] [(0, s2), (2, s3)] ds m Q else WP 166 46 [q0, q1, q2, q3, q4] [(0, s2), (2, s3)] ds m Q) := P_if k166_43 rfl
set_option maxRecDepth 20000 in
theorem k166_46 : mjCode 166 46 = some (.iconst 1, 1, 0, 0) := by decide +kernel
theorem p166_46 {s0 s1 : Int} {q0 q1 q2 q3 q4 : MV} {ds : Ds} {m : Mm} {Q : Ds → Mm → List MV → Prop} : WP 166 46 [q0, q1, q2, q3, q4] [(0, s0), (2, s1)] ds m Q = (WP 166 47 [q0, q1, q2, q3, q4] [(0, 1), (0, s0), (2, s1)] ds m Q) := P_nx k166_46 rfl
set_option maxRecDepth 20000 in
theorem k166_47 : mjCode 166 47 = some (.goto 4, 3, 51, 0) := by decide +kernel
theorem p166_47 {s0 s1 s2 : Int} {q0 q1 q2 q3 q4 : MV} {ds : Ds} {m : Mm} {Q : Ds → Mm → List MV → Prop} : WP 166 47 [q0, q1, q2, q3, q4] [(0, s0), (0, s1), (2, s2)] ds m Q = (WP 166 51 [q0, q1, q2, q3, q4] [(0, s0), (0, s1), (2, s2)] ds m Q) := P_nx k166_47 rfl
set_option maxRecDepth 20000 in
theorem k166_50 : mjCode 166 50 = some (.iconst 0, 1, 0, 0) := by decide +kernel
theorem p166_50 {s0 s1 : Int} {q0 q1 q2 q3 q4 : MV} {ds : Ds} {m : Mm} {Q : Ds → Mm → List MV → Prop} : WP 166 50 [q0, q1, q2, q3, q4] [(0, s0), (2, s1)] ds m Q = (WP 166 51 [q0, q1, q2, q3, q4] [(0, 0), (0, s0), (2, s1)] ds m Q) := P_nx k166_50 rfl
set_option maxRecDepth 20000 in
theorem k166_51 : mjCode 166 51 = some (.bastore, 1, 0, 0) := by decide +kernel
theorem p166_51 {s0 s1 s2 : Int} {q0 q1 q2 q3 q4 : MV} {ds : Ds} {m : Mm} {Q : Ds → Mm → List MV → Prop} : WP 166 51 [q0, q1, q2, q3, q4] [(0, s0), (0, s1), (2, s2)] ds m Q = (((s0 = 0 ∨ s0 = 1) ∧ dk ds s2 = 11 ∧ 0 ≤ s1 ∧ s1 < dl ds s2 ∧ WP 166 52 [q0, q1, q2, q3, q4] [] ds (up m s2 s1 s0) Q)) := P_s4 k166_51 rfl
set_option maxRecDepth 20000 in
theorem k166_52 : mjCode 166 52 = some (.iinc 4 1, 3, 0, 0) := by decide +kernel
theorem p166_52 {l4 : Int} {q0 q1 q2 q3 : MV} {ds : Ds} {m : Mm} {Q : Ds → Mm → List MV → Prop} : WP 166 52 [q0, q1, q2, q3, (0, l4)] [] ds m Q = (WP 166 55 [q0, q1, q2, q3, (0, w32 (l4 + 1))] [] ds m Q) := P_nx k166_52 rfl
set_option maxRecDepth 20000 in
theorem k166_55 : mjCode 166 55 = some (.goto (-35), 3, 20, 0) := by decide +kernel
theorem p166_55 {q0 q1 q2 q3 q4 : MV} {ds : Ds} {m : Mm} {Q : Ds → Mm → List MV → Prop} : WP 166 55 [q0, q1, q2, q3, q4] [] ds m Q = (WP 166 20 [q0, q1, q2, q3, q4] [] ds m Q) := P_nx k166_55 rfl
set_option maxRecDepth 20000 in
theorem k166_58 : mjCode 166 58 = some (.aload_n 0, 1, 0, 0) := by decide +kernel
theorem p166_58 {l0 : Int} {q1 q2 q3 q4 : MV} {ds : Ds} {m : Mm} {Q : Ds → Mm → List MV → Prop} : WP 166 58 [(2, l0), q1, q2, q3, q4] [] ds m Q = (WP 166 59 [(2, l0), q1, q2, q3, q4] [(2, l0)] ds m Q) := P_nx k166_58 rfl
set_option maxRecDepth 20000 in
theorem k166_59 : mjCode 166 59 = some (.getfield 72, 3, 7, 22) := by decide +kernel
theorem p166_59 {s0 : Int} {q0 q1 q2 q3 q4 : MV} {ds : Ds} {m : Mm} {Q : Ds → Mm → List MV → Prop} : WP 166 59 [q0, q1, q2, q3, q4] [(2, s0)] ds m Q = ((dk ds s0 = 7 ∧ WP 166 62 [q0, q1, q2, q3, q4] [(2, m s0 22)] ds m Q)) := P_gd k166_59 rfl
set_option maxRecDepth 20000 in
theorem k166_62 : mjCode 166 62 = some (.aload_n 0, 1, 0, 0) := by decide +kernel
theorem p166_62 {l0 s0 : Int} {q1 q2 q3 q4 : MV} {ds : Ds} {m : Mm} {Q : Ds → Mm → List MV → Prop} : WP 166 62 [(2, l0), q1, q2, q3, q4] [(2, s0)] ds m Q = (WP 166 63 [(2, l0), q1, q2, q3, q4] [(2, l0), (2, s0)] ds m Q) := P_nx k166_62 rfl
set_option maxRecDepth 20000 in
theorem k166_63 : mjCode 166 63 = some (.getfield 213, 3, 7, 26) := by decide +kernel
theorem p166_63 {s0 s1 : Int} {q0 q1 q2 q3 q4 : MV} {ds : Ds} {m : Mm} {Q : Ds → Mm → List MV → Prop} : WP 166 63 [q0, q1, q2, q3, q4] [(2, s0), (2, s1)] ds m Q = ((dk ds s0 = 7 ∧ WP 166 66 [q0, q1, q2, q3, q4] [(0, m s0 26), (2, s1)] ds m Q)) := P_gd k166_63 rfl
set_option maxRecDepth 20000 in
theorem k166_66 : mjCode 166 66 = some (.iaload, 1, 0, 0) := by decide +kernel
theorem p166_66 {s0 s1 : Int} {q0 q1 q2 q3 q4 : MV} {ds : Ds} {m : Mm} {Q : Ds → Mm → List MV → Prop} : WP 166 66 [q0, q1, q2, q3, q4] [(0, s0), (2, s1)] ds m Q = ((dk ds s1 = 10 ∧ 0 ≤ s0 ∧ s0 < dl ds s1 ∧ WP 166 67 [q0, q1, q2, q3, q4] [(0, m s1 s0)] ds m Q)) := P_g3 k166_66 rfl
set_option maxRecDepth 20000 in
theorem k166_67 : mjCode 166 67 = some (.istore 4, 2, 0, 0) := by decide +kernel
theorem p166_67 {l3 s0 : Int} {q0 q1 q2 q4 : MV} {ds : Ds} {m : Mm} {Q : Ds → Mm → List MV → Prop} : WP 166 67 [q0, q1, q2, (0, l3), q4] [(0, s0)] ds m Q = (WP 166 69 [q0, q1, q2, (0, l3), (0, s0)] [] ds m Q) := P_nx k166_67 rfl
set_option maxRecDepth 20000 in
theorem k166_69 : mjCode 166 69 = some (.iload 4, 2, 0, 0) := by decide +kernel
theorem p166_69 {l4 : Int} {q0 q1 q2 q3 : MV} {ds : Ds} {m : Mm} {Q : Ds → Mm → List MV → Prop} : WP 166 69 [q0, q1, q2, q3, (0, l4)] [] ds m Q = (WP 166 71 [q0, q1, q2, q3, (0, l4)] [(0, l4)] ds m Q) := P_nx k166_69 rfl
set_option maxRecDepth 20000 in
theorem k166_71 : mjCode 166 71 = some (.iconst (-1), 1, 0, 0) := by decide +kernel
theorem p166_71 {s0 : Int} {q0 q1 q2 q3 q4 : MV} {ds : Ds} {m : Mm} {Q : Ds → Mm → List MV → Prop} : WP 166 71 [q0, q1, q2, q3, q4] [(0, s0)] ds m Q = (WP 166 72 [q0, q1, q2, q3, q4] [(0, (-1)), (0, s0)] ds m Q) := P_nx k166_71 rfl
set_option maxRecDepth 20000 in
theorem k166_72 : mjCode 166 72 = some (.if_icmp .eq 38, 3, 110, 0) := by decide +kernel
theorem p166_72 {s0 s1 : Int} {q0 q1 q2 q3 q4 : MV} {ds : Ds} {m : Mm} {Q : Ds → Mm → List MV → Prop} : WP 166 72 [q0, q1, q2, q3, q4] [(0, s0), (0, s1)] ds m Q = (if s1 = s0 then WP 166 110 [q0, q1, q2, q3, q4] [] ds m Q else WP 166 75 [q0, q1, q2, q3, q4] [] ds m Q) := P_if k166_72 rfl
set_option maxRecDepth 20000 in
theorem k166_75 : mjCode 166 75 = some (.aload_n 0, 1, 0, 0) := by decide +kernel
theorem p166_75 {l0 : Int} {q1 q2 q3 q4 : MV} {ds : Ds} {m : Mm} {Q : Ds → Mm → List MV → Prop} : WP 166 75 [(2, l0), q1, q2, q3, q4] [] ds m Q = (WP 166 76 [(2, l0), q1, q2, q3, q4] [(2, l0)] ds m Q) := P_nx k166_75 rfl
set_option maxRecDepth 20000 in
theorem k166_76 : mjCode 166 76 = some (.invokevirtual 251, 3, 165, 1) := by decide +kernel
theorem p166_76 {s0 : Int} {q0 q1 q2 q3 q4 : MV} {ds : Ds} {m : Mm} {Q : Ds → Mm → List MV → Prop} : WP 166 76 [q0, q1, q2, q3, q4] [(2, s0)] ds m Q = ((dk ds s0 = 7 ∧ WP 164 0 [(2, s0)] [] ds m (fun d2 m2 r2 => WP 166 79 [q0, q1, q2, q3, q4] (r2 ++ []) d2 m2 Q))) := P_cv k166_76 mx164 mo164 rfl rfl rfl rfl rfl rfl rfl rfl
set_option maxRecDepth 20000 in
theorem k166_79 : mjCode 166 79 = some (.ifCond .ne 31, 3, 110, 0) := by decide +kernel
theorem p166_79 {s0 : Int} {q0 q1 q2 q3 q4 : MV} {ds : Ds} {m : Mm} {Q : Ds → Mm → List MV → Prop} : WP 166 79 [q0, q1, q2, q3, q4] [(0, s0)] ds m Q = (if s0 = 0 then WP 166 82 [q0, q1, q2, q3, q4] [] ds m Q else WP 166 110 [q0, q1, q2, q3, q4] [] ds m Q) := P_if k166_79 rfl
set_option maxRecDepth 20000 in
theorem k166_82 : mjCode 166 82 = some (.aload_n 0, 1, 0, 0) := by decide +kernel
theorem p166_82 {l0 : Int} {q1 q2 q3 q4 : MV} {ds : Ds} {m : Mm} {Q : Ds → Mm → List MV → Prop} : WP 166 82 [(2, l0), q1, q2, q3, q4] [] ds m Q = (WP 166 83 [(2, l0), q1, q2, q3, q4] [(2, l0)] ds m Q) := P_nx k166_82 rfl
set_option maxRecDepth 20000 in
theorem k166_83 : mjCode 166 83 = some (.dup, 1, 0, 0) := by decide +kernel
theorem p166_83 {s0 : Int} {q0 q1 q2 q3 q4 : MV} {ds : Ds} {m : Mm} {Q : Ds → Mm → List MV → Prop} : WP 166 83 [q0, q1, q2, q3, q4] [(2, s0)] ds m Q = (WP 166 84 [q0, q1, q2, q3, q4] [(2, s0), (2, s0)] ds m Q) := P_nx k166_83 rfl
set_option maxRecDepth 20000 in
theorem k166_84 : mjCode 166 84 = some (.getfield 210, 3, 7, 25) := by decide +kernel
theorem p166_84 {s0 s1 : Int} {q0 q1 q2 q3 q4 : MV} {ds : Ds} {m : Mm} {Q : Ds → Mm → List MV → Prop} : WP 166 84 [q0, q1, q2, q3, q4] [(2, s0), (2, s1)] ds m Q = ((dk ds s0 = 7 ∧ WP 166 87 [q0, q1, q2, q3, q4] [(0, m s0 25), (2, s1)] ds m Q)) := P_gd k166_84 rfl
set_option maxRecDepth 20000 in
theorem k166_87 : mjCode 166 87 = some (.iconst 1, 1, 0, 0) := by decide +kernel
theorem p166_87 {s0 s1 : Int} {q0 q1 q2 q3 q4 : MV} {ds : Ds} {m : Mm} {Q : Ds → Mm → List MV → Prop} : WP 166 87 [q0, q1, q2, q3, q4] [(0, s0), (2, s1)] ds m Q = (WP 166 88 [q0, q1, q2, q3, q4] [(0, 1), (0, s0), (2, s1)] ds m Q) := P_nx k166_87 rfl
set_option maxRecDepth 20000 in
theorem k166_88 : mjCode 166 88 = some (.isub, 1, 0, 0) := by decide +kernel
theorem p166_88 {s0 s1 s2 : Int} {q0 q1 q2 q3 q4 : MV} {ds : Ds} {m : Mm} {Q : Ds → Mm → List MV → Prop} : WP 166 88 [q0, q1, q2, q3, q4] [(0, s0), (0, s1), (2, s2)] ds m Q = (WP 166 89 [q0, q1, q2, q3, q4] [(0, w32 (s1 - s0)), (2, s2)] ds m Q) := P_nx k166_88 rfl
set_option maxRecDepth 20000 in
theorem k166_89 : mjCode 166 89 = some (.putfield 210, 3, 7, 25) := by decide +kernel
theorem p166_89 {s0 s1 : Int} {q0 q1 q2 q3 q4 : MV} {ds : Ds} {m : Mm} {Q : Ds → Mm → List MV → Prop} : WP 166 89 [q0, q1, q2, q3, q4] [(0, s0), (2, s1)] ds m Q = ((dk ds s1 = 7 ∧ WP 166 92 [q0, q1, q2, q3, q4] [] ds (up m s1 25 s0) Q)) := P_pf k166_89 rfl
set_option maxRecDepth 20000 in
theorem k166_92 : mjCode 166 92 = some (.aload_n 0, 1, 0, 0) := by decide +kernel
theorem p166_92 {l0 : Int} {q1 q2 q3 q4 : MV} {ds : Ds} {m : Mm} {Q : Ds → Mm → List MV → Prop} : WP 166 92 [(2, l0), q1, q2, q3, q4] [] ds m Q = (WP 166 93 [(2, l0), q1, q2, q3, q4] [(2, l0)] ds m Q) := P_nx k166_92 rfl
set_option maxRecDepth 20000 in
theorem k166_93 : mjCode 166 93 = some (.iload 4, 2, 0, 0) := by decide +kernel
theorem p166_93 {l4 s0 : Int} {q0 q1 q2 q3 : MV} {ds : Ds} {m : Mm} {Q : Ds → Mm → List MV → Prop} : WP 166 93 [q0, q1, q2, q3, (0, l4)] [(2, s0)] ds m Q = (WP 166 95 [q0, q1, q2, q3, (0, l4)] [(0, l4), (2, s0)] ds m Q) := P_nx k166_93 rfl
set_option maxRecDepth 20000 in
theorem k166_95 : mjCode 166 95 = some (.invokevirtual 255, 3, 166, 2) := by decide +kernel
theorem p166_95 {s0 s1 : Int} {q0 q1 q2 q3 q4 : MV} {ds : Ds} {m : Mm} {Q : Ds → Mm → List MV → Prop} : WP 166 95 [q0, q1, q2, q3, q4] [(0, s0), (2, s1)] ds m Q = ((dk ds s1 = 7 ∧ WP 165 0 [(2, s1), (0, s0), (3, 0), (3, 0), (3, 0)] [] ds m (fun d2 m2 r2 => WP 166 98 [q0, q1, q2, q3, q4] (r2 ++ []) d2 m2 Q))) := P_cv k166_95 mx165 mo165 rfl rfl rfl rfl rfl rfl rfl rfl
set_option maxRecDepth 20000 in
theorem k166_98 : mjCode 166 98 = some (.aload_n 0, 1, 0, 0) := by decide +kernel
theorem p166_98 {l0 : Int} {q1 q2 q3 q4 : MV} {ds : Ds} {m : Mm} {Q : Ds → Mm → List MV → Prop} : WP 166 98 [(2, l0), q1, q2, q3, q4] [] ds m Q = (WP 166 99 [(2, l0), q1, q2, q3, q4] [(2, l0)] ds m Q) := P_nx k166_98 rfl
set_option maxRecDepth 20000 in
theorem k166_99 : mjCode 166 99 = some (.getfield 69, 3, 7, 21) := by decide +kernel
theorem p166_99 {s0 : Int} {q0 q1 q2 q3 q4 : MV} {ds : Ds} {m : Mm} {Q : Ds → Mm → List MV → Prop} : WP 166 99 [q0, q1, q2, q3, q4] [(2, s0)] ds m Q = ((dk ds s0 = 7 ∧ WP 166 102 [q0, q1, q2, q3, q4] [(2, m s0 21)] ds m Q)) := P_gd k166_99 rfl
set_option maxRecDepth 20000 in
theorem k166_102 : mjCode 166 102 = some (.iload 4, 2, 0, 0) := by decide +kernel
theorem p166_102 {l4 s0 : Int} {q0 q1 q2 q3 : MV} {ds : Ds} {m : Mm} {Q : Ds → Mm → List MV → Prop} : WP 166 102 [q0, q1, q2, q3, (0, l4)] [(2, s0)] ds m Q = (WP 166 104 [q0, q1, q2, q3, (0, l4)] [(0, l4), (2, s0)] ds m Q) := P_nx k166_102 rfl
set_option maxRecDepth 20000 in
theorem k166_104 : mjCode 166 104 = some (.iaload, 1, 0, 0) := by decide +kernel
theorem p166_104 {s0 s1 : Int} {q0 q1 q2 q3 q4 : MV} {ds : Ds} {m : Mm} {Q : Ds → Mm → List MV → Prop} : WP 166 104 [q0, q1, q2, q3, q4] [(0, s0), (2, s1)] ds m Q = ((dk ds s1 = 10 ∧ 0 ≤ s0 ∧ s0 < dl ds s1 ∧ WP 166 105 [q0, q1, q2, q3, q4] [(0, m s1 s0)] ds m Q)) := P_g3 k166_104 rfl
set_option maxRecDepth 20000 in
theorem k166_105 : mjCode 166 105 = some (.istore 4, 2, 0, 0) := by decide +kernel
theorem p166_105 {l3 s0 : Int} {q0 q1 q2 q4 : MV} {ds : Ds} {m : Mm} {Q : Ds → Mm → List MV → Prop} : WP 166 105 [q0, q1, q2, (0, l3), q4] [(0, s0)] ds m Q = (WP 166 107 [q0, q1, q2, (0, l3), (0, s0)] [] ds m Q) := P_nx k166_105 rfl
set_option maxRecDepth 20000 in
theorem k166_107 : mjCode 166 107 = some (.goto (-38), 3, 69, 0) := by decide +kernel
theorem p166_107 {q0 q1 q2 q3 q4 : MV} {ds : Ds} {m : Mm} {Q : Ds → Mm → List MV → Prop} : WP 166 107 [q0, q1, q2, q3, q4] [] ds m Q = (WP 166 69 [q0, q1, q2, q3, q4] [] ds m Q) := P_nx k166_107 rfl
set_option maxRecDepth 20000 in
theorem k166_110 : mjCode 166 110 = some (.iconst 0, 1, 0, 0) := by decide +kernel
theorem p166_110 {q0 q1 q2 q3 q4 : MV} {ds : Ds} {m : Mm} {Q : Ds → Mm → List MV → Prop} : WP 166 110 [q0, q1, q2, q3, q4] [] ds m Q = (WP 166 111 [q0, q1, q2, q3, q4] [(0, 0)] ds m Q) := P_nx k166_110 rfl
set_option maxRecDepth 20000 in
theorem k166_111 : mjCode 166 111 = some (.istore 4, 2, 0, 0) := by decide +kernel
theorem p166_111 {l3 s0 : Int} {q0 q1 q2 q4 : MV} {ds : Ds} {m : Mm} {Q : Ds → Mm → List MV → Prop} : WP 166 111 [q0, q1, q2, (0, l3), q4] [(0, s0)] ds m Q = (WP 166 113 [q0, q1, q2, (0, l3), (0, s0)] [] ds m Q) := P_nx k166_111 rfl
set_option maxRecDepth 20000 in
theorem k166_113 : mjCode 166 113 = some (.iload 4, 2, 0, 0) := by decide +kernel
theorem p166_113 {l4 : Int} {q0 q1 q2 q3 : MV} {ds : Ds} {m : Mm} {Q : Ds → Mm → List MV → Prop} : WP 166 113 [q0, q1, q2, q3, (0, l4)] [] ds m Q = (WP 166 115 [q0, q1, q2, q3, (0, l4)] [(0, l4)] ds m Q) := P_nx k166_113 rfl
set_option maxRecDepth 20000 in
theorem k166_115 : mjCode 166 115 = some (.aload_n 0, 1, 0, 0) := by decide +kernel
theorem p166_115 {l0 s0 : Int} {q1 q2 q3 q4 : MV} {ds : Ds} {m : Mm} {Q : Ds → Mm → List MV → Prop} : WP 166 115 [(2, l0), q1, q2, q3, q4] [(0, s0)] ds m Q = (WP 166 116 [(2, l0), q1, q2, q3, q4] [(2, l0), (0, s0)] ds m Q) := P_nx k166_115 rfl
set_option maxRecDepth 20000 in
theorem k166_116 : mjCode 166 116 = some (.getfield 245, 3, 7, 30) := by decide +kernel
theorem p166_116 {s0 s1 : Int} {q0 q1 q2 q3 q4 : MV} {ds : Ds} {m : Mm} {Q : Ds → Mm → List MV → Prop} : WP 166 116 [q0, q1, q2, q3, q4] [(2, s0), (0, s1)] ds m Q = ((dk ds s0 = 7 ∧ WP 166 119 [q0, q1, q2, q3, q4] [(0, m s0 30), (0, s1)] ds m Q)) := P_gd k166_116 rfl
set_option maxRecDepth 20000 in
theorem k166_119 : mjCode 166 119 = some (.if_icmp .ge 32, 3, 151, 0) := by decide +kernel
theorem p166_119 {s0 s1 : Int} {q0 q1 q2 q3 q4 : MV} {ds : Ds} {m : Mm} {Q : Ds → Mm → List MV → Prop} : WP 166 119 [q0, q1, q2, q3, q4] [(0, s0), (0, s1)] ds m Q = (if s1 < s0 then WP 166 122 [q0, q1, q2, q3, q4] [] ds m Q else WP 166 151 [q0, q1, q2, q3, q4] [] ds m Q) := P_if k166_119 rfl
set_option maxRecDepth 20000 in
theorem k166_122 : mjCode 166 122 = some (.aload_n 0, 1, 0, 0) := by decide +kernel
theorem p166_122 {l0 : Int} {q1 q2 q3 q4 : MV} {ds : Ds} {m : Mm} {Q : Ds → Mm → List MV → Prop} : WP 166 122 [(2, l0), q1, q2, q3, q4] [] ds m Q = (WP 166 123 [(2, l0), q1, q2, q3, q4] [(2, l0)] ds m Q) := P_nx k166_122 rfl
set_option maxRecDepth 20000 in
theorem k166_123 : mjCode 166 123 = some (.invokevirtual 251, 3, 165, 1) := by decide +kernel
theorem p166_123 {s0 : Int} {q0 q1 q2 q3 q4 : MV} {ds : Ds} {m : Mm} {Q : Ds → Mm → List MV → Prop} : WP 166 123 [q0, q1, q2, q3, q4] [(2, s0)] ds m Q = ((dk ds s0 = 7 ∧ WP 164 0 [(2, s0)] [] ds m (fun d2 m2 r2 => WP 166 126 [q0, q1, q2, q3, q4] (r2 ++ []) d2 m2 Q))) := P_cv k166_123 mx164 mo164 rfl rfl rfl rfl rfl rfl rfl rfl
set_option maxRecDepth 20000 in
theorem k166_126 : mjCode 166 126 = some (.ifCond .ne 25, 3, 151, 0) := by decide +kernel
theorem p166_126 {s0 : Int} {q0 q1 q2 q3 q4 : MV} {ds : Ds} {m : Mm} {Q : Ds → Mm → List MV → Prop} : WP 166 126 [q0, q1, q2, q3, q4] [(0, s0)] ds m Q = (if s0 = 0 then WP 166 129 [q0, q1, q2, q3, q4] [] ds m Q else WP 166 151 [q0, q1, q2, q3, q4] [] ds m Q) := P_if k166_126 rfl
set_option maxRecDepth 20000 in
theorem k166_129 : mjCode 166 129 = some (.aload_n 0, 1, 0, 0) := by decide +kernel
theorem p166_129 {l0 : Int} {q1 q2 q3 q4 : MV} {ds : Ds} {m : Mm} {Q : Ds → Mm → List MV → Prop} : WP 166 129 [(2, l0), q1, q2, q3, q4] [] ds m Q = (WP 166 130 [(2, l0), q1, q2, q3, q4] [(2, l0)] ds m Q) := P_nx k166_129 rfl
set_option maxRecDepth 20000 in
theorem k166_130 : mjCode 166 130 = some (.getfield 99, 3, 7, 35) := by decide +kernel
theorem p166_130 {s0 : Int} {q0 q1 q2 q3 q4 : MV} {ds : Ds} {m : Mm} {Q : Ds → Mm → List MV → Prop} : WP 166 130 [q0, q1, q2, q3, q4] [(2, s0)] ds m Q = ((dk ds s0 = 7 ∧ WP 166 133 [q0, q1, q2, q3, q4] [(2, m s0 35)] ds m Q)) := P_gd k166_130 rfl
set_option maxRecDepth 20000 in
theorem k166_133 : mjCode 166 133 = some (.iload 4, 2, 0, 0) := by decide +kernel
theorem p166_133 {l4 s0 : Int} {q0 q1 q2 q3 : MV} {ds : Ds} {m : Mm} {Q : Ds → Mm → List MV → Prop} : WP 166 133 [q0, q1, q2, q3, (0, l4)] [(2, s0)] ds m Q = (WP 166 135 [q0, q1, q2, q3, (0, l4)] [(0, l4), (2, s0)] ds m Q) := P_nx k166_133 rfl
set_option maxRecDepth 20000 in
theorem k166_135 : mjCode 166 135 = some (.baload, 1, 0, 0) := by decide +kernel
theorem p166_135 {s0 s1 : Int} {q0 q1 q2 q3 q4 : MV} {ds : Ds} {m : Mm} {Q : Ds → Mm → List MV → Prop} : WP 166 135 [q0, q1, q2, q3, q4] [(0, s0), (2, s1)] ds m Q = ((dk ds s1 = 11 ∧ 0 ≤ s0 ∧ s0 < dl ds s1 ∧ WP 166 136 [q0, q1, q2, q3, q4] [(0, m s1 s0)] ds m Q)) := P_g3 k166_135 rfl
set_option maxRecDepth 20000 in
theorem k166_136 : mjCode 166 136 = some (.ifCond .eq 9, 3, 145, 0) := by decide +kernel
theorem p166_136 {s0 : Int} {q0 q1 q2 q3 q4 : MV} {ds : Ds} {m : Mm} {Q : Ds → Mm → List MV → Prop} : WP 166 136 [q0, q1, q2, q3, q4] [(0, s0)] ds m Q = (if s0 = 0 then WP 166 145 [q0, q1, q2, q3, q4] [] ds m Q else WP 166 139 [q0, q1, q2, q3, q4] [] ds m Q) := P_if k166_136 rfl
set_option maxRecDepth 20000 in
theorem k166_139 : mjCode 166 139 = some (.aload_n 0, 1, 0, 0) := by decide +kernel
theorem p166_139 {l0 : Int} {q1 q2 q3 q4 : MV} {ds : Ds} {m : Mm} {Q : Ds → Mm → List MV → Prop} : WP 166 139 [(2, l0), q1, q2, q3, q4] [] ds m Q = (WP 166 140 [(2, l0), q1, q2, q3, q4] [(2, l0)] ds m Q) := P_nx k166_139 rfl
set_option maxRecDepth 20000 in
theorem k166_140 : mjCode 166 140 = some (.iload 4, 2, 0, 0) := by decide +kernel
theorem p166_140 {l4 s0 : Int} {q0 q1 q2 q3 : MV} {ds : Ds} {m : Mm} {Q : Ds → Mm → List MV → Prop} : WP 166 140 [q0, q1, q2, q3, (0, l4)] [(2, s0)] ds m Q = (WP 166 142 [q0, q1, q2, q3, (0, l4)] [(0, l4), (2, s0)] ds m Q) := P_nx k166_140 rfl
set_option maxRecDepth 20000 in
theorem k166_142 : mjCode 166 142 = some (.invokevirtual 258, 3, 162, 2) := by decide +kernel
theorem p166_142 {s0 s1 : Int} {q0 q1 q2 q3 q4 : MV} {ds : Ds} {m : Mm} {Q : Ds → Mm → List MV → Prop} : WP 166 142 [q0, q1, q2, q3, q4] [(0, s0), (2, s1)] ds m Q = ((dk ds s1 = 7 ∧ WP 161 0 [(2, s1), (0, s0), (3, 0), (3, 0), (3, 0), (3, 0), (3, 0)] [] ds m (fun d2 m2 r2 => WP 166 145 [q0, q1, q2, q3, q4] (r2 ++ []) d2 m2 Q))) := P_cv k166_142 mx161 mo161 rfl rfl rfl rfl rfl rfl rfl rfl
set_option maxRecDepth 20000 in
theorem k166_145 : mjCode 166 145 = some (.iinc 4 1, 3, 0, 0) := by decide +kernel
theorem p166_145 {l4 : Int} {q0 q1 q2 q3 : MV} {ds : Ds} {m : Mm} {Q : Ds → Mm → List MV → Prop} : WP 166 145 [q0, q1, q2, q3, (0, l4)] [] ds m Q = (WP 166 148 [q0, q1, q2, q3, (0, w32 (l4 + 1))] [] ds m Q) := P_nx k166_145 rfl
set_option maxRecDepth 20000 in
theorem k166_148 : mjCode 166 148 = some (.goto (-35), 3, 113, 0) := by decide +kernel
theorem p166_148 {q0 q1 q2 q3 q4 : MV} {ds : Ds} {m : Mm} {Q : Ds → Mm → List MV → Prop} : WP 166 148 [q0, q1, q2, q3, q4] [] ds m Q = (WP 166 113 [q0, q1, q2, q3, q4] [] ds m Q) := P_nx k166_148 rfl
set_option maxRecDepth 20000 in
theorem k166_151 : mjCode 166 151 = some (.iconst 0, 1, 0, 0) := by decide +kernel
theorem p166_151 {q0 q1 q2 q3 q4 : MV} {ds : Ds} {m : Mm} {Q : Ds → Mm → List MV → Prop} : WP 166 151 [q0, q1, q2, q3, q4] [] ds m Q = (WP 166 152 [q0, q1, q2, q3, q4] [(0, 0)] ds m Q) := P_nx k166_151 rfl
set_option maxRecDepth 20000 in
theorem k166_152 : mjCode 166 152 = some (.istore 4, 2, 0, 0) := by decide +kernel
theorem p166_152 {l3 s0 : Int} {q0 q1 q2 q4 : MV} {ds : Ds} {m : Mm} {Q : Ds → Mm → List MV → Prop} : WP 166 152 [q0, q1, q2, (0, l3), q4] [(0, s0)] ds m Q = (WP 166 154 [q0, q1, q2, (0, l3), (0, s0)] [] ds m Q) := P_nx k166_152 rfl
set_option maxRecDepth 20000 in
theorem k166_154 : mjCode 166 154 = some (.iload 4, 2, 0, 0) := by decide +kernel
theorem p166_154 {l4 : Int} {q0 q1 q2 q3 : MV} {ds : Ds} {m : Mm} {Q : Ds → Mm → List MV → Prop} : WP 166 154 [q0, q1, q2, q3, (0, l4)] [] ds m Q = (WP 166 156 [q0, q1, q2, q3, (0, l4)] [(0, l4)] ds m Q) := P_nx k166_154 rfl
set_option maxRecDepth 20000 in
theorem k166_156 : mjCode 166 156 = some (.aload_n 0, 1, 0, 0) := by decide +kernel
theorem p166_156 {l0 s0 : Int} {q1 q2 q3 q4 : MV} {ds : Ds} {m : Mm} {Q : Ds → Mm → List MV → Prop} : WP 166 156 [(2, l0), q1, q2, q3, q4] [(0, s0)] ds m Q = (WP 166 157 [(2, l0), q1, q2, q3, q4] [(2, l0), (0, s0)] ds m Q) := P_nx k166_156 rfl
set_option maxRecDepth 20000 in
theorem k166_157 : mjCode 166 157 = some (.getfield 245, 3, 7, 30) := by decide +kernel
theorem p166_157 {s0 s1 : Int} {q0 q1 q2 q3 q4 : MV} {ds : Ds} {m : Mm} {Q : Ds → Mm → List MV → Prop} : WP 166 157 [q0, q1, q2, q3, q4] [(2, s0), (0, s1)] ds m Q = ((dk ds s0 = 7 ∧ WP 166 160 [q0, q1, q2, q3, q4] [(0, m s0 30), (0, s1)] ds m Q)) := P_gd k166_157 rfl
set_option maxRecDepth 20000 in
theorem k166_160 : mjCode 166 160 = some (.if_icmp .ge 30, 3, 190, 0) := by decide +kernel
theorem p166_160 {s0 s1 : Int} {q0 q1 q2 q3 q4 : MV} {ds : Ds} {m : Mm} {Q : Ds → Mm → List MV → Prop} : WP 166 160 [q0, q1, q2, q3, q4] [(0, s0), (0, s1)] ds m Q = (if s1 < s0 then WP 166 163 [q0, q1, q2, q3, q4] [] ds m Q else WP 166 190 [q0, q1, q2, q3, q4] [] ds m Q) := P_if k166_160 rfl
set_option maxRecDepth 20000 in
theorem k166_163 : mjCode 166 163 = some (.iload_n 3, 1, 0, 0) := by decide +kernel
theorem p166_163 {l3 : Int} {q0 q1 q2 q4 : MV} {ds : Ds} {m : Mm} {Q : Ds → Mm → List MV → Prop} : WP 166 163 [q0, q1, q2, (0, l3), q4] [] ds m Q = (WP 166 164 [q0, q1, q2, (0, l3), q4] [(0, l3)] ds m Q) := P_nx k166_163 rfl
set_option maxRecDepth 20000 in
theorem k166_164 : mjCode 166 164 = some (.ifCond .ne 14, 3, 178, 0) := by decide +kernel
theorem p166_164 {s0 : Int} {q0 q1 q2 q3 q4 : MV} {ds : Ds} {m : Mm} {Q : Ds → Mm → List MV → Prop} : WP 166 164 [q0, q1, q2, q3, q4] [(0, s0)] ds m Q = (if s0 = 0 then WP 166 167 [q0, q1, q2, q3, q4] [] ds m Q else WP 166 178 [q0, q1, q2, q3, q4] [] ds m Q) := P_if k166_164 rfl
set_option maxRecDepth 20000 in
theorem k166_167 : mjCode 166 167 = some (.aload_n 0, 1, 0, 0) := by decide +kernel
theorem p166_167 {l0 : Int} {q1 q2 q3 q4 : MV} {ds : Ds} {m : Mm} {Q : Ds → Mm → List MV → Prop} : WP 166 167 [(2, l0), q1, q2, q3, q4] [] ds m Q = (WP 166 168 [(2, l0), q1, q2, q3, q4] [(2, l0)] ds m Q) := P_nx k166_167 rfl
set_option maxRecDepth 20000 in
theorem k166_168 : mjCode 166 168 = some (.getfield 90, 3, 7, 32) := by decide +kernel
theorem p166_168 {s0 : Int} {q0 q1 q2 q3 q4 : MV} {ds : Ds} {m : Mm} {Q : Ds → Mm → List MV → Prop} : WP 166 168 [q0, q1, q2, q3, q4] [(2, s0)] ds m Q = ((dk ds s0 = 7 ∧ WP 166 171 [q0, q1, q2, q3, q4] [(2, m s0 32)] ds m Q)) := P_gd k166_168 rfl
set_option maxRecDepth 20000 in
theorem k166_171 : mjCode 166 171 = some (.iload 4, 2, 0, 0) := by decide +kernel
theorem p166_171 {l4 s0 : Int} {q0 q1 q2 q3 : MV} {ds : Ds} {m : Mm} {Q : Ds → Mm → List MV → Prop} : WP 166 171 [q0, q1, q2, q3, (0, l4)] [(2, s0)] ds m Q = (WP 166 173 [q0, q1, q2, q3, (0, l4)] [(0, l4), (2, s0)] ds m Q) := P_nx k166_171 rfl
set_option maxRecDepth 20000 in
theorem k166_173 : mjCode 166 173 = some (.iaload, 1, 0, 0) := by decide +kernel
theorem p166_173 {s0 s1 : Int} {q0 q1 q2 q3 q4 : MV} {ds : Ds} {m : Mm} {Q : Ds → Mm → List MV → Prop} : WP 166 173 [q0, q1, q2, q3, q4] [(0, s0), (2, s1)] ds m Q = ((dk ds s1 = 10 ∧ 0 ≤ s0 ∧ s0 < dl ds s1 ∧ WP 166 174 [q0, q1, q2, q3, q4] [(0, m s1 s0)] ds m Q)) := P_g3 k166_173 rfl
set_option maxRecDepth 20000 in
theorem k166_174 : mjCode 166 174 = some (.iconst (-1), 1, 0, 0) := by decide +kernel
theorem p166_174 {s0 : Int} {q0 q1 q2 q3 q4 : MV} {ds : Ds} {m : Mm} {Q : Ds → Mm → List MV → Prop} : WP 166 174 [q0, q1, q2, q3, q4] [(0, s0)] ds m Q = (WP 166 175 [q0, q1, q2, q3, q4] [(0, (-1)), (0, s0)] ds m Q) := P_nx k166_174 rfl
set_option maxRecDepth 20000 in
theorem k166_175 : mjCode 166 175 = some (.if_icmp .eq 7, 3, 182, 0) := by decide +kernel
theorem p166_175 {s0 s1 : Int} {q0 q1 q2 q3 q4 : MV} {ds : Ds} {m : Mm} {Q : Ds → Mm → List MV → Prop} : WP 166 175 [q0, q1, q2, q3, q4] [(0, s0), (0, s1)] ds m Q = (if s1 = s0 then WP 166 182 [q0, q1, q2, q3, q4] [] ds m Q else WP 166 178 [q0, q1, q2, q3, q4] [] ds m Q) := P_if k166_175 rfl
set_option maxRecDepth 20000 in
theorem k166_178 : mjCode 166 178 = some (.iconst 1, 1, 0, 0) := by decide +kernel
theorem p166_178 {q0 q1 q2 q3 q4 : MV} {ds : Ds} {m : Mm} {Q : Ds → Mm → List MV → Prop} : WP 166 178 [q0, q1, q2, q3, q4] [] ds m Q = (WP 166 179 [q0, q1, q2, q3, q4] [(0, 1)] ds m Q) := P_nx k166_178 rfl
set_option maxRecDepth 20000 in
theorem k166_179 : mjCode 166 179 = some (.goto 4, 3, 183, 0) := by decide +kernel
theorem p166_179 {s0 : Int} {q0 q1 q2 q3 q4 : MV} {ds : Ds} {m : Mm} {Q : Ds → Mm → List MV → Prop} : WP 166 179 [q0, q1, q2, q3, q4] [(0, s0)] ds m Q = (WP 166 183 [q0, q1, q2, q3, q4] [(0, s0)] ds m Q) := P_nx k166_179 rfl
set_option maxRecDepth 20000 in
theorem k166_182 : mjCode 166 182 = some (.iconst 0, 1, 0, 0) := by decide +kernel
theorem p166_182 {q0 q1 q2 q3 q4 : MV} {ds : Ds} {m : Mm} {Q : Ds → Mm → List MV → Prop} : WP 166 182 [q0, q1, q2, q3, q4] [] ds m Q = (WP 166 183 [q0, q1, q2, q3, q4] [(0, 0)] ds m Q) := P_nx k166_182 rfl
set_option maxRecDepth 20000 in
theorem k166_183 : mjCode 166 183 = some (.istore_n 3, 1, 0, 0) := by decide +kernel
theorem p166_183 {l2 s0 : Int} {q0 q1 q3 q4 : MV} {ds : Ds} {m : Mm} {Q : Ds → Mm → List MV → Prop} : WP 166 183 [q0, q1, (0, l2), q3, q4] [(0, s0)] ds m Q = (WP 166 184 [q0, q1, (0, l2), (0, s0), q4] [] ds m Q) := P_nx k166_183 rfl
set_option maxRecDepth 20000 in
theorem k166_184 : mjCode 166 184 = some (.iinc 4 1, 3, 0, 0) := by decide +kernel
theorem p166_184 {l4 : Int} {q0 q1 q2 q3 : MV} {ds : Ds} {m : Mm} {Q : Ds → Mm → List MV → Prop} : WP 166 184 [q0, q1, q2, q3, (0, l4)] [] ds m Q = (WP 166 187 [q0, q1, q2, q3, (0, w32 (l4 + 1))] [] ds m Q) := P_nx k166_184 rfl
set_option maxRecDepth 20000 in
theorem k166_187 : mjCode 166 187 = some (.goto (-33), 3, 154, 0) := by decide +kernel
theorem p166_187 {q0 q1 q2 q3 q4 : MV} {ds : Ds} {m : Mm} {Q : Ds → Mm → List MV → Prop} : WP 166 187 [q0, q1, q2, q3, q4] [] ds m Q = (WP 166 154 [q0, q1, q2, q3, q4] [] ds m Q) := P_nx k166_187 rfl
set_option maxRecDepth 20000 in
theorem k166_190 : mjCode 166 190 = some (.aload_n 0, 1, 0, 0) := by decide +kernel
theorem p166_190 {l0 : Int} {q1 q2 q3 q4 : MV} {ds : Ds} {m : Mm} {Q : Ds → Mm → List MV → Prop} : WP 166 190 [(2, l0), q1, q2, q3, q4] [] ds m Q = (WP 166 191 [(2, l0), q1, q2, q3, q4] [(2, l0)] ds m Q) := P_nx k166_190 rfl
set_option maxRecDepth 20000 in
theorem k166_191 : mjCode 166 191 = some (.invokevirtual 251, 3, 165, 1) := by decide +kernel
theorem p166_191 {s0 : Int} {q0 q1 q2 q3 q4 : MV} {ds : Ds} {m : Mm} {Q : Ds → Mm → List MV → Prop} : WP 166 191 [q0, q1, q2, q3, q4] [(2, s0)] ds m Q = ((dk ds s0 = 7 ∧ WP 164 0 [(2, s0)] [] ds m (fun d2 m2 r2 => WP 166 194 [q0, q1, q2, q3, q4] (r2 ++ []) d2 m2 Q))) := P_cv k166_191 mx164 mo164 rfl rfl rfl rfl rfl rfl rfl rfl
set_option maxRecDepth 20000 in
theorem k166_194 : mjCode 166 194 = some (.ifCond .eq 7, 3, 201, 0) := by decide +kernel
theorem p166_194 {s0 : Int} {q0 q1 q2 q3 q4 : MV} {ds : Ds} {m : Mm} {Q : Ds → Mm → List MV → Prop} : WP 166 194 [q0, q1, q2, q3, q4] [(0, s0)] ds m Q = (if s0 = 0 then WP 166 201 [q0, q1, q2, q3, q4] [] ds m Q else WP 166 197 [q0, q1, q2, q3, q4] [] ds m Q) := P_if k166_194 rfl
set_option maxRecDepth 20000 in
theorem k166_197 : mjCode 166 197 = some (.iconst 2, 1, 0, 0) := by decide +kernel
theorem p166_197 {q0 q1 q2 q3 q4 : MV} {ds : Ds} {m : Mm} {Q : Ds → Mm → List MV → Prop} : WP 166 197 [q0, q1, q2, q3, q4] [] ds m Q = (WP 166 198 [q0, q1, q2, q3, q4] [(0, 2)] ds m Q) := P_nx k166_197 rfl
set_option maxRecDepth 20000 in
theorem k166_198 : mjCode 166 198 = some (.goto 33, 3, 231, 0) := by decide +kernel
theorem p166_198 {s0 : Int} {q0 q1 q2 q3 q4 : MV} {ds : Ds} {m : Mm} {Q : Ds → Mm → List MV → Prop} : WP 166 198 [q0, q1, q2, q3, q4] [(0, s0)] ds m Q = (WP 166 231 [q0, q1, q2, q3, q4] [(0, s0)] ds m Q) := P_nx k166_198 rfl
set_option maxRecDepth 20000 in
theorem k166_201 : mjCode 166 201 = some (.aload_n 0, 1, 0, 0) := by decide +kernel
theorem p166_201 {l0 : Int} {q1 q2 q3 q4 : MV} {ds : Ds} {m : Mm} {Q : Ds → Mm → List MV → Prop} : WP 166 201 [(2, l0), q1, q2, q3, q4] [] ds m Q = (WP 166 202 [(2, l0), q1, q2, q3, q4] [(2, l0)] ds m Q) := P_nx k166_201 rfl
set_option maxRecDepth 20000 in
theorem k166_202 : mjCode 166 202 = some (.getfield 210, 3, 7, 25) := by decide +kernel
theorem p166_202 {s0 : Int} {q0 q1 q2 q3 q4 : MV} {ds : Ds} {m : Mm} {Q : Ds → Mm → List MV → Prop} : WP 166 202 [q0, q1, q2, q3, q4] [(2, s0)] ds m Q = ((dk ds s0 = 7 ∧ WP 166 205 [q0, q1, q2, q3, q4] [(0, m s0 25)] ds m Q)) := P_gd k166_202 rfl
set_option maxRecDepth 20000 in
theorem k166_205 : mjCode 166 205 = some (.ifCond .ne 11, 3, 216, 0) := by decide +kernel
theorem p166_205 {s0 : Int} {q0 q1 q2 q3 q4 : MV} {ds : Ds} {m : Mm} {Q : Ds → Mm → List MV → Prop} : WP 166 205 [q0, q1, q2, q3, q4] [(0, s0)] ds m Q = (if s0 = 0 then WP 166 208 [q0, q1, q2, q3, q4] [] ds m Q else WP 166 216 [q0, q1, q2, q3, q4] [] ds m Q) := P_if k166_205 rfl
set_option maxRecDepth 20000 in
theorem k166_208 : mjCode 166 208 = some (.iload_n 3, 1, 0, 0) := by decide +kernel
theorem p166_208 {l3 : Int} {q0 q1 q2 q4 : MV} {ds : Ds} {m : Mm} {Q : Ds → Mm → List MV → Prop} : WP 166 208 [q0, q1, q2, (0, l3), q4] [] ds m Q = (WP 166 209 [q0, q1, q2, (0, l3), q4] [(0, l3)] ds m Q) := P_nx k166_208 rfl
set_option maxRecDepth 20000 in
theorem k166_209 : mjCode 166 209 = some (.ifCond .ne 7, 3, 216, 0) := by decide +kernel
theorem p166_209 {s0 : Int} {q0 q1 q2 q3 q4 : MV} {ds : Ds} {m : Mm} {Q : Ds → Mm → List MV → Prop} : WP 166 209 [q0, q1, q2, q3, q4] [(0, s0)] ds m Q = (if s0 = 0 then WP 166 212 [q0, q1, q2, q3, q4] [] ds m Q else WP 166 216 [q0, q1, q2, q3, q4] [] ds m Q) := P_if k166_209 rfl
set_option maxRecDepth 20000 in
theorem k166_212 : mjCode 166 212 = some (.iconst 0, 1, 0, 0) := by decide +kernel
theorem p166_212 {q0 q1 q2 q3 q4 : MV} {ds : Ds} {m : Mm} {Q : Ds → Mm → List MV → Prop} : WP 166 212 [q0, q1, q2, q3, q4] [] ds m Q = (WP 166 213 [q0, q1, q2, q3, q4] [(0, 0)] ds m Q) := P_nx k166_212 rfl
set_option maxRecDepth 20000 in
theorem k166_213 : mjCode 166 213 = some (.goto 18, 3, 231, 0) := by decide +kernel
theorem p166_213 {s0 : Int} {q0 q1 q2 q3 q4 : MV} {ds : Ds} {m : Mm} {Q : Ds → Mm → List MV → Prop} : WP 166 213 [q0, q1, q2, q3, q4] [(0, s0)] ds m Q = (WP 166 231 [q0, q1, q2, q3, q4] [(0, s0)] ds m Q) := P_nx k166_213 rfl
set_option maxRecDepth 20000 in
theorem k166_216 : mjCode 166 216 = some (.aload_n 0, 1, 0, 0) := by decide +kernel
theorem p166_216 {l0 : Int} {q1 q2 q3 q4 : MV} {ds : Ds} {m : Mm} {Q : Ds → Mm → List MV → Prop} : WP 166 216 [(2, l0), q1, q2, q3, q4] [] ds m Q = (WP 166 217 [(2, l0), q1, q2, q3, q4] [(2, l0)] ds m Q) := P_nx k166_216 rfl
set_option maxRecDepth 20000 in
theorem k166_217 : mjCode 166 217 = some (.getfield 213, 3, 7, 26) := by decide +kernel
theorem p166_217 {s0 : Int} {q0 q1 q2 q3 q4 : MV} {ds : Ds} {m : Mm} {Q : Ds → Mm → List MV → Prop} : WP 166 217 [q0, q1, q2, q3, q4] [(2, s0)] ds m Q = ((dk ds s0 = 7 ∧ WP 166 220 [q0, q1, q2, q3, q4] [(0, m s0 26)] ds m Q)) := P_gd k166_217 rfl
set_option maxRecDepth 20000 in
theorem k166_220 : mjCode 166 220 = some (.sipush 399, 3, 0, 0) := by decide +kernel
theorem p166_220 {s0 : Int} {q0 q1 q2 q3 q4 : MV} {ds : Ds} {m : Mm} {Q : Ds → Mm → List MV → Prop} : WP 166 220 [q0, q1, q2, q3, q4] [(0, s0)] ds m Q = (WP 166 223 [q0, q1, q2, q3, q4] [(0, 399), (0, s0)] ds m Q) := P_nx k166_220 rfl
set_option maxRecDepth 20000 in
theorem k166_223 : mjCode 166 223 = some (.if_icmp .ne 7, 3, 230, 0) := by decide +kernel
theorem p166_223 {s0 s1 : Int} {q0 q1 q2 q3 q4 : MV} {ds : Ds} {m : Mm} {Q : Ds → Mm → List MV → Prop} : WP 166 223 [q0, q1, q2, q3, q4] [(0, s0), (0, s1)] ds m Q = (if s1 = s0 then WP 166 226 [q0, q1, q2, q3, q4] [] ds m Q else WP 166 230 [q0, q1, q2, q3, q4] [] ds m Q) := P_if k166_223 rfl
set_option maxRecDepth 20000 in
theorem k166_226 : mjCode 166 226 = some (.iconst 1, 1, 0, 0) := by decide +kernel
theorem p166_226 {q0 q1 q2 q3 q4 : MV} {ds : Ds} {m : Mm} {Q : Ds → Mm → List MV → Prop} : WP 166 226 [q0, q1, q2, q3, q4] [] ds m Q = (WP 166 227 [q0, q1, q2, q3, q4] [(0, 1)] ds m Q) := P_nx k166_226 rfl
set_option maxRecDepth 20000 in
theorem k166_227 : mjCode 166 227 = some (.goto 4, 3, 231, 0) := by decide +kernel
theorem p166_227 {s0 : Int} {q0 q1 q2 q3 q4 : MV} {ds : Ds} {m : Mm} {Q : Ds → Mm → List MV → Prop} : WP 166 227 [q0, q1, q2, q3, q4] [(0, s0)] ds m Q = (WP 166 231 [q0, q1, q2, q3, q4] [(0, s0)] ds m Q) := P_nx k166_227 rfl
set_option maxRecDepth 20000 in
theorem k166_230 : mjCode 166 230 = some (.iconst (-1), 1, 0, 0) := by decide +kernel
theorem p166_230 {q0 q1 q2 q3 q4 : MV} {ds : Ds} {m : Mm} {Q : Ds → Mm → List MV → Prop} : WP 166 230 [q0, q1, q2, q3, q4] [] ds m Q = (WP 166 231 [q0, q1, q2, q3, q4] [(0, (-1))] ds m Q) := P_nx k166_230 rfl
set_option maxRecDepth 20000 in
theorem k166_231 : mjCode 166 231 = some (.istore 4, 2, 0, 0) := by decide +kernel
theorem p166_231 {l3 s0 : Int} {q0 q1 q2 q4 : MV} {ds : Ds} {m : Mm} {Q : Ds → Mm → List MV → Prop} : WP 166 231 [q0, q1, q2, (0, l3), q4] [(0, s0)] ds m Q = (WP 166 233 [q0, q1, q2, (0, l3), (0, s0)] [] ds m Q) := P_nx k166_231 rfl
set_option maxRecDepth 20000 in
theorem k166_233 : mjCode 166 233 = some (.aload_n 0, 1, 0, 0) := by decide +kernel
theorem p166_233 {l0 : Int} {q1 q2 q3 q4 : MV} {ds : Ds} {m : Mm} {Q : Ds → Mm → List MV → Prop} : WP 166 233 [(2, l0), q1, q2, q3, q4] [] ds m Q = (WP 166 234 [(2, l0), q1, q2, q3, q4] [(2, l0)] ds m Q) := P_nx k166_233 rfl
set_option maxRecDepth 20000 in
theorem k166_234 : mjCode 166 234 = some (.getfield 102, 3, 7, 36) := by decide +kernel
theorem p166_234 {s0 : Int} {q0 q1 q2 q3 q4 : MV} {ds : Ds} {m : Mm} {Q : Ds → Mm → List MV → Prop} : WP 166 234 [q0, q1, q2, q3, q4] [(2, s0)] ds m Q = ((dk ds s0 = 7 ∧ WP 166 237 [q0, q1, q2, q3, q4] [(2, m s0 36)] ds m Q)) := P_gd k166_234 rfl
set_option maxRecDepth 20000 in
theorem k166_237 : mjCode 166 237 = some (.bipush 6, 2, 0, 0) := by decide +kernel
theorem p166_237 {s0 : Int} {q0 q1 q2 q3 q4 : MV} {ds : Ds} {m : Mm} {Q : Ds → Mm → List MV → Prop} : WP 166 237 [q0, q1, q2, q3, q4] [(2, s0)] ds m Q = (WP 166 239 [q0, q1, q2, q3, q4] [(0, 6), (2, s0)] ds m Q) := P_nx k166_237 rfl
set_option maxRecDepth 20000 in
theorem k166_239 : mjCode 166 239 = some (.aload_n 0, 1, 0, 0) := by decide +kernel
theorem p166_239 {l0 s0 s1 : Int} {q1 q2 q3 q4 : MV} {ds : Ds} {m : Mm} {Q : Ds → Mm → List MV → Prop} : WP 166 239 [(2, l0), q1, q2, q3, q4] [(0, s0), (2, s1)] ds m Q = (WP 166 240 [(2, l0), q1, q2, q3, q4] [(2, l0), (0, s0), (2, s1)] ds m Q) := P_nx k166_239 rfl
set_option maxRecDepth 20000 in
theorem k166_240 : mjCode 166 240 = some (.getfield 222, 3, 7, 45) := by decide +kernel
theorem p166_240 {s0 s1 s2 : Int} {q0 q1 q2 q3 q4 : MV} {ds : Ds} {m : Mm} {Q : Ds → Mm → List MV → Prop} : WP 166 240 [q0, q1, q2, q3, q4] [(2, s0), (0, s1), (2, s2)] ds m Q = ((dk ds s0 = 7 ∧ WP 166 243 [q0, q1, q2, q3, q4] [(0, m s0 45), (0, s1), (2, s2)] ds m Q)) := P_gd k166_240 rfl
set_option maxRecDepth 20000 in
theorem k166_243 : mjCode 166 243 = some (.imul, 1, 0, 0) := by decide +kernel
theorem p166_243 {s0 s1 s2 : Int} {q0 q1 q2 q3 q4 : MV} {ds : Ds} {m : Mm} {Q : Ds → Mm → List MV → Prop} : WP 166 243 [q0, q1, q2, q3, q4] [(0, s0), (0, s1), (2, s2)] ds m Q = (WP 166 244 [q0, q1, q2, q3, q4] [(0, w32 (s1 * s0)), (2, s2)] ds m Q) := P_nx k166_243 rfl
set_option maxRecDepth 20000 in
theorem k166_244 : mjCode 166 244 = some (.iconst 1, 1, 0, 0) := by decide +kernel
theorem p166_244 {s0 s1 : Int} {q0 q1 q2 q3 q4 : MV} {ds : Ds} {m : Mm} {Q : Ds → Mm → List MV → Prop} : WP 166 244 [q0, q1, q2, q3, q4] [(0, s0), (2, s1)] ds m Q = (WP 166 245 [q0, q1, q2, q3, q4] [(0, 1), (0, s0), (2, s1)] ds m Q) := P_nx k166_244 rfl
set_option maxRecDepth 20000 in
theorem k166_245 : mjCode 166 245 = some (.iadd, 1, 0, 0) := by decide +kernel
theorem p166_245 {s0 s1 s2 : Int} {q0 q1 q2 q3 q4 : MV} {ds : Ds} {m : Mm} {Q : Ds → Mm → List MV → Prop} : WP 166 245 [q0, q1, q2, q3, q4] [(0, s0), (0, s1), (2, s2)] ds m Q = (WP 166 246 [q0, q1, q2, q3, q4] [(0, w32 (s1 + s0)), (2, s2)] ds m Q) := P_nx k166_245 rfl
set_option maxRecDepth 20000 in
theorem k166_246 : mjCode 166 246 = some (.aload_n 0, 1, 0, 0) := by decide +kernel
theorem p166_246 {l0 s0 s1 : Int} {q1 q2 q3 q4 : MV} {ds : Ds} {m : Mm} {Q : Ds → Mm → List MV → Prop} : WP 166 246 [(2, l0), q1, q2, q3, q4] [(0, s0), (2, s1)] ds m Q = (WP 166 247 [(2, l0), q1, q2, q3, q4] [(2, l0), (0, s0), (2, s1)] ds m Q) := P_nx k166_246 rfl
set_option maxRecDepth 20000 in
theorem k166_247 : mjCode 166 247 = some (.getfield 213, 3, 7, 26) := by decide +kernel
theorem p166_247 {s0 s1 s2 : Int} {q0 q1 q2 q3 q4 : MV} {ds : Ds} {m : Mm} {Q : Ds → Mm → List MV → Prop} : WP 166 247 [q0, q1, q2, q3, q4] [(2, s0), (0, s1), (2, s2)] ds m Q = ((dk ds s0 = 7 ∧ WP 166 250 [q0, q1, q2, q3, q4] [(0, m s0 26), (0, s1), (2, s2)] ds m Q)) := P_gd k166_247 rfl
set_option maxRecDepth 20000 in
theorem k166_250 : mjCode 166 250 = some (.iastore, 1, 0, 0) := by decide +kernel
theorem p166_250 {s0 s1 s2 : Int} {q0 q1 q2 q3 q4 : MV} {ds : Ds} {m : Mm} {Q : Ds → Mm → List MV → Prop} : WP 166 250 [q0, q1, q2, q3, q4] [(0, s0), (0, s1), (2, s2)] ds m Q = ((dk ds s2 = 10 ∧ 0 ≤ s1 ∧ s1 < dl ds s2 ∧ WP 166 251 [q0, q1, q2, q3, q4] [] ds (up m s2 s1 s0) Q)) := P_s3 k166_250 rfl
set_option maxRecDepth 20000 in
theorem k166_251 : mjCode 166 251 = some (.iload 4, 2, 0, 0) := by decide +kernel
theorem p166_251 {l4 : Int} {q0 q1 q2 q3 : MV} {ds : Ds} {m : Mm} {Q : Ds → Mm → List MV → Prop} : WP 166 251 [q0, q1, q2, q3, (0, l4)] [] ds m Q = (WP 166 253 [q0, q1, q2, q3, (0, l4)] [(0, l4)] ds m Q) := P_nx k166_251 rfl
set_option maxRecDepth 20000 in
theorem k166_253 : mjCode 166 253 = some (.iconst (-1), 1, 0, 0) := by decide +kernel
theorem p166_253 {s0 : Int} {q0 q1 q2 q3 q4 : MV} {ds : Ds} {m : Mm} {Q : Ds → Mm → List MV → Prop} : WP 166 253 [q0, q1, q2, q3, q4] [(0, s0)] ds m Q = (WP 166 254 [q0, q1, q2, q3, q4] [(0, (-1)), (0, s0)] ds m Q) := P_nx k166_253 rfl
set_option maxRecDepth 20000 in
theorem k166_254 : mjCode 166 254 = some (.if_icmp .ne 7, 3, 261, 0) := by decide +kernel
theorem p166_254 {s0 s1 : Int} {q0 q1 q2 q3 q4 : MV} {ds : Ds} {m : Mm} {Q : Ds → Mm → List MV → Prop} : WP 166 254 [q0, q1, q2, q3, q4] [(0, s0), (0, s1)] ds m Q = (if s1 = s0 then WP 166 257 [q0, q1, q2, q3, q4] [] ds m Q else WP 166 261 [q0, q1, q2, q3, q4] [] ds m Q) := P_if k166_254 rfl
set_option maxRecDepth 20000 in
theorem k166_257 : mjCode 166 257 = some (.iconst 1, 1, 0, 0) := by decide +kernel
theorem p166_257 {q0 q1 q2 q3 q4 : MV} {ds : Ds} {m : Mm} {Q : Ds → Mm → List MV → Prop} : WP 166 257 [q0, q1, q2, q3, q4] [] ds m Q = (WP 166 258 [q0, q1, q2, q3, q4] [(0, 1)] ds m Q) := P_nx k166_257 rfl
set_option maxRecDepth 20000 in
theorem k166_258 : mjCode 166 258 = some (.goto 4, 3, 262, 0) := by decide +kernel
theorem p166_258 {s0 : Int} {q0 q1 q2 q3 q4 : MV} {ds : Ds} {m : Mm} {Q : Ds → Mm → List MV → Prop} : WP 166 258 [q0, q1, q2, q3, q4] [(0, s0)] ds m Q = (WP 166 262 [q0, q1, q2, q3, q4] [(0, s0)] ds m Q) := P_nx k166_258 rfl
set_option maxRecDepth 20000 in
theorem k166_261 : mjCode 166 261 = some (.iconst 0, 1, 0, 0) := by decide +kernel
theorem p166_261 {q0 q1 q2 q3 q4 : MV} {ds : Ds} {m : Mm} {Q : Ds → Mm → List MV → Prop} : WP 166 261 [q0, q1, q2, q3, q4] [] ds m Q = (WP 166 262 [q0, q1, q2, q3, q4] [(0, 0)] ds m Q) := P_nx k166_261 rfl
set_option maxRecDepth 20000 in
theorem k166_262 : mjCode 166 262 = some (.istore_n 2, 1, 0, 0) := by decide +kernel
theorem p166_262 {l1 s0 : Int} {q0 q2 q3 q4 : MV} {ds : Ds} {m : Mm} {Q : Ds → Mm → List MV → Prop} : WP 166 262 [q0, (0, l1), q2, q3, q4] [(0, s0)] ds m Q = (WP 166 263 [q0, (0, l1), (0, s0), q3, q4] [] ds m Q) := P_nx k166_262 rfl
set_option maxRecDepth 20000 in
theorem k166_263 : mjCode 166 263 = some (.iload_n 2, 1, 0, 0) := by decide +kernel
theorem p166_263 {l2 : Int} {q0 q1 q3 q4 : MV} {ds : Ds} {m : Mm} {Q : Ds → Mm → List MV → Prop} : WP 166 263 [q0, q1, (0, l2), q3, q4] [] ds m Q = (WP 166 264 [q0, q1, (0, l2), q3, q4] [(0, l2)] ds m Q) := P_nx k166_263 rfl
set_option maxRecDepth 20000 in
theorem k166_264 : mjCode 166 264 = some (.ifCond .ne 17, 3, 281, 0) := by decide +kernel
theorem p166_264 {s0 : Int} {q0 q1 q2 q3 q4 : MV} {ds : Ds} {m : Mm} {Q : Ds → Mm → List MV → Prop} : WP 166 264 [q0, q1, q2, q3, q4] [(0, s0)] ds m Q = (if s0 = 0 then WP 166 267 [q0, q1, q2, q3, q4] [] ds m Q else WP 166 281 [q0, q1, q2, q3, q4] [] ds m Q) := P_if k166_264 rfl
set_option maxRecDepth 20000 in
theorem k166_267 : mjCode 166 267 = some (.aload_n 0, 1, 0, 0) := by decide +kernel
theorem p166_267 {l0 : Int} {q1 q2 q3 q4 : MV} {ds : Ds} {m : Mm} {Q : Ds → Mm → List MV → Prop} : WP 166 267 [(2, l0), q1, q2, q3, q4] [] ds m Q = (WP 166 268 [(2, l0), q1, q2, q3, q4] [(2, l0)] ds m Q) := P_nx k166_267 rfl
set_option maxRecDepth 20000 in
theorem k166_268 : mjCode 166 268 = some (.getfield 102, 3, 7, 36) := by decide +kernel
theorem p166_268 {s0 : Int} {q0 q1 q2 q3 q4 : MV} {ds : Ds} {m : Mm} {Q : Ds → Mm → List MV → Prop} : WP 166 268 [q0, q1, q2, q3, q4] [(2, s0)] ds m Q = ((dk ds s0 = 7 ∧ WP 166 271 [q0, q1, q2, q3, q4] [(2, m s0 36)] ds m Q)) := P_gd k166_268 rfl
set_option maxRecDepth 20000 in
theorem k166_271 : mjCode 166 271 = some (.bipush 6, 2, 0, 0) := by decide +kernel
theorem p166_271 {s0 : Int} {q0 q1 q2 q3 q4 : MV} {ds : Ds} {m : Mm} {Q : Ds → Mm → List MV → Prop} : WP 166 271 [q0, q1, q2, q3, q4] [(2, s0)] ds m Q = (WP 166 273 [q0, q1, q2, q3, q4] [(0, 6), (2, s0)] ds m Q) := P_nx k166_271 rfl
set_option maxRecDepth 20000 in
theorem k166_273 : mjCode 166 273 = some (.aload_n 0, 1, 0, 0) := by decide +kernel
theorem p166_273 {l0 s0 s1 : Int} {q1 q2 q3 q4 : MV} {ds : Ds} {m : Mm} {Q : Ds → Mm → List MV → Prop} : WP 166 273 [(2, l0), q1, q2, q3, q4] [(0, s0), (2, s1)] ds m Q = (WP 166 274 [(2, l0), q1, q2, q3, q4] [(2, l0), (0, s0), (2, s1)] ds m Q) := P_nx k166_273 rfl
set_option maxRecDepth 20000 in
theorem k166_274 : mjCode 166 274 = some (.getfield 222, 3, 7, 45) := by decide +kernel
theorem p166_274 {s0 s1 s2 : Int} {q0 q1 q2 q3 q4 : MV} {ds : Ds} {m : Mm} {Q : Ds → Mm → List MV → Prop} : WP 166 274 [q0, q1, q2, q3, q4] [(2, s0), (0, s1), (2, s2)] ds m Q = ((dk ds s0 = 7 ∧ WP 166 277 [q0, q1, q2, q3, q4] [(0, m s0 45), (0, s1), (2, s2)] ds m Q)) := P_gd k166_274 rfl
set_option maxRecDepth 20000 in
theorem k166_277 : mjCode 166 277 = some (.imul, 1, 0, 0) := by decide +kernel
theorem p166_277 {s0 s1 s2 : Int} {q0 q1 q2 q3 q4 : MV} {ds : Ds} {m : Mm} {Q : Ds → Mm → List MV → Prop} : WP 166 277 [q0, q1, q2, q3, q4] [(0, s0), (0, s1), (2, s2)] ds m Q = (WP 166 278 [q0, q1, q2, q3, q4] [(0, w32 (s1 * s0)), (2, s2)] ds m Q) := P_nx k166_277 rfl
set_option maxRecDepth 20000 in
theorem k166_278 : mjCode 166 278 = some (.iload 4, 2, 0, 0) := by decide +kernel
theorem p166_278 {l4 s0 s1 : Int} {q0 q1 q2 q3 : MV} {ds : Ds} {m : Mm} {Q : Ds → Mm → List MV → Prop} : WP 166 278 [q0, q1, q2, q3, (0, l4)] [(0, s0), (2, s1)] ds m Q = (WP 166 280 [q0, q1, q2, q3, (0, l4)] [(0, l4), (0, s0), (2, s1)] ds m Q) := P_nx k166_278 rfl
set_option maxRecDepth 20000 in
theorem k166_280 : mjCode 166 280 = some (.iastore, 1, 0, 0) := by decide +kernel
theorem p166_280 {s0 s1 s2 : Int} {q0 q1 q2 q3 q4 : MV} {ds : Ds} {m : Mm} {Q : Ds → Mm → List MV → Prop} : WP 166 280 [q0, q1, q2, q3, q4] [(0, s0), (0, s1), (2, s2)] ds m Q = ((dk ds s2 = 10 ∧ 0 ≤ s1 ∧ s1 < dl ds s2 ∧ WP 166 281 [q0, q1, q2, q3, q4] [] ds (up m s2 s1 s0) Q)) := P_s3 k166_280 rfl
set_option maxRecDepth 20000 in
theorem k166_281 : mjCode 166 281 = some (.aload_n 0, 1, 0, 0) := by decide +kernel
theorem p166_281 {l0 : Int} {q1 q2 q3 q4 : MV} {ds : Ds} {m : Mm} {Q : Ds → Mm → List MV → Prop} : WP 166 281 [(2, l0), q1, q2, q3, q4] [] ds m Q = (WP 166 282 [(2, l0), q1, q2, q3, q4] [(2, l0)] ds m Q) := P_nx k166_281 rfl
set_option maxRecDepth 20000 in
theorem k166_282 : mjCode 166 282 = some (.dup, 1, 0, 0) := by decide +kernel
theorem p166_282 {s0 : Int} {q0 q1 q2 q3 q4 : MV} {ds : Ds} {m : Mm} {Q : Ds → Mm → List MV → Prop} : WP 166 282 [q0, q1, q2, q3, q4] [(2, s0)] ds m Q = (WP 166 283 [q0, q1, q2, q3, q4] [(2, s0), (2, s0)] ds m Q) := P_nx k166_282 rfl
set_option maxRecDepth 20000 in
theorem k166_283 : mjCode 166 283 = some (.getfield 213, 3, 7, 26) := by decide +kernel
theorem p166_283 {s0 s1 : Int} {q0 q1 q2 q3 q4 : MV} {ds : Ds} {m : Mm} {Q : Ds → Mm → List MV → Prop} : WP 166 283 [q0, q1, q2, q3, q4] [(2, s0), (2, s1)] ds m Q = ((dk ds s0 = 7 ∧ WP 166 286 [q0, q1, q2, q3, q4] [(0, m s0 26), (2, s1)] ds m Q)) := P_gd k166_283 rfl
set_option maxRecDepth 20000 in
theorem k166_286 : mjCode 166 286 = some (.iconst 1, 1, 0, 0) := by decide +kernel
theorem p166_286 {s0 s1 : Int} {q0 q1 q2 q3 q4 : MV} {ds : Ds} {m : Mm} {Q : Ds → Mm → List MV → Prop} : WP 166 286 [q0, q1, q2, q3, q4] [(0, s0), (2, s1)] ds m Q = (WP 166 287 [q0, q1, q2, q3, q4] [(0, 1), (0, s0), (2, s1)] ds m Q) := P_nx k166_286 rfl
set_option maxRecDepth 20000 in
theorem k166_287 : mjCode 166 287 = some (.iadd, 1, 0, 0) := by decide +kernel
theorem p166_287 {s0 s1 s2 : Int} {q0 q1 q2 q3 q4 : MV} {ds : Ds} {m : Mm} {Q : Ds → Mm → List MV → Prop} : WP 166 287 [q0, q1, q2, q3, q4] [(0, s0), (0, s1), (2, s2)] ds m Q = (WP 166 288 [q0, q1, q2, q3, q4] [(0, w32 (s1 + s0)), (2, s2)] ds m Q) := P_nx k166_287 rfl
set_option maxRecDepth 20000 in
theorem k166_288 : mjCode 166 288 = some (.putfield 213, 3, 7, 26) := by decide +kernel
theorem p166_288 {s0 s1 : Int} {q0 q1 q2 q3 q4 : MV} {ds : Ds} {m : Mm} {Q : Ds → Mm → List MV → Prop} : WP 166 288 [q0, q1, q2, q3, q4] [(0, s0), (2, s1)] ds m Q = ((dk ds s1 = 7 ∧ WP 166 291 [q0, q1, q2, q3, q4] [] ds (up m s1 26 s0) Q)) := P_pf k166_288 rfl
set_option maxRecDepth 20000 in
theorem k166_291 : mjCode 166 291 = some (.goto (-280), 3, 11, 0) := by decide +kernel
theorem p166_291 {q0 q1 q2 q3 q4 : MV} {ds : Ds} {m : Mm} {Q : Ds → Mm → List MV → Prop} : WP 166 291 [q0, q1, q2, q3, q4] [] ds m Q = (WP 166 11 [q0, q1, q2, q3, q4] [] ds m Q) := P_nx k166_291 rfl
set_option maxRecDepth 20000 in
theorem k166_294 : mjCode 166 294 = some (.return_, 1, 0, 0) := by decide +kernel
theorem p166_294 {q0 q1 q2 q3 q4 : MV} {ds : Ds} {m : Mm} {Q : Ds → Mm → List MV → Prop} : WP 166 294 [q0, q1, q2, q3, q4] [] ds m Q = (Q ds m []) := P_rv k166_294 rk166
set_option maxRecDepth 20000 in
theorem k167_0 : mjCode 167 0 = some (.aload_n 0, 1, 0, 0) := by decide +kernel
theorem p167_0 {l0 : Int} {q1 : MV} {ds : Ds} {m : Mm} {Q : Ds → Mm → List MV → Prop} : WP 167 0 [(2, l0), q1] [] ds m Q = (WP 167 1 [(2, l0), q1] [(2, l0)] ds m Q) := P_nx k167_0 rfl
set_option maxRecDepth 20000 in
theorem k167_1 : mjCode 167 1 = some (.iconst 0, 1, 0, 0) := by decide +kernel
theorem p167_1 {s0 : Int} {q0 q1 : MV} {ds : Ds} {m : Mm} {Q : Ds → Mm → List MV → Prop} : WP 167 1 [q0, q1] [(2, s0)] ds m Q = (WP 167 2 [q0, q1] [(0, 0), (2, s0)] ds m Q) := P_nx k167_1 rfl
set_option maxRecDepth 20000 in
theorem k167_2 : mjCode 167 2 = some (.invokevirtual 261, 3, 167, 2) := by decide +kernel
theorem p167_2 {s0 s1 : Int} {q0 q1 : MV} {ds : Ds} {m : Mm} {Q : Ds → Mm → List MV → Prop} : WP 167 2 [q0, q1] [(0, s0), (2, s1)] ds m Q = ((dk ds s1 = 7 ∧ WP 166 0 [(2, s1), (0, s0), (3, 0), (3, 0), (3, 0)] [] ds m (fun d2 m2 r2 => WP 167 5 [q0, q1] (r2 ++ []) d2 m2 Q))) := P_cv k167_2 mx166 mo166 rfl rfl rfl rfl rfl rfl rfl rfl
set_option maxRecDepth 20000 in
theorem k167_5 : mjCode 167 5 = some (.aload_n 0, 1, 0, 0) := by decide +kernel
theorem p167_5 {l0 : Int} {q1 : MV} {ds : Ds} {m : Mm} {Q : Ds → Mm → List MV → Prop} : WP 167 5 [(2, l0), q1] [] ds m Q = (WP 167 6 [(2, l0), q1] [(2, l0)] ds m Q) := P_nx k167_5 rfl
set_option maxRecDepth 20000 in
theorem k167_6 : mjCode 167 6 = some (.dup, 1, 0, 0) := by decide +kernel
theorem p167_6 {s0 : Int} {q0 q1 : MV} {ds : Ds} {m : Mm} {Q : Ds → Mm → List MV → Prop} : WP 167 6 [q0, q1] [(2, s0)] ds m Q = (WP 167 7 [q0, q1] [(2, s0), (2, s0)] ds m Q) := P_nx k167_6 rfl
set_option maxRecDepth 20000 in
theorem k167_7 : mjCode 167 7 = some (.getfield 264, 3, 7, 10) := by decide +kernel
theorem p167_7 {s0 s1 : Int} {q0 q1 : MV} {ds : Ds} {m : Mm} {Q : Ds → Mm → List MV → Prop} : WP 167 7 [q0, q1] [(2, s0), (2, s1)] ds m Q = ((dk ds s0 = 7 ∧ WP 167 10 [q0, q1] [(0, m s0 10), (2, s1)] ds m Q)) := P_gd k167_7 rfl
set_option maxRecDepth 20000 in
theorem k167_10 : mjCode 167 10 = some (.iconst 1, 1, 0, 0) := by decide +kernel
theorem p167_10 {s0 s1 : Int} {q0 q1 : MV} {ds : Ds} {m : Mm} {Q : Ds → Mm → List MV → Prop} : WP 167 10 [q0, q1] [(0, s0), (2, s1)] ds m Q = (WP 167 11 [q0, q1] [(0, 1), (0, s0), (2, s1)] ds m Q) := P_nx k167_10 rfl
set_option maxRecDepth 20000 in
theorem k167_11 : mjCode 167 11 = some (.iadd, 1, 0, 0) := by decide +kernel
theorem p167_11 {s0 s1 s2 : Int} {q0 q1 : MV} {ds : Ds} {m : Mm} {Q : Ds → Mm → List MV → Prop} : WP 167 11 [q0, q1] [(0, s0), (0, s1), (2, s2)] ds m Q = (WP 167 12 [q0, q1] [(0, w32 (s1 + s0)), (2, s2)] ds m Q) := P_nx k167_11 rfl
set_option maxRecDepth 20000 in
theorem k167_12 : mjCode 167 12 = some (.putfield 264, 3, 7, 10) := by decide +kernel
theorem p167_12 {s0 s1 : Int} {q0 q1 : MV} {ds : Ds} {m : Mm} {Q : Ds → Mm → List MV → Prop} : WP 167 12 [q0, q1] [(0, s0), (2, s1)] ds m Q = ((dk ds s1 = 7 ∧ WP 167 15 [q0, q1] [] ds (up m s1 10 s0) Q)) := P_pf k167_12 rfl
set_option maxRecDepth 20000 in
theorem k167_15 : mjCode 167 15 = some (.iconst 0, 1, 0, 0) := by decide +kernel
theorem p167_15 {q0 q1 : MV} {ds : Ds} {m : Mm} {Q : Ds → Mm → List MV → Prop} : WP 167 15 [q0, q1] [] ds m Q = (WP 167 16 [q0, q1] [(0, 0)] ds m Q) := P_nx k167_15 rfl
set_option maxRecDepth 20000 in
theorem k167_16 : mjCode 167 16 = some (.istore_n 1, 1, 0, 0) := by decide +kernel
theorem p167_16 {l0 s0 : Int} {q1 : MV} {ds : Ds} {m : Mm} {Q : Ds → Mm → List MV → Prop} : WP 167 16 [(2, l0), q1] [(0, s0)] ds m Q = (WP 167 17 [(2, l0), (0, s0)] [] ds m Q) := P_nx k167_16 rfl
set_option maxRecDepth 20000 in
theorem k167_17 : mjCode 167 17 = some (.iload_n 1, 1, 0, 0) := by decide +kernel
theorem p167_17 {l1 : Int} {q0 : MV} {ds : Ds} {m : Mm} {Q : Ds → Mm → List MV → Prop} : WP 167 17 [q0, (0, l1)] [] ds m Q = (WP 167 18 [q0, (0, l1)] [(0, l1)] ds m Q) := P_nx k167_17 rfl
set_option maxRecDepth 20000 in
theorem k167_18 : mjCode 167 18 = some (.bipush 96, 2, 0, 0) := by decide +kernel
theorem p167_18 {s0 : Int} {q0 q1 : MV} {ds : Ds} {m : Mm} {Q : Ds → Mm → List MV → Prop} : WP 167 18 [q0, q1] [(0, s0)] ds m Q = (WP 167 20 [q0, q1] [(0, 96), (0, s0)] ds m Q) := P_nx k167_18 rfl
set_option maxRecDepth 20000 in
theorem k167_20 : mjCode 167 20 = some (.if_icmp .ge 42, 3, 62, 0) := by decide +kernel
theorem p167_20 {s0 s1 : Int} {q0 q1 : MV} {ds : Ds} {m : Mm} {Q : Ds → Mm → List MV → Prop} : WP 167 20 [q0, q1] [(0, s0), (0, s1)] ds m Q = (if s1 < s0 then WP 167 23 [q0, q1] [] ds m Q else WP 167 62 [q0, q1] [] ds m Q) := P_if k167_20 rfl
set_option maxRecDepth 20000 in
theorem k167_23 : mjCode 167 23 = some (.aload_n 0, 1, 0, 0) := by decide +kernel
theorem p167_23 {l0 : Int} {q1 : MV} {ds : Ds} {m : Mm} {Q : Ds → Mm → List MV → Prop} : WP 167 23 [(2, l0), q1] [] ds m Q = (WP 167 24 [(2, l0), q1] [(2, l0)] ds m Q) := P_nx k167_23 rfl
set_option maxRecDepth 20000 in
theorem k167_24 : mjCode 167 24 = some (.getfield 120, 3, 7, 42) := by decide +kernel
theorem p167_24 {s0 : Int} {q0 q1 : MV} {ds : Ds} {m : Mm} {Q : Ds → Mm → List MV → Prop} : WP 167 24 [q0, q1] [(2, s0)] ds m Q = ((dk ds s0 = 7 ∧ WP 167 27 [q0, q1] [(2, m s0 42)] ds m Q)) := P_gd k167_24 rfl
set_option maxRecDepth 20000 in
theorem k167_27 : mjCode 167 27 = some (.iload_n 1, 1, 0, 0) := by decide +kernel
theorem p167_27 {l1 s0 : Int} {q0 : MV} {ds : Ds} {m : Mm} {Q : Ds → Mm → List MV → Prop} : WP 167 27 [q0, (0, l1)] [(2, s0)] ds m Q = (WP 167 28 [q0, (0, l1)] [(0, l1), (2, s0)] ds m Q) := P_nx k167_27 rfl
set_option maxRecDepth 20000 in
theorem k167_28 : mjCode 167 28 = some (.aload_n 0, 1, 0, 0) := by decide +kernel
theorem p167_28 {l0 s0 s1 : Int} {q1 : MV} {ds : Ds} {m : Mm} {Q : Ds → Mm → List MV → Prop} : WP 167 28 [(2, l0), q1] [(0, s0), (2, s1)] ds m Q = (WP 167 29 [(2, l0), q1] [(2, l0), (0, s0), (2, s1)] ds m Q) := P_nx k167_28 rfl
set_option maxRecDepth 20000 in
theorem k167_29 : mjCode 167 29 = some (.getfield 84, 3, 7, 29) := by decide +kernel
theorem p167_29 {s0 s1 s2 : Int} {q0 q1 : MV} {ds : Ds} {m : Mm} {Q : Ds → Mm → List MV → Prop} : WP 167 29 [q0, q1] [(2, s0), (0, s1), (2, s2)] ds m Q = ((dk ds s0 = 7 ∧ WP 167 32 [q0, q1] [(2, m s0 29), (0, s1), (2, s2)] ds m Q)) := P_gd k167_29 rfl
set_option maxRecDepth 20000 in
theorem k167_32 : mjCode 167 32 = some (.iload_n 1, 1, 0, 0) := by decide +kernel
theorem p167_32 {l1 s0 s1 s2 : Int} {q0 : MV} {ds : Ds} {m : Mm} {Q : Ds → Mm → List MV → Prop} : WP 167 32 [q0, (0, l1)] [(2, s0), (0, s1), (2, s2)] ds m Q = (WP 167 33 [q0, (0, l1)] [(0, l1), (2, s0), (0, s1), (2, s2)] ds m Q) := P_nx k167_32 rfl
set_option maxRecDepth 20000 in
theorem k167_33 : mjCode 167 33 = some (.iaload, 1, 0, 0) := by decide +kernel
theorem p167_33 {s0 s1 s2 s3 : Int} {q0 q1 : MV} {ds : Ds} {m : Mm} {Q : Ds → Mm → List MV → Prop} : WP 167 33 [q0, q1] [(0, s0), (2, s1), (0, s2), (2, s3)] ds m Q = ((dk ds s1 = 10 ∧ 0 ≤ s0 ∧ s0 < dl ds s1 ∧ WP 167 34 [q0, q1] [(0, m s1 s0), (0, s2), (2, s3)] ds m Q)) := P_g3 k167_33 rfl
set_option maxRecDepth 20000 in
theorem k167_34 : mjCode 167 34 = some (.iconst (-1), 1, 0, 0) := by decide +kernel
theorem p167_34 {s0 s1 s2 : Int} {q0 q1 : MV} {ds : Ds} {m : Mm} {Q : Ds → Mm → List MV → Prop} : WP 167 34 [q0, q1] [(0, s0), (0, s1), (2, s2)] ds m Q = (WP 167 35 [q0, q1] [(0, (-1)), (0, s0), (0, s1), (2, s2)] ds m Q) := P_nx k167_34 rfl
set_option maxRecDepth 20000 in
theorem k167_35 : mjCode 167 35 = some (.if_icmp .eq 7, 3, 42, 0) := by decide +kernel
theorem p167_35 {s0 s1 s2 s3 : Int} {q0 q1 : MV} {ds : Ds} {m : Mm} {Q : Ds → Mm → List MV → Prop} : WP 167 35 [q0, q1] [(0, s0), (0, s1), (0, s2), (2, s3)] ds m Q = (if s1 = s0 then WP 167 42 [q0, q1] [(0, s2), (2, s3)] ds m Q else WP 167 38 [q0, q1] [(0, s2), (2, s3)] ds m Q) := P_if k167_35 rfl
set_option maxRecDepth 20000 in
theorem k167_38 : mjCode 167 38 = some (.iconst 1, 1, 0, 0) := by decide +kernel
theorem p167_38 {s0 s1 : Int} {q0 q1 : MV} {ds : Ds} {m : Mm} {Q : Ds → Mm → List MV → Prop} : WP 167 38 [q0, q1] [(0, s0), (2, s1)] ds m Q = (WP 167 39 [q0, q1] [(0, 1), (0, s0), (2, s1)] ds m Q) := P_nx k167_38 rfl
set_option maxRecDepth 20000 in
theorem k167_39 : mjCode 167 39 = some (.goto 4, 3, 43, 0) := by decide +kernel
theorem p167_39 {s0 s1 s2 : Int} {q0 q1 : MV} {ds : Ds} {m : Mm} {Q : Ds → Mm → List MV → Prop} : WP 167 39 [q0, q1] [(0, s0), (0, s1), (2, s2)] ds m Q = (WP 167 43 [q0, q1] [(0, s0), (0, s1), (2, s2)] ds m Q) := P_nx k167_39 rfl
set_option maxRecDepth 20000 in
theorem k167_42 : mjCode 167 42 = some (.iconst 0, 1, 0, 0) := by decide +kernel
theorem p167_42 {s0 s1 : Int} {q0 q1 : MV} {ds : Ds} {m : Mm} {Q : Ds → Mm → List MV → Prop} : WP 167 42 [q0, q1] [(0, s0), (2, s1)] ds m Q = (WP 167 43 [q0, q1] [(0, 0), (0, s0), (2, s1)] ds m Q) := P_nx k167_42 rfl
set_option maxRecDepth 20000 in
theorem k167_43 : mjCode 167 43 = some (.bastore, 1, 0, 0) := by decide +kernel
theorem p167_43 {s0 s1 s2 : Int} {q0 q1 : MV} {ds : Ds} {m : Mm} {Q : Ds → Mm → List MV → Prop} : WP 167 43 [q0, q1] [(0, s0), (0, s1), (2, s2)] ds m Q = (((s0 = 0 ∨ s0 = 1) ∧ dk ds s2 = 11 ∧ 0 ≤ s1 ∧ s1 < dl ds s2 ∧ WP 167 44 [q0, q1] [] ds (up m s2 s1 s0) Q)) := P_s4 k167_43 rfl
set_option maxRecDepth 20000 in
theorem k167_44 : mjCode 167 44 = some (.aload_n 0, 1, 0, 0) := by decide +kernel
theorem p167_44 {l0 : Int} {q1 : MV} {ds : Ds} {m : Mm} {Q : Ds → Mm → List MV → Prop} : WP 167 44 [(2, l0), q1] [] ds m Q = (WP 167 45 [(2, l0), q1] [(2, l0)] ds m Q) := P_nx k167_44 rfl
set_option maxRecDepth 20000 in
theorem k167_45 : mjCode 167 45 = some (.getfield 123, 3, 7, 43) := by decide +kernel
theorem p167_45 {s0 : Int} {q0 q1 : MV} {ds : Ds} {m : Mm} {Q : Ds → Mm → List MV → Prop} : WP 167 45 [q0, q1] [(2, s0)] ds m Q = ((dk ds s0 = 7 ∧ WP 167 48 [q0, q1] [(2, m s0 43)] ds m Q)) := P_gd k167_45 rfl
set_option maxRecDepth 20000 in
theorem k167_48 : mjCode 167 48 = some (.iload_n 1, 1, 0, 0) := by decide +kernel
theorem p167_48 {l1 s0 : Int} {q0 : MV} {ds : Ds} {m : Mm} {Q : Ds → Mm → List MV → Prop} : WP 167 48 [q0, (0, l1)] [(2, s0)] ds m Q = (WP 167 49 [q0, (0, l1)] [(0, l1), (2, s0)] ds m Q) := P_nx k167_48 rfl
set_option maxRecDepth 20000 in
theorem k167_49 : mjCode 167 49 = some (.aload_n 0, 1, 0, 0) := by decide +kernel
theorem p167_49 {l0 s0 s1 : Int} {q1 : MV} {ds : Ds} {m : Mm} {Q : Ds → Mm → List MV → Prop} : WP 167 49 [(2, l0), q1] [(0, s0), (2, s1)] ds m Q = (WP 167 50 [(2, l0), q1] [(2, l0), (0, s0), (2, s1)] ds m Q) := P_nx k167_49 rfl
set_option maxRecDepth 20000 in
theorem k167_50 : mjCode 167 50 = some (.getfield 81, 3, 7, 28) := by decide +kernel
theorem p167_50 {s0 s1 s2 : Int} {q0 q1 : MV} {ds : Ds} {m : Mm} {Q : Ds → Mm → List MV → Prop} : WP 167 50 [q0, q1] [(2, s0), (0, s1), (2, s2)] ds m Q = ((dk ds s0 = 7 ∧ WP 167 53 [q0, q1] [(2, m s0 28), (0, s1), (2, s2)] ds m Q)) := P_gd k167_50 rfl
set_option maxRecDepth 20000 in
theorem k167_53 : mjCode 167 53 = some (.iload_n 1, 1, 0, 0) := by decide +kernel
theorem p167_53 {l1 s0 s1 s2 : Int} {q0 : MV} {ds : Ds} {m : Mm} {Q : Ds → Mm → List MV → Prop} : WP 167 53 [q0, (0, l1)] [(2, s0), (0, s1), (2, s2)] ds m Q = (WP 167 54 [q0, (0, l1)] [(0, l1), (2, s0), (0, s1), (2, s2)] ds m Q) := P_nx k167_53 rfl
set_option maxRecDepth 20000 in
theorem k167_54 : mjCode 167 54 = some (.baload, 1, 0, 0) := by decide +kernel
theorem p167_54 {s0 s1 s2 s3 : Int} {q0 q1 : MV} {ds : Ds} {m : Mm} {Q : Ds → Mm → List MV → Prop} : WP 167 54 [q0, q1] [(0, s0), (2, s1), (0, s2), (2, s3)] ds m Q = ((dk ds s1 = 11 ∧ 0 ≤ s0 ∧ s0 < dl ds s1 ∧ WP 167 55 [q0, q1] [(0, m s1 s0), (0, s2), (2, s3)] ds m Q)) := P_g3 k167_54 rfl
set_option maxRecDepth 20000 in
theorem k167_55 : mjCode 167 55 = some (.bastore, 1, 0, 0) := by decide +kernel
theorem p167_55 {s0 s1 s2 : Int} {q0 q1 : MV} {ds : Ds} {m : Mm} {Q : Ds → Mm → List MV → Prop} : WP 167 55 [q0, q1] [(0, s0), (0, s1), (2, s2)] ds m Q = (((s0 = 0 ∨ s0 = 1) ∧ dk ds s2 = 11 ∧ 0 ≤ s1 ∧ s1 < dl ds s2 ∧ WP 167 56 [q0, q1] [] ds (up m s2 s1 s0) Q)) := P_s4 k167_55 rfl
set_option maxRecDepth 20000 in
theorem k167_56 : mjCode 167 56 = some (.iinc 1 1, 3, 0, 0) := by decide +kernel
theorem p167_56 {l1 : Int} {q0 : MV} {ds : Ds} {m : Mm} {Q : Ds → Mm → List MV → Prop} : WP 167 56 [q0, (0, l1)] [] ds m Q = (WP 167 59 [q0, (0, w32 (l1 + 1))] [] ds m Q) := P_nx k167_56 rfl
set_option maxRecDepth 20000 in
theorem k167_59 : mjCode 167 59 = some (.goto (-42), 3, 17, 0) := by decide +kernel
theorem p167_59 {q0 q1 : MV} {ds : Ds} {m : Mm} {Q : Ds → Mm → List MV → Prop} : WP 167 59 [q0, q1] [] ds m Q = (WP 167 17 [q0, q1] [] ds m Q) := P_nx k167_59 rfl
set_option maxRecDepth 20000 in
theorem k167_62 : mjCode 167 62 = some (.aload_n 0, 1, 0, 0) := by decide +kernel
theorem p167_62 {l0 : Int} {q1 : MV} {ds : Ds} {m : Mm} {Q : Ds → Mm → List MV → Prop} : WP 167 62 [(2, l0), q1] [] ds m Q = (WP 167 63 [(2, l0), q1] [(2, l0)] ds m Q) := P_nx k167_62 rfl
set_option maxRecDepth 20000 in
theorem k167_63 : mjCode 167 63 = some (.getfield 102, 3, 7, 36) := by decide +kernel
theorem p167_63 {s0 : Int} {q0 q1 : MV} {ds : Ds} {m : Mm} {Q : Ds → Mm → List MV → Prop} : WP 167 63 [q0, q1] [(2, s0)] ds m Q = ((dk ds s0 = 7 ∧ WP 167 66 [q0, q1] [(2, m s0 36)] ds m Q)) := P_gd k167_63 rfl
set_option maxRecDepth 20000 in
theorem k167_66 : mjCode 167 66 = some (.iconst 1, 1, 0, 0) := by decide +kernel
theorem p167_66 {s0 : Int} {q0 q1 : MV} {ds : Ds} {m : Mm} {Q : Ds → Mm → List MV → Prop} : WP 167 66 [q0, q1] [(2, s0)] ds m Q = (WP 167 67 [q0, q1] [(0, 1), (2, s0)] ds m Q) := P_nx k167_66 rfl
set_option maxRecDepth 20000 in
theorem k167_67 : mjCode 167 67 = some (.iaload, 1, 0, 0) := by decide +kernel
theorem p167_67 {s0 s1 : Int} {q0 q1 : MV} {ds : Ds} {m : Mm} {Q : Ds → Mm → List MV → Prop} : WP 167 67 [q0, q1] [(0, s0), (2, s1)] ds m Q = ((dk ds s1 = 10 ∧ 0 ≤ s0 ∧ s0 < dl ds s1 ∧ WP 167 68 [q0, q1] [(0, m s1 s0)] ds m Q)) := P_g3 k167_67 rfl
set_option maxRecDepth 20000 in
theorem k167_68 : mjCode 167 68 = some (.ireturn, 1, 0, 0) := by decide +kernel
theorem p167_68 {s0 : Int} {q0 q1 : MV} {ds : Ds} {m : Mm} {Q : Ds → Mm → List MV → Prop} : WP 167 68 [q0, q1] [(0, s0)] ds m Q = (Q ds m [(0, s0)]) := P_ri k167_68 rk167
set_option maxRecDepth 20000 in
theorem k168_0 : mjCode 168 0 = some (.aload_n 0, 1, 0, 0) := by decide +kernel
theorem p168_0 {l0 : Int} {q1 : MV} {ds : Ds} {m : Mm} {Q : Ds → Mm → List MV → Prop} : WP 168 0 [(2, l0), q1] [] ds m Q = (WP 168 1 [(2, l0), q1] [(2, l0)] ds m Q) := P_nx k168_0 rfl
set_option maxRecDepth 20000 in
theorem k168_1 : mjCode 168 1 = some (.getfield 264, 3, 7, 10) := by decide +kernel
theorem p168_1 {s0 : Int} {q0 q1 : MV} {ds : Ds} {m : Mm} {Q : Ds → Mm → List MV → Prop} : WP 168 1 [q0, q1] [(2, s0)] ds m Q = ((dk ds s0 = 7 ∧ WP 168 4 [q0, q1] [(0, m s0 10)] ds m Q)) := P_gd k168_1 rfl
set_option maxRecDepth 20000 in
theorem k168_4 : mjCode 168 4 = some (.ifCond .le 21, 3, 25, 0) := by decide +kernel
theorem p168_4 {s0 : Int} {q0 q1 : MV} {ds : Ds} {m : Mm} {Q : Ds → Mm → List MV → Prop} : WP 168 4 [q0, q1] [(0, s0)] ds m Q = (if 0 < s0 then WP 168 7 [q0, q1] [] ds m Q else WP 168 25 [q0, q1] [] ds m Q) := P_if k168_4 rfl
set_option maxRecDepth 20000 in
theorem k168_7 : mjCode 168 7 = some (.iload_n 1, 1, 0, 0) := by decide +kernel
theorem p168_7 {l1 : Int} {q0 : MV} {ds : Ds} {m : Mm} {Q : Ds → Mm → List MV → Prop} : WP 168 7 [q0, (0, l1)] [] ds m Q = (WP 168 8 [q0, (0, l1)] [(0, l1)] ds m Q) := P_nx k168_7 rfl
set_option maxRecDepth 20000 in
theorem k168_8 : mjCode 168 8 = some (.iconst 0, 1, 0, 0) := by decide +kernel
theorem p168_8 {s0 : Int} {q0 q1 : MV} {ds : Ds} {m : Mm} {Q : Ds → Mm → List MV → Prop} : WP 168 8 [q0, q1] [(0, s0)] ds m Q = (WP 168 9 [q0, q1] [(0, 0), (0, s0)] ds m Q) := P_nx k168_8 rfl
set_option maxRecDepth 20000 in
theorem k168_9 : mjCode 168 9 = some (.iconst 5, 1, 0, 0) := by decide +kernel
theorem p168_9 {s0 s1 : Int} {q0 q1 : MV} {ds : Ds} {m : Mm} {Q : Ds → Mm → List MV → Prop} : WP 168 9 [q0, q1] [(0, s0), (0, s1)] ds m Q = (WP 168 10 [q0, q1] [(0, 5), (0, s0), (0, s1)] ds m Q) := P_nx k168_9 rfl
set_option maxRecDepth 20000 in
theorem k168_10 : mjCode 168 10 = some (.invokestatic 141, 3, 121, 3) := by decide +kernel
theorem p168_10 {s0 s1 s2 : Int} {q0 q1 : MV} {ds : Ds} {m : Mm} {Q : Ds → Mm → List MV → Prop} : WP 168 10 [q0, q1] [(0, s0), (0, s1), (0, s2)] ds m Q = (WP 120 0 [(0, s2), (0, s1), (0, s0)] [] ds m (fun d2 m2 r2 => WP 168 13 [q0, q1] (r2 ++ []) d2 m2 Q)) := P_cs k168_10 mx120 rfl rfl rfl rfl rfl rfl rfl
set_option maxRecDepth 20000 in
theorem k168_13 : mjCode 168 13 = some (.ifCond .eq 12, 3, 25, 0) := by decide +kernel
theorem p168_13 {s0 : Int} {q0 q1 : MV} {ds : Ds} {m : Mm} {Q : Ds → Mm → List MV → Prop} : WP 168 13 [q0, q1] [(0, s0)] ds m Q = (if s0 = 0 then WP 168 25 [q0, q1] [] ds m Q else WP 168 16 [q0, q1] [] ds m Q) := P_if k168_13 rfl
set_option maxRecDepth 20000 in
theorem k168_16 : mjCode 168 16 = some (.aload_n 0, 1, 0, 0) := by decide +kernel
theorem p168_16 {l0 : Int} {q1 : MV} {ds : Ds} {m : Mm} {Q : Ds → Mm → List MV → Prop} : WP 168 16 [(2, l0), q1] [] ds m Q = (WP 168 17 [(2, l0), q1] [(2, l0)] ds m Q) := P_nx k168_16 rfl
set_option maxRecDepth 20000 in
theorem k168_17 : mjCode 168 17 = some (.getfield 102, 3, 7, 36) := by decide +kernel
theorem p168_17 {s0 : Int} {q0 q1 : MV} {ds : Ds} {m : Mm} {Q : Ds → Mm → List MV → Prop} : WP 168 17 [q0, q1] [(2, s0)] ds m Q = ((dk ds s0 = 7 ∧ WP 168 20 [q0, q1] [(2, m s0 36)] ds m Q)) := P_gd k168_17 rfl
set_option maxRecDepth 20000 in
theorem k168_20 : mjCode 168 20 = some (.iload_n 1, 1, 0, 0) := by decide +kernel
theorem p168_20 {l1 s0 : Int} {q0 : MV} {ds : Ds} {m : Mm} {Q : Ds → Mm → List MV → Prop} : WP 168 20 [q0, (0, l1)] [(2, s0)] ds m Q = (WP 168 21 [q0, (0, l1)] [(0, l1), (2, s0)] ds m Q) := P_nx k168_20 rfl
set_option maxRecDepth 20000 in
theorem k168_21 : mjCode 168 21 = some (.iaload, 1, 0, 0) := by decide +kernel
theorem p168_21 {s0 s1 : Int} {q0 q1 : MV} {ds : Ds} {m : Mm} {Q : Ds → Mm → List MV → Prop} : WP 168 21 [q0, q1] [(0, s0), (2, s1)] ds m Q = ((dk ds s1 = 10 ∧ 0 ≤ s0 ∧ s0 < dl ds s1 ∧ WP 168 22 [q0, q1] [(0, m s1 s0)] ds m Q)) := P_g3 k168_21 rfl
set_option maxRecDepth 20000 in
theorem k168_22 : mjCode 168 22 = some (.goto 4, 3, 26, 0) := by decide +kernel
theorem p168_22 {s0 : Int} {q0 q1 : MV} {ds : Ds} {m : Mm} {Q : Ds → Mm → List MV → Prop} : WP 168 22 [q0, q1] [(0, s0)] ds m Q = (WP 168 26 [q0, q1] [(0, s0)] ds m Q) := P_nx k168_22 rfl
set_option maxRecDepth 20000 in
theorem k168_25 : mjCode 168 25 = some (.iconst (-1), 1, 0, 0) := by decide +kernel
theorem p168_25 {q0 q1 : MV} {ds : Ds} {m : Mm} {Q : Ds → Mm → List MV → Prop} : WP 168 25 [q0, q1] [] ds m Q = (WP 168 26 [q0, q1] [(0, (-1))] ds m Q) := P_nx k168_25 rfl
set_option maxRecDepth 20000 in
theorem k168_26 : mjCode 168 26 = some (.ireturn, 1, 0, 0) := by decide +kernel
theorem p168_26 {s0 : Int} {q0 q1 : MV} {ds : Ds} {m : Mm} {Q : Ds → Mm → List MV → Prop} : WP 168 26 [q0, q1] [(0, s0)] ds m Q = (Q ds m [(0, s0)]) := P_ri k168_26 rk168
set_option maxRecDepth 20000 in
theorem k169_0 : mjCode 169 0 = some (.aload_n 0, 1, 0, 0) := by decide +kernel
theorem p169_0 {l0 : Int} {q1 q2 : MV} {ds : Ds} {m : Mm} {Q : Ds → Mm → List MV → Prop} : WP 169 0 [(2, l0), q1, q2] [] ds m Q = (WP 169 1 [(2, l0), q1, q2] [(2, l0)] ds m Q) := P_nx k169_0 rfl
set_option maxRecDepth 20000 in
theorem k169_1 : mjCode 169 1 = some (.getfield 264, 3, 7, 10) := by decide +kernel
theorem p169_1 {s0 : Int} {q0 q1 q2 : MV} {ds : Ds} {m : Mm} {Q : Ds → Mm → List MV → Prop} : WP 169 1 [q0, q1, q2] [(2, s0)] ds m Q = ((dk ds s0 = 7 ∧ WP 169 4 [q0, q1, q2] [(0, m s0 10)] ds m Q)) := P_gd k169_1 rfl
set_option maxRecDepth 20000 in
theorem k169_4 : mjCode 169 4 = some (.ifCond .le 42, 3, 46, 0) := by decide +kernel
theorem p169_4 {s0 : Int} {q0 q1 q2 : MV} {ds : Ds} {m : Mm} {Q : Ds → Mm → List MV → Prop} : WP 169 4 [q0, q1, q2] [(0, s0)] ds m Q = (if 0 < s0 then WP 169 7 [q0, q1, q2] [] ds m Q else WP 169 46 [q0, q1, q2] [] ds m Q) := P_if k169_4 rfl
set_option maxRecDepth 20000 in
theorem k169_7 : mjCode 169 7 = some (.iload_n 1, 1, 0, 0) := by decide +kernel
theorem p169_7 {l1 : Int} {q0 q2 : MV} {ds : Ds} {m : Mm} {Q : Ds → Mm → List MV → Prop} : WP 169 7 [q0, (0, l1), q2] [] ds m Q = (WP 169 8 [q0, (0, l1), q2] [(0, l1)] ds m Q) := P_nx k169_7 rfl
set_option maxRecDepth 20000 in
theorem k169_8 : mjCode 169 8 = some (.iconst 0, 1, 0, 0) := by decide +kernel
theorem p169_8 {s0 : Int} {q0 q1 q2 : MV} {ds : Ds} {m : Mm} {Q : Ds → Mm → List MV → Prop} : WP 169 8 [q0, q1, q2] [(0, s0)] ds m Q = (WP 169 9 [q0, q1, q2] [(0, 0), (0, s0)] ds m Q) := P_nx k169_8 rfl
set_option maxRecDepth 20000 in
theorem k169_9 : mjCode 169 9 = some (.aload_n 0, 1, 0, 0) := by decide +kernel
theorem p169_9 {l0 s0 s1 : Int} {q1 q2 : MV} {ds : Ds} {m : Mm} {Q : Ds → Mm → List MV → Prop} : WP 169 9 [(2, l0), q1, q2] [(0, s0), (0, s1)] ds m Q = (WP 169 10 [(2, l0), q1, q2] [(2, l0), (0, s0), (0, s1)] ds m Q) := P_nx k169_9 rfl
set_option maxRecDepth 20000 in
theorem k169_10 : mjCode 169 10 = some (.getfield 102, 3, 7, 36) := by decide +kernel
theorem p169_10 {s0 s1 s2 : Int} {q0 q1 q2 : MV} {ds : Ds} {m : Mm} {Q : Ds → Mm → List MV → Prop} : WP 169 10 [q0, q1, q2] [(2, s0), (0, s1), (0, s2)] ds m Q = ((dk ds s0 = 7 ∧ WP 169 13 [q0, q1, q2] [(2, m s0 36), (0, s1), (0, s2)] ds m Q)) := P_gd k169_10 rfl
set_option maxRecDepth 20000 in
theorem k169_13 : mjCode 169 13 = some (.iconst 2, 1, 0, 0) := by decide +kernel
theorem p169_13 {s0 s1 s2 : Int} {q0 q1 q2 : MV} {ds : Ds} {m : Mm} {Q : Ds → Mm → List MV → Prop} : WP 169 13 [q0, q1, q2] [(2, s0), (0, s1), (0, s2)] ds m Q = (WP 169 14 [q0, q1, q2] [(0, 2), (2, s0), (0, s1), (0, s2)] ds m Q) := P_nx k169_13 rfl
set_option maxRecDepth 20000 in
theorem k169_14 : mjCode 169 14 = some (.iaload, 1, 0, 0) := by decide +kernel
theorem p169_14 {s0 s1 s2 s3 : Int} {q0 q1 q2 : MV} {ds : Ds} {m : Mm} {Q : Ds → Mm → List MV → Prop} : WP 169 14 [q0, q1, q2] [(0, s0), (2, s1), (0, s2), (0, s3)] ds m Q = ((dk ds s1 = 10 ∧ 0 ≤ s0 ∧ s0 < dl ds s1 ∧ WP 169 15 [q0, q1, q2] [(0, m s1 s0), (0, s2), (0, s3)] ds m Q)) := P_g3 k169_14 rfl
set_option maxRecDepth 20000 in
theorem k169_15 : mjCode 169 15 = some (.iconst 1, 1, 0, 0) := by decide +kernel
theorem p169_15 {s0 s1 s2 : Int} {q0 q1 q2 : MV} {ds : Ds} {m : Mm} {Q : Ds → Mm → List MV → Prop} : WP 169 15 [q0, q1, q2] [(0, s0), (0, s1), (0, s2)] ds m Q = (WP 169 16 [q0, q1, q2] [(0, 1), (0, s0), (0, s1), (0, s2)] ds m Q) := P_nx k169_15 rfl
set_option maxRecDepth 20000 in
theorem k169_16 : mjCode 169 16 = some (.isub, 1, 0, 0) := by decide +kernel
theorem p169_16 {s0 s1 s2 s3 : Int} {q0 q1 q2 : MV} {ds : Ds} {m : Mm} {Q : Ds → Mm → List MV → Prop} : WP 169 16 [q0, q1, q2] [(0, s0), (0, s1), (0, s2), (0, s3)] ds m Q = (WP 169 17 [q0, q1, q2] [(0, w32 (s1 - s0)), (0, s2), (0, s3)] ds m Q) := P_nx k169_16 rfl
set_option maxRecDepth 20000 in
theorem k169_17 : mjCode 169 17 = some (.invokestatic 141, 3, 121, 3) := by decide +kernel
theorem p169_17 {s0 s1 s2 : Int} {q0 q1 q2 : MV} {ds : Ds} {m : Mm} {Q : Ds → Mm → List MV → Prop} : WP 169 17 [q0, q1, q2] [(0, s0), (0, s1), (0, s2)] ds m Q = (WP 120 0 [(0, s2), (0, s1), (0, s0)] [] ds m (fun d2 m2 r2 => WP 169 20 [q0, q1, q2] (r2 ++ []) d2 m2 Q)) := P_cs k169_17 mx120 rfl rfl rfl rfl rfl rfl rfl
set_option maxRecDepth 20000 in
theorem k169_20 : mjCode 169 20 = some (.ifCond .eq 26, 3, 46, 0) := by decide +kernel
theorem p169_20 {s0 : Int} {q0 q1 q2 : MV} {ds : Ds} {m : Mm} {Q : Ds → Mm → List MV → Prop} : WP 169 20 [q0, q1, q2] [(0, s0)] ds m Q = (if s0 = 0 then WP 169 46 [q0, q1, q2] [] ds m Q else WP 169 23 [q0, q1, q2] [] ds m Q) := P_if k169_20 rfl
set_option maxRecDepth 20000 in
theorem k169_23 : mjCode 169 23 = some (.iload_n 2, 1, 0, 0) := by decide +kernel
theorem p169_23 {l2 : Int} {q0 q1 : MV} {ds : Ds} {m : Mm} {Q : Ds → Mm → List MV → Prop} : WP 169 23 [q0, q1, (0, l2)] [] ds m Q = (WP 169 24 [q0, q1, (0, l2)] [(0, l2)] ds m Q) := P_nx k169_23 rfl
set_option maxRecDepth 20000 in
theorem k169_24 : mjCode 169 24 = some (.iconst 0, 1, 0, 0) := by decide +kernel
theorem p169_24 {s0 : Int} {q0 q1 q2 : MV} {ds : Ds} {m : Mm} {Q : Ds → Mm → List MV → Prop} : WP 169 24 [q0, q1, q2] [(0, s0)] ds m Q = (WP 169 25 [q0, q1, q2] [(0, 0), (0, s0)] ds m Q) := P_nx k169_24 rfl
set_option maxRecDepth 20000 in
theorem k169_25 : mjCode 169 25 = some (.iconst 5, 1, 0, 0) := by decide +kernel
theorem p169_25 {s0 s1 : Int} {q0 q1 q2 : MV} {ds : Ds} {m : Mm} {Q : Ds → Mm → List MV → Prop} : WP 169 25 [q0, q1, q2] [(0, s0), (0, s1)] ds m Q = (WP 169 26 [q0, q1, q2] [(0, 5), (0, s0), (0, s1)] ds m Q) := P_nx k169_25 rfl
set_option maxRecDepth 20000 in
theorem k169_26 : mjCode 169 26 = some (.invokestatic 141, 3, 121, 3) := by decide +kernel
theorem p169_26 {s0 s1 s2 : Int} {q0 q1 q2 : MV} {ds : Ds} {m : Mm} {Q : Ds → Mm → List MV → Prop} : WP 169 26 [q0, q1, q2] [(0, s0), (0, s1), (0, s2)] ds m Q = (WP 120 0 [(0, s2), (0, s1), (0, s0)] [] ds m (fun d2 m2 r2 => WP 169 29 [q0, q1, q2] (r2 ++ []) d2 m2 Q)) := P_cs k169_26 mx120 rfl rfl rfl rfl rfl rfl rfl
set_option maxRecDepth 20000 in
theorem k169_29 : mjCode 169 29 = some (.ifCond .eq 17, 3, 46, 0) := by decide +kernel
theorem p169_29 {s0 : Int} {q0 q1 q2 : MV} {ds : Ds} {m : Mm} {Q : Ds → Mm → List MV → Prop} : WP 169 29 [q0, q1, q2] [(0, s0)] ds m Q = (if s0 = 0 then WP 169 46 [q0, q1, q2] [] ds m Q else WP 169 32 [q0, q1, q2] [] ds m Q) := P_if k169_29 rfl
set_option maxRecDepth 20000 in
theorem k169_32 : mjCode 169 32 = some (.aload_n 0, 1, 0, 0) := by decide +kernel
theorem p169_32 {l0 : Int} {q1 q2 : MV} {ds : Ds} {m : Mm} {Q : Ds → Mm → List MV → Prop} : WP 169 32 [(2, l0), q1, q2] [] ds m Q = (WP 169 33 [(2, l0), q1, q2] [(2, l0)] ds m Q) := P_nx k169_32 rfl
set_option maxRecDepth 20000 in
theorem k169_33 : mjCode 169 33 = some (.getfield 105, 3, 7, 37) := by decide +kernel
theorem p169_33 {s0 : Int} {q0 q1 q2 : MV} {ds : Ds} {m : Mm} {Q : Ds → Mm → List MV → Prop} : WP 169 33 [q0, q1, q2] [(2, s0)] ds m Q = ((dk ds s0 = 7 ∧ WP 169 36 [q0, q1, q2] [(2, m s0 37)] ds m Q)) := P_gd k169_33 rfl
set_option maxRecDepth 20000 in
theorem k169_36 : mjCode 169 36 = some (.bipush 6, 2, 0, 0) := by decide +kernel
theorem p169_36 {s0 : Int} {q0 q1 q2 : MV} {ds : Ds} {m : Mm} {Q : Ds → Mm → List MV → Prop} : WP 169 36 [q0, q1, q2] [(2, s0)] ds m Q = (WP 169 38 [q0, q1, q2] [(0, 6), (2, s0)] ds m Q) := P_nx k169_36 rfl
set_option maxRecDepth 20000 in
theorem k169_38 : mjCode 169 38 = some (.iload_n 1, 1, 0, 0) := by decide +kernel
theorem p169_38 {l1 s0 s1 : Int} {q0 q2 : MV} {ds : Ds} {m : Mm} {Q : Ds → Mm → List MV → Prop} : WP 169 38 [q0, (0, l1), q2] [(0, s0), (2, s1)] ds m Q = (WP 169 39 [q0, (0, l1), q2] [(0, l1), (0, s0), (2, s1)] ds m Q) := P_nx k169_38 rfl
set_option maxRecDepth 20000 in
theorem k169_39 : mjCode 169 39 = some (.imul, 1, 0, 0) := by decide +kernel
theorem p169_39 {s0 s1 s2 : Int} {q0 q1 q2 : MV} {ds : Ds} {m : Mm} {Q : Ds → Mm → List MV → Prop} : WP 169 39 [q0, q1, q2] [(0, s0), (0, s1), (2, s2)] ds m Q = (WP 169 40 [q0, q1, q2] [(0, w32 (s1 * s0)), (2, s2)] ds m Q) := P_nx k169_39 rfl
set_option maxRecDepth 20000 in
theorem k169_40 : mjCode 169 40 = some (.iload_n 2, 1, 0, 0) := by decide +kernel
theorem p169_40 {l2 s0 s1 : Int} {q0 q1 : MV} {ds : Ds} {m : Mm} {Q : Ds → Mm → List MV → Prop} : WP 169 40 [q0, q1, (0, l2)] [(0, s0), (2, s1)] ds m Q = (WP 169 41 [q0, q1, (0, l2)] [(0, l2), (0, s0), (2, s1)] ds m Q) := P_nx k169_40 rfl
set_option maxRecDepth 20000 in
theorem k169_41 : mjCode 169 41 = some (.iadd, 1, 0, 0) := by decide +kernel
theorem p169_41 {s0 s1 s2 : Int} {q0 q1 q2 : MV} {ds : Ds} {m : Mm} {Q : Ds → Mm → List MV → Prop} : WP 169 41 [q0, q1, q2] [(0, s0), (0, s1), (2, s2)] ds m Q = (WP 169 42 [q0, q1, q2] [(0, w32 (s1 + s0)), (2, s2)] ds m Q) := P_nx k169_41 rfl
set_option maxRecDepth 20000 in
theorem k169_42 : mjCode 169 42 = some (.iaload, 1, 0, 0) := by decide +kernel
theorem p169_42 {s0 s1 : Int} {q0 q1 q2 : MV} {ds : Ds} {m : Mm} {Q : Ds → Mm → List MV → Prop} : WP 169 42 [q0, q1, q2] [(0, s0), (2, s1)] ds m Q = ((dk ds s1 = 10 ∧ 0 ≤ s0 ∧ s0 < dl ds s1 ∧ WP 169 43 [q0, q1, q2] [(0, m s1 s0)] ds m Q)) := P_g3 k169_42 rfl
set_option maxRecDepth 20000 in
theorem k169_43 : mjCode 169 43 = some (.goto 4, 3, 47, 0) := by decide +kernel
theorem p169_43 {s0 : Int} {q0 q1 q2 : MV} {ds : Ds} {m : Mm} {Q : Ds → Mm → List MV → Prop} : WP 169 43 [q0, q1, q2] [(0, s0)] ds m Q = (WP 169 47 [q0, q1, q2] [(0, s0)] ds m Q) := P_nx k169_43 rfl
set_option maxRecDepth 20000 in
theorem k169_46 : mjCode 169 46 = some (.iconst (-1), 1, 0, 0) := by decide +kernel
theorem p169_46 {q0 q1 q2 : MV} {ds : Ds} {m : Mm} {Q : Ds → Mm → List MV → Prop} : WP 169 46 [q0, q1, q2] [] ds m Q = (WP 169 47 [q0, q1, q2] [(0, (-1))] ds m Q) := P_nx k169_46 rfl
set_option maxRecDepth 20000 in
theorem k169_47 : mjCode 169 47 = some (.ireturn, 1, 0, 0) := by decide +kernel
theorem p169_47 {s0 : Int} {q0 q1 q2 : MV} {ds : Ds} {m : Mm} {Q : Ds → Mm → List MV → Prop} : WP 169 47 [q0, q1, q2] [(0, s0)] ds m Q = (Q ds m [(0, s0)]) := P_ri k169_47 rk169
set_option maxRecDepth 20000 in
theorem k170_0 : mjCode 170 0 = some (.aload_n 0, 1, 0, 0) := by decide +kernel
theorem p170_0 {l0 : Int} {q1 q2 : MV} {ds : Ds} {m : Mm} {Q : Ds → Mm → List MV → Prop} : WP 170 0 [(2, l0), q1, q2] [] ds m Q = (WP 170 1 [(2, l0), q1, q2] [(2, l0)] ds m Q) := P_nx k170_0 rfl
set_option maxRecDepth 20000 in
theorem k170_1 : mjCode 170 1 = some (.getfield 264, 3, 7, 10) := by decide +kernel
theorem p170_1 {s0 : Int} {q0 q1 q2 : MV} {ds : Ds} {m : Mm} {Q : Ds → Mm → List MV → Prop} : WP 170 1 [q0, q1, q2] [(2, s0)] ds m Q = ((dk ds s0 = 7 ∧ WP 170 4 [q0, q1, q2] [(0, m s0 10)] ds m Q)) := P_gd k170_1 rfl
set_option maxRecDepth 20000 in
theorem k170_4 : mjCode 170 4 = some (.ifCond .eq 19, 3, 23, 0) := by decide +kernel
theorem p170_4 {s0 : Int} {q0 q1 q2 : MV} {ds : Ds} {m : Mm} {Q : Ds → Mm → List MV → Prop} : WP 170 4 [q0, q1, q2] [(0, s0)] ds m Q = (if s0 = 0 then WP 170 23 [q0, q1, q2] [] ds m Q else WP 170 7 [q0, q1, q2] [] ds m Q) := P_if k170_4 rfl
set_option maxRecDepth 20000 in
theorem k170_7 : mjCode 170 7 = some (.iload_n 1, 1, 0, 0) := by decide +kernel
theorem p170_7 {l1 : Int} {q0 q2 : MV} {ds : Ds} {m : Mm} {Q : Ds → Mm → List MV → Prop} : WP 170 7 [q0, (0, l1), q2] [] ds m Q = (WP 170 8 [q0, (0, l1), q2] [(0, l1)] ds m Q) := P_nx k170_7 rfl
set_option maxRecDepth 20000 in
theorem k170_8 : mjCode 170 8 = some (.invokestatic 152, 3, 123, 1) := by decide +kernel
theorem p170_8 {s0 : Int} {q0 q1 q2 : MV} {ds : Ds} {m : Mm} {Q : Ds → Mm → List MV → Prop} : WP 170 8 [q0, q1, q2] [(0, s0)] ds m Q = (WP 122 0 [(0, s0)] [] ds m (fun d2 m2 r2 => WP 170 11 [q0, q1, q2] (r2 ++ []) d2 m2 Q)) := P_cs k170_8 mx122 rfl rfl rfl rfl rfl rfl rfl
set_option maxRecDepth 20000 in
theorem k170_11 : mjCode 170 11 = some (.ifCond .eq 12, 3, 23, 0) := by decide +kernel
theorem p170_11 {s0 : Int} {q0 q1 q2 : MV} {ds : Ds} {m : Mm} {Q : Ds → Mm → List MV → Prop} : WP 170 11 [q0, q1, q2] [(0, s0)] ds m Q = (if s0 = 0 then WP 170 23 [q0, q1, q2] [] ds m Q else WP 170 14 [q0, q1, q2] [] ds m Q) := P_if k170_11 rfl
set_option maxRecDepth 20000 in
theorem k170_14 : mjCode 170 14 = some (.iload_n 2, 1, 0, 0) := by decide +kernel
theorem p170_14 {l2 : Int} {q0 q1 : MV} {ds : Ds} {m : Mm} {Q : Ds → Mm → List MV → Prop} : WP 170 14 [q0, q1, (0, l2)] [] ds m Q = (WP 170 15 [q0, q1, (0, l2)] [(0, l2)] ds m Q) := P_nx k170_14 rfl
set_option maxRecDepth 20000 in
theorem k170_15 : mjCode 170 15 = some (.iconst 0, 1, 0, 0) := by decide +kernel
theorem p170_15 {s0 : Int} {q0 q1 q2 : MV} {ds : Ds} {m : Mm} {Q : Ds → Mm → List MV → Prop} : WP 170 15 [q0, q1, q2] [(0, s0)] ds m Q = (WP 170 16 [q0, q1, q2] [(0, 0), (0, s0)] ds m Q) := P_nx k170_15 rfl
set_option maxRecDepth 20000 in
theorem k170_16 : mjCode 170 16 = some (.iconst 4, 1, 0, 0) := by decide +kernel
theorem p170_16 {s0 s1 : Int} {q0 q1 q2 : MV} {ds : Ds} {m : Mm} {Q : Ds → Mm → List MV → Prop} : WP 170 16 [q0, q1, q2] [(0, s0), (0, s1)] ds m Q = (WP 170 17 [q0, q1, q2] [(0, 4), (0, s0), (0, s1)] ds m Q) := P_nx k170_16 rfl
set_option maxRecDepth 20000 in
theorem k170_17 : mjCode 170 17 = some (.invokestatic 141, 3, 121, 3) := by decide +kernel
theorem p170_17 {s0 s1 s2 : Int} {q0 q1 q2 : MV} {ds : Ds} {m : Mm} {Q : Ds → Mm → List MV → Prop} : WP 170 17 [q0, q1, q2] [(0, s0), (0, s1), (0, s2)] ds m Q = (WP 120 0 [(0, s2), (0, s1), (0, s0)] [] ds m (fun d2 m2 r2 => WP 170 20 [q0, q1, q2] (r2 ++ []) d2 m2 Q)) := P_cs k170_17 mx120 rfl rfl rfl rfl rfl rfl rfl
set_option maxRecDepth 20000 in
theorem k170_20 : mjCode 170 20 = some (.ifCond .ne 5, 3, 25, 0) := by decide +kernel
theorem p170_20 {s0 : Int} {q0 q1 q2 : MV} {ds : Ds} {m : Mm} {Q : Ds → Mm → List MV → Prop} : WP 170 20 [q0, q1, q2] [(0, s0)] ds m Q = (if s0 = 0 then WP 170 23 [q0, q1, q2] [] ds m Q else WP 170 25 [q0, q1, q2] [] ds m Q) := P_if k170_20 rfl
set_option maxRecDepth 20000 in
theorem k170_23 : mjCode 170 23 = some (.iconst (-1), 1, 0, 0) := by decide +kernel
theorem p170_23 {q0 q1 q2 : MV} {ds : Ds} {m : Mm} {Q : Ds → Mm → List MV → Prop} : WP 170 23 [q0, q1, q2] [] ds m Q = (WP 170 24 [q0, q1, q2] [(0, (-1))] ds m Q) := P_nx k170_23 rfl
set_option maxRecDepth 20000 in
theorem k170_24 : mjCode 170 24 = some (.ireturn, 1, 0, 0) := by decide +kernel
theorem p170_24 {s0 : Int} {q0 q1 q2 : MV} {ds : Ds} {m : Mm} {Q : Ds → Mm → List MV → Prop} : WP 170 24 [q0, q1, q2] [(0, s0)] ds m Q = (Q ds m [(0, s0)]) := P_ri k170_24 rk170
set_option maxRecDepth 20000 in
theorem k170_25 : mjCode 170 25 = some (.iload_n 2, 1, 0, 0) := by decide +kernel
theorem p170_25 {l2 : Int} {q0 q1 : MV} {ds : Ds} {m : Mm} {Q : Ds → Mm → List MV → Prop} : WP 170 25 [q0, q1, (0, l2)] [] ds m Q = (WP 170 26 [q0, q1, (0, l2)] [(0, l2)] ds m Q) := P_nx k170_25 rfl
set_option maxRecDepth 20000 in
theorem k170_26 : mjCode 170 26 = some (.ifCond .ne 12, 3, 38, 0) := by decide +kernel
theorem p170_26 {s0 : Int} {q0 q1 q2 : MV} {ds : Ds} {m : Mm} {Q : Ds → Mm → List MV → Prop} : WP 170 26 [q0, q1, q2] [(0, s0)] ds m Q = (if s0 = 0 then WP 170 29 [q0, q1, q2] [] ds m Q else WP 170 38 [q0, q1, q2] [] ds m Q) := P_if k170_26 rfl
set_option maxRecDepth 20000 in
theorem k170_29 : mjCode 170 29 = some (.aload_n 0, 1, 0, 0) := by decide +kernel
theorem p170_29 {l0 : Int} {q1 q2 : MV} {ds : Ds} {m : Mm} {Q : Ds → Mm → List MV → Prop} : WP 170 29 [(2, l0), q1, q2] [] ds m Q = (WP 170 30 [(2, l0), q1, q2] [(2, l0)] ds m Q) := P_nx k170_29 rfl
set_option maxRecDepth 20000 in
theorem k170_30 : mjCode 170 30 = some (.getfield 108, 3, 7, 38) := by decide +kernel
theorem p170_30 {s0 : Int} {q0 q1 q2 : MV} {ds : Ds} {m : Mm} {Q : Ds → Mm → List MV → Prop} : WP 170 30 [q0, q1, q2] [(2, s0)] ds m Q = ((dk ds s0 = 7 ∧ WP 170 33 [q0, q1, q2] [(2, m s0 38)] ds m Q)) := P_gd k170_30 rfl
set_option maxRecDepth 20000 in
theorem k170_33 : mjCode 170 33 = some (.iload_n 1, 1, 0, 0) := by decide +kernel
theorem p170_33 {l1 s0 : Int} {q0 q2 : MV} {ds : Ds} {m : Mm} {Q : Ds → Mm → List MV → Prop} : WP 170 33 [q0, (0, l1), q2] [(2, s0)] ds m Q = (WP 170 34 [q0, (0, l1), q2] [(0, l1), (2, s0)] ds m Q) := P_nx k170_33 rfl
set_option maxRecDepth 20000 in
theorem k170_34 : mjCode 170 34 = some (.iaload, 1, 0, 0) := by decide +kernel
theorem p170_34 {s0 s1 : Int} {q0 q1 q2 : MV} {ds : Ds} {m : Mm} {Q : Ds → Mm → List MV → Prop} : WP 170 34 [q0, q1, q2] [(0, s0), (2, s1)] ds m Q = ((dk ds s1 = 10 ∧ 0 ≤ s0 ∧ s0 < dl ds s1 ∧ WP 170 35 [q0, q1, q2] [(0, m s1 s0)] ds m Q)) := P_g3 k170_34 rfl
set_option maxRecDepth 20000 in
theorem k170_35 : mjCode 170 35 = some (.goto 67, 3, 102, 0) := by decide +kernel
theorem p170_35 {s0 : Int} {q0 q1 q2 : MV} {ds : Ds} {m : Mm} {Q : Ds → Mm → List MV → Prop} : WP 170 35 [q0, q1, q2] [(0, s0)] ds m Q = (WP 170 102 [q0, q1, q2] [(0, s0)] ds m Q) := P_nx k170_35 rfl
set_option maxRecDepth 20000 in
theorem k170_38 : mjCode 170 38 = some (.iload_n 2, 1, 0, 0) := by decide +kernel
theorem p170_38 {l2 : Int} {q0 q1 : MV} {ds : Ds} {m : Mm} {Q : Ds → Mm → List MV → Prop} : WP 170 38 [q0, q1, (0, l2)] [] ds m Q = (WP 170 39 [q0, q1, (0, l2)] [(0, l2)] ds m Q) := P_nx k170_38 rfl
set_option maxRecDepth 20000 in
theorem k170_39 : mjCode 170 39 = some (.iconst 1, 1, 0, 0) := by decide +kernel
theorem p170_39 {s0 : Int} {q0 q1 q2 : MV} {ds : Ds} {m : Mm} {Q : Ds → Mm → List MV → Prop} : WP 170 39 [q0, q1, q2] [(0, s0)] ds m Q = (WP 170 40 [q0, q1, q2] [(0, 1), (0, s0)] ds m Q) := P_nx k170_39 rfl
set_option maxRecDepth 20000 in
theorem k170_40 : mjCode 170 40 = some (.if_icmp .ne 12, 3, 52, 0) := by decide +kernel
theorem p170_40 {s0 s1 : Int} {q0 q1 q2 : MV} {ds : Ds} {m : Mm} {Q : Ds → Mm → List MV → Prop} : WP 170 40 [q0, q1, q2] [(0, s0), (0, s1)] ds m Q = (if s1 = s0 then WP 170 43 [q0, q1, q2] [] ds m Q else WP 170 52 [q0, q1, q2] [] ds m Q) := P_if k170_40 rfl
set_option maxRecDepth 20000 in
theorem k170_43 : mjCode 170 43 = some (.aload_n 0, 1, 0, 0) := by decide +kernel
theorem p170_43 {l0 : Int} {q1 q2 : MV} {ds : Ds} {m : Mm} {Q : Ds → Mm → List MV → Prop} : WP 170 43 [(2, l0), q1, q2] [] ds m Q = (WP 170 44 [(2, l0), q1, q2] [(2, l0)] ds m Q) := P_nx k170_43 rfl
set_option maxRecDepth 20000 in
theorem k170_44 : mjCode 170 44 = some (.getfield 114, 3, 7, 40) := by decide +kernel
theorem p170_44 {s0 : Int} {q0 q1 q2 : MV} {ds : Ds} {m : Mm} {Q : Ds → Mm → List MV → Prop} : WP 170 44 [q0, q1, q2] [(2, s0)] ds m Q = ((dk ds s0 = 7 ∧ WP 170 47 [q0, q1, q2] [(2, m s0 40)] ds m Q)) := P_gd k170_44 rfl
set_option maxRecDepth 20000 in
theorem k170_47 : mjCode 170 47 = some (.iload_n 1, 1, 0, 0) := by decide +kernel
theorem p170_47 {l1 s0 : Int} {q0 q2 : MV} {ds : Ds} {m : Mm} {Q : Ds → Mm → List MV → Prop} : WP 170 47 [q0, (0, l1), q2] [(2, s0)] ds m Q = (WP 170 48 [q0, (0, l1), q2] [(0, l1), (2, s0)] ds m Q) := P_nx k170_47 rfl
set_option maxRecDepth 20000 in
theorem k170_48 : mjCode 170 48 = some (.iaload, 1, 0, 0) := by decide +kernel
theorem p170_48 {s0 s1 : Int} {q0 q1 q2 : MV} {ds : Ds} {m : Mm} {Q : Ds → Mm → List MV → Prop} : WP 170 48 [q0, q1, q2] [(0, s0), (2, s1)] ds m Q = ((dk ds s1 = 10 ∧ 0 ≤ s0 ∧ s0 < dl ds s1 ∧ WP 170 49 [q0, q1, q2] [(0, m s1 s0)] ds m Q)) := P_g3 k170_48 rfl
set_option maxRecDepth 20000 in
theorem k170_49 : mjCode 170 49 = some (.goto 53, 3, 102, 0) := by decide +kernel
theorem p170_49 {s0 : Int} {q0 q1 q2 : MV} {ds : Ds} {m : Mm} {Q : Ds → Mm → List MV → Prop} : WP 170 49 [q0, q1, q2] [(0, s0)] ds m Q = (WP 170 102 [q0, q1, q2] [(0, s0)] ds m Q) := P_nx k170_49 rfl
set_option maxRecDepth 20000 in
theorem k170_52 : mjCode 170 52 = some (.iload_n 2, 1, 0, 0) := by decide +kernel
theorem p170_52 {l2 : Int} {q0 q1 : MV} {ds : Ds} {m : Mm} {Q : Ds → Mm → List MV → Prop} : WP 170 52 [q0, q1, (0, l2)] [] ds m Q = (WP 170 53 [q0, q1, (0, l2)] [(0, l2)] ds m Q) := P_nx k170_52 rfl
set_option maxRecDepth 20000 in
theorem k170_53 : mjCode 170 53 = some (.iconst 2, 1, 0, 0) := by decide +kernel
theorem p170_53 {s0 : Int} {q0 q1 q2 : MV} {ds : Ds} {m : Mm} {Q : Ds → Mm → List MV → Prop} : WP 170 53 [q0, q1, q2] [(0, s0)] ds m Q = (WP 170 54 [q0, q1, q2] [(0, 2), (0, s0)] ds m Q) := P_nx k170_53 rfl
set_option maxRecDepth 20000 in
theorem k170_54 : mjCode 170 54 = some (.if_icmp .ne 12, 3, 66, 0) := by decide +kernel
theorem p170_54 {s0 s1 : Int} {q0 q1 q2 : MV} {ds : Ds} {m : Mm} {Q : Ds → Mm → List MV → Prop} : WP 170 54 [q0, q1, q2] [(0, s0), (0, s1)] ds m Q = (if s1 = s0 then WP 170 57 [q0, q1, q2] [] ds m Q else WP 170 66 [q0, q1, q2] [] ds m Q) := P_if k170_54 rfl
set_option maxRecDepth 20000 in
theorem k170_57 : mjCode 170 57 = some (.aload_n 0, 1, 0, 0) := by decide +kernel
theorem p170_57 {l0 : Int} {q1 q2 : MV} {ds : Ds} {m : Mm} {Q : Ds → Mm → List MV → Prop} : WP 170 57 [(2, l0), q1, q2] [] ds m Q = (WP 170 58 [(2, l0), q1, q2] [(2, l0)] ds m Q) := P_nx k170_57 rfl
set_option maxRecDepth 20000 in
theorem k170_58 : mjCode 170 58 = some (.getfield 117, 3, 7, 41) := by decide +kernel
theorem p170_58 {s0 : Int} {q0 q1 q2 : MV} {ds : Ds} {m : Mm} {Q : Ds → Mm → List MV → Prop} : WP 170 58 [q0, q1, q2] [(2, s0)] ds m Q = ((dk ds s0 = 7 ∧ WP 170 61 [q0, q1, q2] [(2, m s0 41)] ds m Q)) := P_gd k170_58 rfl
set_option maxRecDepth 20000 in
theorem k170_61 : mjCode 170 61 = some (.iload_n 1, 1, 0, 0) := by decide +kernel
theorem p170_61 {l1 s0 : Int} {q0 q2 : MV} {ds : Ds} {m : Mm} {Q : Ds → Mm → List MV → Prop} : WP 170 61 [q0, (0, l1), q2] [(2, s0)] ds m Q = (WP 170 62 [q0, (0, l1), q2] [(0, l1), (2, s0)] ds m Q) := P_nx k170_61 rfl
set_option maxRecDepth 20000 in
theorem k170_62 : mjCode 170 62 = some (.iaload, 1, 0, 0) := by decide +kernel
theorem p170_62 {s0 s1 : Int} {q0 q1 q2 : MV} {ds : Ds} {m : Mm} {Q : Ds → Mm → List MV → Prop} : WP 170 62 [q0, q1, q2] [(0, s0), (2, s1)] ds m Q = ((dk ds s1 = 10 ∧ 0 ≤ s0 ∧ s0 < dl ds s1 ∧ WP 170 63 [q0, q1, q2] [(0, m s1 s0)] ds m Q)) := P_g3 k170_62 rfl
set_option maxRecDepth 20000 in
theorem k170_63 : mjCode 170 63 = some (.goto 39, 3, 102, 0) := by decide +kernel
theorem p170_63 {s0 : Int} {q0 q1 q2 : MV} {ds : Ds} {m : Mm} {Q : Ds → Mm → List MV → Prop} : WP 170 63 [q0, q1, q2] [(0, s0)] ds m Q = (WP 170 102 [q0, q1, q2] [(0, s0)] ds m Q) := P_nx k170_63 rfl
set_option maxRecDepth 20000 in
theorem k170_66 : mjCode 170 66 = some (.iload_n 2, 1, 0, 0) := by decide +kernel
theorem p170_66 {l2 : Int} {q0 q1 : MV} {ds : Ds} {m : Mm} {Q : Ds → Mm → List MV → Prop} : WP 170 66 [q0, q1, (0, l2)] [] ds m Q = (WP 170 67 [q0, q1, (0, l2)] [(0, l2)] ds m Q) := P_nx k170_66 rfl
set_option maxRecDepth 20000 in
theorem k170_67 : mjCode 170 67 = some (.iconst 3, 1, 0, 0) := by decide +kernel
theorem p170_67 {s0 : Int} {q0 q1 q2 : MV} {ds : Ds} {m : Mm} {Q : Ds → Mm → List MV → Prop} : WP 170 67 [q0, q1, q2] [(0, s0)] ds m Q = (WP 170 68 [q0, q1, q2] [(0, 3), (0, s0)] ds m Q) := P_nx k170_67 rfl
set_option maxRecDepth 20000 in
theorem k170_68 : mjCode 170 68 = some (.if_icmp .ne 20, 3, 88, 0) := by decide +kernel
theorem p170_68 {s0 s1 : Int} {q0 q1 q2 : MV} {ds : Ds} {m : Mm} {Q : Ds → Mm → List MV → Prop} : WP 170 68 [q0, q1, q2] [(0, s0), (0, s1)] ds m Q = (if s1 = s0 then WP 170 71 [q0, q1, q2] [] ds m Q else WP 170 88 [q0, q1, q2] [] ds m Q) := P_if k170_68 rfl
set_option maxRecDepth 20000 in
theorem k170_71 : mjCode 170 71 = some (.aload_n 0, 1, 0, 0) := by decide +kernel
theorem p170_71 {l0 : Int} {q1 q2 : MV} {ds : Ds} {m : Mm} {Q : Ds → Mm → List MV → Prop} : WP 170 71 [(2, l0), q1, q2] [] ds m Q = (WP 170 72 [(2, l0), q1, q2] [(2, l0)] ds m Q) := P_nx k170_71 rfl
set_option maxRecDepth 20000 in
theorem k170_72 : mjCode 170 72 = some (.getfield 120, 3, 7, 42) := by decide +kernel
theorem p170_72 {s0 : Int} {q0 q1 q2 : MV} {ds : Ds} {m : Mm} {Q : Ds → Mm → List MV → Prop} : WP 170 72 [q0, q1, q2] [(2, s0)] ds m Q = ((dk ds s0 = 7 ∧ WP 170 75 [q0, q1, q2] [(2, m s0 42)] ds m Q)) := P_gd k170_72 rfl
set_option maxRecDepth 20000 in
theorem k170_75 : mjCode 170 75 = some (.iload_n 1, 1, 0, 0) := by decide +kernel
theorem p170_75 {l1 s0 : Int} {q0 q2 : MV} {ds : Ds} {m : Mm} {Q : Ds → Mm → List MV → Prop} : WP 170 75 [q0, (0, l1), q2] [(2, s0)] ds m Q = (WP 170 76 [q0, (0, l1), q2] [(0, l1), (2, s0)] ds m Q) := P_nx k170_75 rfl
set_option maxRecDepth 20000 in
theorem k170_76 : mjCode 170 76 = some (.baload, 1, 0, 0) := by decide +kernel
theorem p170_76 {s0 s1 : Int} {q0 q1 q2 : MV} {ds : Ds} {m : Mm} {Q : Ds → Mm → List MV → Prop} : WP 170 76 [q0, q1, q2] [(0, s0), (2, s1)] ds m Q = ((dk ds s1 = 11 ∧ 0 ≤ s0 ∧ s0 < dl ds s1 ∧ WP 170 77 [q0, q1, q2] [(0, m s1 s0)] ds m Q)) := P_g3 k170_76 rfl
set_option maxRecDepth 20000 in
theorem k170_77 : mjCode 170 77 = some (.ifCond .eq 7, 3, 84, 0) := by decide +kernel
theorem p170_77 {s0 : Int} {q0 q1 q2 : MV} {ds : Ds} {m : Mm} {Q : Ds → Mm → List MV → Prop} : WP 170 77 [q0, q1, q2] [(0, s0)] ds m Q = (if s0 = 0 then WP 170 84 [q0, q1, q2] [] ds m Q else WP 170 80 [q0, q1, q2] [] ds m Q) := P_if k170_77 rfl
set_option maxRecDepth 20000 in
theorem k170_80 : mjCode 170 80 = some (.iconst 1, 1, 0, 0) := by decide +kernel
theorem p170_80 {q0 q1 q2 : MV} {ds : Ds} {m : Mm} {Q : Ds → Mm → List MV → Prop} : WP 170 80 [q0, q1, q2] [] ds m Q = (WP 170 81 [q0, q1, q2] [(0, 1)] ds m Q) := P_nx k170_80 rfl
set_option maxRecDepth 20000 in
theorem k170_81 : mjCode 170 81 = some (.goto 21, 3, 102, 0) := by decide +kernel
theorem p170_81 {s0 : Int} {q0 q1 q2 : MV} {ds : Ds} {m : Mm} {Q : Ds → Mm → List MV → Prop} : WP 170 81 [q0, q1, q2] [(0, s0)] ds m Q = (WP 170 102 [q0, q1, q2] [(0, s0)] ds m Q) := P_nx k170_81 rfl
set_option maxRecDepth 20000 in
theorem k170_84 : mjCode 170 84 = some (.iconst 0, 1, 0, 0) := by decide +kernel
theorem p170_84 {q0 q1 q2 : MV} {ds : Ds} {m : Mm} {Q : Ds → Mm → List MV → Prop} : WP 170 84 [q0, q1, q2] [] ds m Q = (WP 170 85 [q0, q1, q2] [(0, 0)] ds m Q) := P_nx k170_84 rfl
set_option maxRecDepth 20000 in
theorem k170_85 : mjCode 170 85 = some (.goto 17, 3, 102, 0) := by decide +kernel
theorem p170_85 {s0 : Int} {q0 q1 q2 : MV} {ds : Ds} {m : Mm} {Q : Ds → Mm → List MV → Prop} : WP 170 85 [q0, q1, q2] [(0, s0)] ds m Q = (WP 170 102 [q0, q1, q2] [(0, s0)] ds m Q) := P_nx k170_85 rfl
set_option maxRecDepth 20000 in
theorem k170_88 : mjCode 170 88 = some (.aload_n 0, 1, 0, 0) := by decide +kernel
theorem p170_88 {l0 : Int} {q1 q2 : MV} {ds : Ds} {m : Mm} {Q : Ds → Mm → List MV → Prop} : WP 170 88 [(2, l0), q1, q2] [] ds m Q = (WP 170 89 [(2, l0), q1, q2] [(2, l0)] ds m Q) := P_nx k170_88 rfl
set_option maxRecDepth 20000 in
theorem k170_89 : mjCode 170 89 = some (.getfield 123, 3, 7, 43) := by decide +kernel
theorem p170_89 {s0 : Int} {q0 q1 q2 : MV} {ds : Ds} {m : Mm} {Q : Ds → Mm → List MV → Prop} : WP 170 89 [q0, q1, q2] [(2, s0)] ds m Q = ((dk ds s0 = 7 ∧ WP 170 92 [q0, q1, q2] [(2, m s0 43)] ds m Q)) := P_gd k170_89 rfl
set_option maxRecDepth 20000 in
theorem k170_92 : mjCode 170 92 = some (.iload_n 1, 1, 0, 0) := by decide +kernel
theorem p170_92 {l1 s0 : Int} {q0 q2 : MV} {ds : Ds} {m : Mm} {Q : Ds → Mm → List MV → Prop} : WP 170 92 [q0, (0, l1), q2] [(2, s0)] ds m Q = (WP 170 93 [q0, (0, l1), q2] [(0, l1), (2, s0)] ds m Q) := P_nx k170_92 rfl
set_option maxRecDepth 20000 in
theorem k170_93 : mjCode 170 93 = some (.baload, 1, 0, 0) := by decide +kernel
theorem p170_93 {s0 s1 : Int} {q0 q1 q2 : MV} {ds : Ds} {m : Mm} {Q : Ds → Mm → List MV → Prop} : WP 170 93 [q0, q1, q2] [(0, s0), (2, s1)] ds m Q = ((dk ds s1 = 11 ∧ 0 ≤ s0 ∧ s0 < dl ds s1 ∧ WP 170 94 [q0, q1, q2] [(0, m s1 s0)] ds m Q)) := P_g3 k170_93 rfl
set_option maxRecDepth 20000 in
theorem k170_94 : mjCode 170 94 = some (.ifCond .eq 7, 3, 101, 0) := by decide +kernel
theorem p170_94 {s0 : Int} {q0 q1 q2 : MV} {ds : Ds} {m : Mm} {Q : Ds → Mm → List MV → Prop} : WP 170 94 [q0, q1, q2] [(0, s0)] ds m Q = (if s0 = 0 then WP 170 101 [q0, q1, q2] [] ds m Q else WP 170 97 [q0, q1, q2] [] ds m Q) := P_if k170_94 rfl
set_option maxRecDepth 20000 in
theorem k170_97 : mjCode 170 97 = some (.iconst 1, 1, 0, 0) := by decide +kernel
theorem p170_97 {q0 q1 q2 : MV} {ds : Ds} {m : Mm} {Q : Ds → Mm → List MV → Prop} : WP 170 97 [q0, q1, q2] [] ds m Q = (WP 170 98 [q0, q1, q2] [(0, 1)] ds m Q) := P_nx k170_97 rfl
set_option maxRecDepth 20000 in
theorem k170_98 : mjCode 170 98 = some (.goto 4, 3, 102, 0) := by decide +kernel
theorem p170_98 {s0 : Int} {q0 q1 q2 : MV} {ds : Ds} {m : Mm} {Q : Ds → Mm → List MV → Prop} : WP 170 98 [q0, q1, q2] [(0, s0)] ds m Q = (WP 170 102 [q0, q1, q2] [(0, s0)] ds m Q) := P_nx k170_98 rfl
set_option maxRecDepth 20000 in
theorem k170_101 : mjCode 170 101 = some (.iconst 0, 1, 0, 0) := by decide +kernel
theorem p170_101 {q0 q1 q2 : MV} {ds : Ds} {m : Mm} {Q : Ds → Mm → List MV → Prop} : WP 170 101 [q0, q1, q2] [] ds m Q = (WP 170 102 [q0, q1, q2] [(0, 0)] ds m Q) := P_nx k170_101 rfl
set_option maxRecDepth 20000 in
theorem k170_102 : mjCode 170 102 = some (.ireturn, 1, 0, 0) := by decide +kernel
theorem p170_102 {s0 : Int} {q0 q1 q2 : MV} {ds : Ds} {m : Mm} {Q : Ds → Mm → List MV → Prop} : WP 170 102 [q0, q1, q2] [(0, s0)] ds m Q = (Q ds m [(0, s0)]) := P_ri k170_102 rk170
set_option maxRecDepth 20000 in
theorem k171_0 : mjCode 171 0 = some (.aload_n 0, 1, 0, 0) := by decide +kernel
theorem p171_0 {l0 : Int} {q1 q2 q3 q4 q5 : MV} {ds : Ds} {m : Mm} {Q : Ds → Mm → List MV → Prop} : WP 171 0 [(2, l0), q1, q2, q3, q4, q5] [] ds m Q = (WP 171 1 [(2, l0), q1, q2, q3, q4, q5] [(2, l0)] ds m Q) := P_nx k171_0 rfl
set_option maxRecDepth 20000 in
theorem k171_1 : mjCode 171 1 = some (.getfield 264, 3, 7, 10) := by decide +kernel
theorem p171_1 {s0 : Int} {q0 q1 q2 q3 q4 q5 : MV} {ds : Ds} {m : Mm} {Q : Ds → Mm → List MV → Prop} : WP 171 1 [q0, q1, q2, q3, q4, q5] [(2, s0)] ds m Q = ((dk ds s0 = 7 ∧ WP 171 4 [q0, q1, q2, q3, q4, q5] [(0, m s0 10)] ds m Q)) := P_gd k171_1 rfl
set_option maxRecDepth 20000 in
theorem k171_4 : mjCode 171 4 = some (.ifCond .eq 19, 3, 23, 0) := by decide +kernel
theorem p171_4 {s0 : Int} {q0 q1 q2 q3 q4 q5 : MV} {ds : Ds} {m : Mm} {Q : Ds → Mm → List MV → Prop} : WP 171 4 [q0, q1, q2, q3, q4, q5] [(0, s0)] ds m Q = (if s0 = 0 then WP 171 23 [q0, q1, q2, q3, q4, q5] [] ds m Q else WP 171 7 [q0, q1, q2, q3, q4, q5] [] ds m Q) := P_if k171_4 rfl
set_option maxRecDepth 20000 in
theorem k171_7 : mjCode 171 7 = some (.iload_n 1, 1, 0, 0) := by decide +kernel
theorem p171_7 {l1 : Int} {q0 q2 q3 q4 q5 : MV} {ds : Ds} {m : Mm} {Q : Ds → Mm → List MV → Prop} : WP 171 7 [q0, (0, l1), q2, q3, q4, q5] [] ds m Q = (WP 171 8 [q0, (0, l1), q2, q3, q4, q5] [(0, l1)] ds m Q) := P_nx k171_7 rfl
set_option maxRecDepth 20000 in
theorem k171_8 : mjCode 171 8 = some (.invokestatic 152, 3, 123, 1) := by decide +kernel
theorem p171_8 {s0 : Int} {q0 q1 q2 q3 q4 q5 : MV} {ds : Ds} {m : Mm} {Q : Ds → Mm → List MV → Prop} : WP 171 8 [q0, q1, q2, q3, q4, q5] [(0, s0)] ds m Q = (WP 122 0 [(0, s0)] [] ds m (fun d2 m2 r2 => WP 171 11 [q0, q1, q2, q3, q4, q5] (r2 ++ []) d2 m2 Q)) := P_cs k171_8 mx122 rfl rfl rfl rfl rfl rfl rfl
set_option maxRecDepth 20000 in
theorem k171_11 : mjCode 171 11 = some (.ifCond .eq 12, 3, 23, 0) := by decide +kernel
theorem p171_11 {s0 : Int} {q0 q1 q2 q3 q4 q5 : MV} {ds : Ds} {m : Mm} {Q : Ds → Mm → List MV → Prop} : WP 171 11 [q0, q1, q2, q3, q4, q5] [(0, s0)] ds m Q = (if s0 = 0 then WP 171 23 [q0, q1, q2, q3, q4, q5] [] ds m Q else WP 171 14 [q0, q1, q2, q3, q4, q5] [] ds m Q) := P_if k171_11 rfl
set_option maxRecDepth 20000 in
theorem k171_14 : mjCode 171 14 = some (.aload_n 0, 1, 0, 0) := by decide +kernel
theorem p171_14 {l0 : Int} {q1 q2 q3 q4 q5 : MV} {ds : Ds} {m : Mm} {Q : Ds → Mm → List MV → Prop} : WP 171 14 [(2, l0), q1, q2, q3, q4, q5] [] ds m Q = (WP 171 15 [(2, l0), q1, q2, q3, q4, q5] [(2, l0)] ds m Q) := P_nx k171_14 rfl
set_option maxRecDepth 20000 in
theorem k171_15 : mjCode 171 15 = some (.getfield 114, 3, 7, 40) := by decide +kernel
theorem p171_15 {s0 : Int} {q0 q1 q2 q3 q4 q5 : MV} {ds : Ds} {m : Mm} {Q : Ds → Mm → List MV → Prop} : WP 171 15 [q0, q1, q2, q3, q4, q5] [(2, s0)] ds m Q = ((dk ds s0 = 7 ∧ WP 171 18 [q0, q1, q2, q3, q4, q5] [(2, m s0 40)] ds m Q)) := P_gd k171_15 rfl
set_option maxRecDepth 20000 in
theorem k171_18 : mjCode 171 18 = some (.iload_n 1, 1, 0, 0) := by decide +kernel
theorem p171_18 {l1 s0 : Int} {q0 q2 q3 q4 q5 : MV} {ds : Ds} {m : Mm} {Q : Ds → Mm → List MV → Prop} : WP 171 18 [q0, (0, l1), q2, q3, q4, q5] [(2, s0)] ds m Q = (WP 171 19 [q0, (0, l1), q2, q3, q4, q5] [(0, l1), (2, s0)] ds m Q) := P_nx k171_18 rfl
set_option maxRecDepth 20000 in
theorem k171_19 : mjCode 171 19 = some (.iaload, 1, 0, 0) := by decide +kernel
theorem p171_19 {s0 s1 : Int} {q0 q1 q2 q3 q4 q5 : MV} {ds : Ds} {m : Mm} {Q : Ds → Mm → List MV → Prop} : WP 171 19 [q0, q1, q2, q3, q4, q5] [(0, s0), (2, s1)] ds m Q = ((dk ds s1 = 10 ∧ 0 ≤ s0 ∧ s0 < dl ds s1 ∧ WP 171 20 [q0, q1, q2, q3, q4, q5] [(0, m s1 s0)] ds m Q)) := P_g3 k171_19 rfl
set_option maxRecDepth 20000 in
theorem k171_20 : mjCode 171 20 = some (.ifCond .ne 5, 3, 25, 0) := by decide +kernel
theorem p171_20 {s0 : Int} {q0 q1 q2 q3 q4 q5 : MV} {ds : Ds} {m : Mm} {Q : Ds → Mm → List MV → Prop} : WP 171 20 [q0, q1, q2, q3, q4, q5] [(0, s0)] ds m Q = (if s0 = 0 then WP 171 23 [q0, q1, q2, q3, q4, q5] [] ds m Q else WP 171 25 [q0, q1, q2, q3, q4, q5] [] ds m Q) := P_if k171_20 rfl
set_option maxRecDepth 20000 in
theorem k171_23 : mjCode 171 23 = some (.iconst (-1), 1, 0, 0) := by decide +kernel
theorem p171_23 {q0 q1 q2 q3 q4 q5 : MV} {ds : Ds} {m : Mm} {Q : Ds → Mm → List MV → Prop} : WP 171 23 [q0, q1, q2, q3, q4, q5] [] ds m Q = (WP 171 24 [q0, q1, q2, q3, q4, q5] [(0, (-1))] ds m Q) := P_nx k171_23 rfl
set_option maxRecDepth 20000 in
theorem k171_24 : mjCode 171 24 = some (.ireturn, 1, 0, 0) := by decide +kernel
theorem p171_24 {s0 : Int} {q0 q1 q2 q3 q4 q5 : MV} {ds : Ds} {m : Mm} {Q : Ds → Mm → List MV → Prop} : WP 171 24 [q0, q1, q2, q3, q4, q5] [(0, s0)] ds m Q = (Q ds m [(0, s0)]) := P_ri k171_24 rk171
set_option maxRecDepth 20000 in
theorem k171_25 : mjCode 171 25 = some (.iconst 0, 1, 0, 0) := by decide +kernel
theorem p171_25 {q0 q1 q2 q3 q4 q5 : MV} {ds : Ds} {m : Mm} {Q : Ds → Mm → List MV → Prop} : WP 171 25 [q0, q1, q2, q3, q4, q5] [] ds m Q = (WP 171 26 [q0, q1, q2, q3, q4, q5] [(0, 0)] ds m Q) := P_nx k171_25 rfl
set_option maxRecDepth 20000 in
theorem k171_26 : mjCode 171 26 = some (.istore_n 3, 1, 0, 0) := by decide +kernel
theorem p171_26 {l2 s0 : Int} {q0 q1 q3 q4 q5 : MV} {ds : Ds} {m : Mm} {Q : Ds → Mm → List MV → Prop} : WP 171 26 [q0, q1, (0, l2), q3, q4, q5] [(0, s0)] ds m Q = (WP 171 27 [q0, q1, (0, l2), (0, s0), q4, q5] [] ds m Q) := P_nx k171_26 rfl
set_option maxRecDepth 20000 in
theorem k171_27 : mjCode 171 27 = some (.aload_n 0, 1, 0, 0) := by decide +kernel
theorem p171_27 {l0 : Int} {q1 q2 q3 q4 q5 : MV} {ds : Ds} {m : Mm} {Q : Ds → Mm → List MV → Prop} : WP 171 27 [(2, l0), q1, q2, q3, q4, q5] [] ds m Q = (WP 171 28 [(2, l0), q1, q2, q3, q4, q5] [(2, l0)] ds m Q) := P_nx k171_27 rfl
set_option maxRecDepth 20000 in
theorem k171_28 : mjCode 171 28 = some (.getfield 111, 3, 7, 39) := by decide +kernel
theorem p171_28 {s0 : Int} {q0 q1 q2 q3 q4 q5 : MV} {ds : Ds} {m : Mm} {Q : Ds → Mm → List MV → Prop} : WP 171 28 [q0, q1, q2, q3, q4, q5] [(2, s0)] ds m Q = ((dk ds s0 = 7 ∧ WP 171 31 [q0, q1, q2, q3, q4, q5] [(2, m s0 39)] ds m Q)) := P_gd k171_28 rfl
set_option maxRecDepth 20000 in
theorem k171_31 : mjCode 171 31 = some (.iload_n 1, 1, 0, 0) := by decide +kernel
theorem p171_31 {l1 s0 : Int} {q0 q2 q3 q4 q5 : MV} {ds : Ds} {m : Mm} {Q : Ds → Mm → List MV → Prop} : WP 171 31 [q0, (0, l1), q2, q3, q4, q5] [(2, s0)] ds m Q = (WP 171 32 [q0, (0, l1), q2, q3, q4, q5] [(0, l1), (2, s0)] ds m Q) := P_nx k171_31 rfl
set_option maxRecDepth 20000 in
theorem k171_32 : mjCode 171 32 = some (.iaload, 1, 0, 0) := by decide +kernel
theorem p171_32 {s0 s1 : Int} {q0 q1 q2 q3 q4 q5 : MV} {ds : Ds} {m : Mm} {Q : Ds → Mm → List MV → Prop} : WP 171 32 [q0, q1, q2, q3, q4, q5] [(0, s0), (2, s1)] ds m Q = ((dk ds s1 = 10 ∧ 0 ≤ s0 ∧ s0 < dl ds s1 ∧ WP 171 33 [q0, q1, q2, q3, q4, q5] [(0, m s1 s0)] ds m Q)) := P_g3 k171_32 rfl
set_option maxRecDepth 20000 in
theorem k171_33 : mjCode 171 33 = some (.istore 4, 2, 0, 0) := by decide +kernel
theorem p171_33 {l3 s0 : Int} {q0 q1 q2 q4 q5 : MV} {ds : Ds} {m : Mm} {Q : Ds → Mm → List MV → Prop} : WP 171 33 [q0, q1, q2, (0, l3), q4, q5] [(0, s0)] ds m Q = (WP 171 35 [q0, q1, q2, (0, l3), (0, s0), q5] [] ds m Q) := P_nx k171_33 rfl
set_option maxRecDepth 20000 in
theorem k171_35 : mjCode 171 35 = some (.iload 4, 2, 0, 0) := by decide +kernel
theorem p171_35 {l4 : Int} {q0 q1 q2 q3 q5 : MV} {ds : Ds} {m : Mm} {Q : Ds → Mm → List MV → Prop} : WP 171 35 [q0, q1, q2, q3, (0, l4), q5] [] ds m Q = (WP 171 37 [q0, q1, q2, q3, (0, l4), q5] [(0, l4)] ds m Q) := P_nx k171_35 rfl
set_option maxRecDepth 20000 in
theorem k171_37 : mjCode 171 37 = some (.iconst (-1), 1, 0, 0) := by decide +kernel
theorem p171_37 {s0 : Int} {q0 q1 q2 q3 q4 q5 : MV} {ds : Ds} {m : Mm} {Q : Ds → Mm → List MV → Prop} : WP 171 37 [q0, q1, q2, q3, q4, q5] [(0, s0)] ds m Q = (WP 171 38 [q0, q1, q2, q3, q4, q5] [(0, (-1)), (0, s0)] ds m Q) := P_nx k171_37 rfl
set_option maxRecDepth 20000 in
theorem k171_38 : mjCode 171 38 = some (.if_icmp .eq 23, 3, 61, 0) := by decide +kernel
theorem p171_38 {s0 s1 : Int} {q0 q1 q2 q3 q4 q5 : MV} {ds : Ds} {m : Mm} {Q : Ds → Mm → List MV → Prop} : WP 171 38 [q0, q1, q2, q3, q4, q5] [(0, s0), (0, s1)] ds m Q = (if s1 = s0 then WP 171 61 [q0, q1, q2, q3, q4, q5] [] ds m Q else WP 171 41 [q0, q1, q2, q3, q4, q5] [] ds m Q) := P_if k171_38 rfl
set_option maxRecDepth 20000 in
theorem k171_41 : mjCode 171 41 = some (.iinc 3 1, 3, 0, 0) := by decide +kernel
theorem p171_41 {l3 : Int} {q0 q1 q2 q4 q5 : MV} {ds : Ds} {m : Mm} {Q : Ds → Mm → List MV → Prop} : WP 171 41 [q0, q1, q2, (0, l3), q4, q5] [] ds m Q = (WP 171 44 [q0, q1, q2, (0, w32 (l3 + 1)), q4, q5] [] ds m Q) := P_nx k171_41 rfl
set_option maxRecDepth 20000 in
theorem k171_44 : mjCode 171 44 = some (.aload_n 0, 1, 0, 0) := by decide +kernel
theorem p171_44 {l0 : Int} {q1 q2 q3 q4 q5 : MV} {ds : Ds} {m : Mm} {Q : Ds → Mm → List MV → Prop} : WP 171 44 [(2, l0), q1, q2, q3, q4, q5] [] ds m Q = (WP 171 45 [(2, l0), q1, q2, q3, q4, q5] [(2, l0)] ds m Q) := P_nx k171_44 rfl
set_option maxRecDepth 20000 in
theorem k171_45 : mjCode 171 45 = some (.getfield 105, 3, 7, 37) := by decide +kernel
theorem p171_45 {s0 : Int} {q0 q1 q2 q3 q4 q5 : MV} {ds : Ds} {m : Mm} {Q : Ds → Mm → List MV → Prop} : WP 171 45 [q0, q1, q2, q3, q4, q5] [(2, s0)] ds m Q = ((dk ds s0 = 7 ∧ WP 171 48 [q0, q1, q2, q3, q4, q5] [(2, m s0 37)] ds m Q)) := P_gd k171_45 rfl
set_option maxRecDepth 20000 in
theorem k171_48 : mjCode 171 48 = some (.bipush 6, 2, 0, 0) := by decide +kernel
theorem p171_48 {s0 : Int} {q0 q1 q2 q3 q4 q5 : MV} {ds : Ds} {m : Mm} {Q : Ds → Mm → List MV → Prop} : WP 171 48 [q0, q1, q2, q3, q4, q5] [(2, s0)] ds m Q = (WP 171 50 [q0, q1, q2, q3, q4, q5] [(0, 6), (2, s0)] ds m Q) := P_nx k171_48 rfl
set_option maxRecDepth 20000 in
theorem k171_50 : mjCode 171 50 = some (.iload 4, 2, 0, 0) := by decide +kernel
theorem p171_50 {l4 s0 s1 : Int} {q0 q1 q2 q3 q5 : MV} {ds : Ds} {m : Mm} {Q : Ds → Mm → List MV → Prop} : WP 171 50 [q0, q1, q2, q3, (0, l4), q5] [(0, s0), (2, s1)] ds m Q = (WP 171 52 [q0, q1, q2, q3, (0, l4), q5] [(0, l4), (0, s0), (2, s1)] ds m Q) := P_nx k171_50 rfl
set_option maxRecDepth 20000 in
theorem k171_52 : mjCode 171 52 = some (.imul, 1, 0, 0) := by decide +kernel
theorem p171_52 {s0 s1 s2 : Int} {q0 q1 q2 q3 q4 q5 : MV} {ds : Ds} {m : Mm} {Q : Ds → Mm → List MV → Prop} : WP 171 52 [q0, q1, q2, q3, q4, q5] [(0, s0), (0, s1), (2, s2)] ds m Q = (WP 171 53 [q0, q1, q2, q3, q4, q5] [(0, w32 (s1 * s0)), (2, s2)] ds m Q) := P_nx k171_52 rfl
set_option maxRecDepth 20000 in
theorem k171_53 : mjCode 171 53 = some (.iconst 3, 1, 0, 0) := by decide +kernel
theorem p171_53 {s0 s1 : Int} {q0 q1 q2 q3 q4 q5 : MV} {ds : Ds} {m : Mm} {Q : Ds → Mm → List MV → Prop} : WP 171 53 [q0, q1, q2, q3, q4, q5] [(0, s0), (2, s1)] ds m Q = (WP 171 54 [q0, q1, q2, q3, q4, q5] [(0, 3), (0, s0), (2, s1)] ds m Q) := P_nx k171_53 rfl
set_option maxRecDepth 20000 in
theorem k171_54 : mjCode 171 54 = some (.iadd, 1, 0, 0) := by decide +kernel
theorem p171_54 {s0 s1 s2 : Int} {q0 q1 q2 q3 q4 q5 : MV} {ds : Ds} {m : Mm} {Q : Ds → Mm → List MV → Prop} : WP 171 54 [q0, q1, q2, q3, q4, q5] [(0, s0), (0, s1), (2, s2)] ds m Q = (WP 171 55 [q0, q1, q2, q3, q4, q5] [(0, w32 (s1 + s0)), (2, s2)] ds m Q) := P_nx k171_54 rfl
set_option maxRecDepth 20000 in
theorem k171_55 : mjCode 171 55 = some (.iaload, 1, 0, 0) := by decide +kernel
theorem p171_55 {s0 s1 : Int} {q0 q1 q2 q3 q4 q5 : MV} {ds : Ds} {m : Mm} {Q : Ds → Mm → List MV → Prop} : WP 171 55 [q0, q1, q2, q3, q4, q5] [(0, s0), (2, s1)] ds m Q = ((dk ds s1 = 10 ∧ 0 ≤ s0 ∧ s0 < dl ds s1 ∧ WP 171 56 [q0, q1, q2, q3, q4, q5] [(0, m s1 s0)] ds m Q)) := P_g3 k171_55 rfl
set_option maxRecDepth 20000 in
theorem k171_56 : mjCode 171 56 = some (.istore 4, 2, 0, 0) := by decide +kernel
theorem p171_56 {l3 s0 : Int} {q0 q1 q2 q4 q5 : MV} {ds : Ds} {m : Mm} {Q : Ds → Mm → List MV → Prop} : WP 171 56 [q0, q1, q2, (0, l3), q4, q5] [(0, s0)] ds m Q = (WP 171 58 [q0, q1, q2, (0, l3), (0, s0), q5] [] ds m Q) := P_nx k171_56 rfl
set_option maxRecDepth 20000 in
theorem k171_58 : mjCode 171 58 = some (.goto (-23), 3, 35, 0) := by decide +kernel
theorem p171_58 {q0 q1 q2 q3 q4 q5 : MV} {ds : Ds} {m : Mm} {Q : Ds → Mm → List MV → Prop} : WP 171 58 [q0, q1, q2, q3, q4, q5] [] ds m Q = (WP 171 35 [q0, q1, q2, q3, q4, q5] [] ds m Q) := P_nx k171_58 rfl
set_option maxRecDepth 20000 in
theorem k171_61 : mjCode 171 61 = some (.iload_n 2, 1, 0, 0) := by decide +kernel
theorem p171_61 {l2 : Int} {q0 q1 q3 q4 q5 : MV} {ds : Ds} {m : Mm} {Q : Ds → Mm → List MV → Prop} : WP 171 61 [q0, q1, (0, l2), q3, q4, q5] [] ds m Q = (WP 171 62 [q0, q1, (0, l2), q3, q4, q5] [(0, l2)] ds m Q) := P_nx k171_61 rfl
set_option maxRecDepth 20000 in
theorem k171_62 : mjCode 171 62 = some (.iconst 0, 1, 0, 0) := by decide +kernel
theorem p171_62 {s0 : Int} {q0 q1 q2 q3 q4 q5 : MV} {ds : Ds} {m : Mm} {Q : Ds → Mm → List MV → Prop} : WP 171 62 [q0, q1, q2, q3, q4, q5] [(0, s0)] ds m Q = (WP 171 63 [q0, q1, q2, q3, q4, q5] [(0, 0), (0, s0)] ds m Q) := P_nx k171_62 rfl
set_option maxRecDepth 20000 in
theorem k171_63 : mjCode 171 63 = some (.iload_n 3, 1, 0, 0) := by decide +kernel
theorem p171_63 {l3 s0 s1 : Int} {q0 q1 q2 q4 q5 : MV} {ds : Ds} {m : Mm} {Q : Ds → Mm → List MV → Prop} : WP 171 63 [q0, q1, q2, (0, l3), q4, q5] [(0, s0), (0, s1)] ds m Q = (WP 171 64 [q0, q1, q2, (0, l3), q4, q5] [(0, l3), (0, s0), (0, s1)] ds m Q) := P_nx k171_63 rfl
set_option maxRecDepth 20000 in
theorem k171_64 : mjCode 171 64 = some (.iconst 1, 1, 0, 0) := by decide +kernel
theorem p171_64 {s0 s1 s2 : Int} {q0 q1 q2 q3 q4 q5 : MV} {ds : Ds} {m : Mm} {Q : Ds → Mm → List MV → Prop} : WP 171 64 [q0, q1, q2, q3, q4, q5] [(0, s0), (0, s1), (0, s2)] ds m Q = (WP 171 65 [q0, q1, q2, q3, q4, q5] [(0, 1), (0, s0), (0, s1), (0, s2)] ds m Q) := P_nx k171_64 rfl
set_option maxRecDepth 20000 in
theorem k171_65 : mjCode 171 65 = some (.isub, 1, 0, 0) := by decide +kernel
theorem p171_65 {s0 s1 s2 s3 : Int} {q0 q1 q2 q3 q4 q5 : MV} {ds : Ds} {m : Mm} {Q : Ds → Mm → List MV → Prop} : WP 171 65 [q0, q1, q2, q3, q4, q5] [(0, s0), (0, s1), (0, s2), (0, s3)] ds m Q = (WP 171 66 [q0, q1, q2, q3, q4, q5] [(0, w32 (s1 - s0)), (0, s2), (0, s3)] ds m Q) := P_nx k171_65 rfl
set_option maxRecDepth 20000 in
theorem k171_66 : mjCode 171 66 = some (.invokestatic 141, 3, 121, 3) := by decide +kernel
theorem p171_66 {s0 s1 s2 : Int} {q0 q1 q2 q3 q4 q5 : MV} {ds : Ds} {m : Mm} {Q : Ds → Mm → List MV → Prop} : WP 171 66 [q0, q1, q2, q3, q4, q5] [(0, s0), (0, s1), (0, s2)] ds m Q = (WP 120 0 [(0, s2), (0, s1), (0, s0)] [] ds m (fun d2 m2 r2 => WP 171 69 [q0, q1, q2, q3, q4, q5] (r2 ++ []) d2 m2 Q)) := P_cs k171_66 mx120 rfl rfl rfl rfl rfl rfl rfl
set_option maxRecDepth 20000 in
theorem k171_69 : mjCode 171 69 = some (.ifCond .ne 5, 3, 74, 0) := by decide +kernel
theorem p171_69 {s0 : Int} {q0 q1 q2 q3 q4 q5 : MV} {ds : Ds} {m : Mm} {Q : Ds → Mm → List MV → Prop} : WP 171 69 [q0, q1, q2, q3, q4, q5] [(0, s0)] ds m Q = (if s0 = 0 then WP 171 72 [q0, q1, q2, q3, q4, q5] [] ds m Q else WP 171 74 [q0, q1, q2, q3, q4, q5] [] ds m Q) := P_if k171_69 rfl
set_option maxRecDepth 20000 in
theorem k171_72 : mjCode 171 72 = some (.iconst (-1), 1, 0, 0) := by decide +kernel
theorem p171_72 {q0 q1 q2 q3 q4 q5 : MV} {ds : Ds} {m : Mm} {Q : Ds → Mm → List MV → Prop} : WP 171 72 [q0, q1, q2, q3, q4, q5] [] ds m Q = (WP 171 73 [q0, q1, q2, q3, q4, q5] [(0, (-1))] ds m Q) := P_nx k171_72 rfl
set_option maxRecDepth 20000 in
theorem k171_73 : mjCode 171 73 = some (.ireturn, 1, 0, 0) := by decide +kernel
theorem p171_73 {s0 : Int} {q0 q1 q2 q3 q4 q5 : MV} {ds : Ds} {m : Mm} {Q : Ds → Mm → List MV → Prop} : WP 171 73 [q0, q1, q2, q3, q4, q5] [(0, s0)] ds m Q = (Q ds m [(0, s0)]) := P_ri k171_73 rk171
set_option maxRecDepth 20000 in
theorem k171_74 : mjCode 171 74 = some (.aload_n 0, 1, 0, 0) := by decide +kernel
theorem p171_74 {l0 : Int} {q1 q2 q3 q4 q5 : MV} {ds : Ds} {m : Mm} {Q : Ds → Mm → List MV → Prop} : WP 171 74 [(2, l0), q1, q2, q3, q4, q5] [] ds m Q = (WP 171 75 [(2, l0), q1, q2, q3, q4, q5] [(2, l0)] ds m Q) := P_nx k171_74 rfl
set_option maxRecDepth 20000 in
theorem k171_75 : mjCode 171 75 = some (.getfield 111, 3, 7, 39) := by decide +kernel
theorem p171_75 {s0 : Int} {q0 q1 q2 q3 q4 q5 : MV} {ds : Ds} {m : Mm} {Q : Ds → Mm → List MV → Prop} : WP 171 75 [q0, q1, q2, q3, q4, q5] [(2, s0)] ds m Q = ((dk ds s0 = 7 ∧ WP 171 78 [q0, q1, q2, q3, q4, q5] [(2, m s0 39)] ds m Q)) := P_gd k171_75 rfl
set_option maxRecDepth 20000 in
theorem k171_78 : mjCode 171 78 = some (.iload_n 1, 1, 0, 0) := by decide +kernel
theorem p171_78 {l1 s0 : Int} {q0 q2 q3 q4 q5 : MV} {ds : Ds} {m : Mm} {Q : Ds → Mm → List MV → Prop} : WP 171 78 [q0, (0, l1), q2, q3, q4, q5] [(2, s0)] ds m Q = (WP 171 79 [q0, (0, l1), q2, q3, q4, q5] [(0, l1), (2, s0)] ds m Q) := P_nx k171_78 rfl
set_option maxRecDepth 20000 in
theorem k171_79 : mjCode 171 79 = some (.iaload, 1, 0, 0) := by decide +kernel
theorem p171_79 {s0 s1 : Int} {q0 q1 q2 q3 q4 q5 : MV} {ds : Ds} {m : Mm} {Q : Ds → Mm → List MV → Prop} : WP 171 79 [q0, q1, q2, q3, q4, q5] [(0, s0), (2, s1)] ds m Q = ((dk ds s1 = 10 ∧ 0 ≤ s0 ∧ s0 < dl ds s1 ∧ WP 171 80 [q0, q1, q2, q3, q4, q5] [(0, m s1 s0)] ds m Q)) := P_g3 k171_79 rfl
set_option maxRecDepth 20000 in
theorem k171_80 : mjCode 171 80 = some (.istore 4, 2, 0, 0) := by decide +kernel
theorem p171_80 {l3 s0 : Int} {q0 q1 q2 q4 q5 : MV} {ds : Ds} {m : Mm} {Q : Ds → Mm → List MV → Prop} : WP 171 80 [q0, q1, q2, (0, l3), q4, q5] [(0, s0)] ds m Q = (WP 171 82 [q0, q1, q2, (0, l3), (0, s0), q5] [] ds m Q) := P_nx k171_80 rfl
set_option maxRecDepth 20000 in
theorem k171_82 : mjCode 171 82 = some (.iload_n 3, 1, 0, 0) := by decide +kernel
theorem p171_82 {l3 : Int} {q0 q1 q2 q4 q5 : MV} {ds : Ds} {m : Mm} {Q : Ds → Mm → List MV → Prop} : WP 171 82 [q0, q1, q2, (0, l3), q4, q5] [] ds m Q = (WP 171 83 [q0, q1, q2, (0, l3), q4, q5] [(0, l3)] ds m Q) := P_nx k171_82 rfl
set_option maxRecDepth 20000 in
theorem k171_83 : mjCode 171 83 = some (.iconst 1, 1, 0, 0) := by decide +kernel
theorem p171_83 {s0 : Int} {q0 q1 q2 q3 q4 q5 : MV} {ds : Ds} {m : Mm} {Q : Ds → Mm → List MV → Prop} : WP 171 83 [q0, q1, q2, q3, q4, q5] [(0, s0)] ds m Q = (WP 171 84 [q0, q1, q2, q3, q4, q5] [(0, 1), (0, s0)] ds m Q) := P_nx k171_83 rfl
set_option maxRecDepth 20000 in
theorem k171_84 : mjCode 171 84 = some (.isub, 1, 0, 0) := by decide +kernel
theorem p171_84 {s0 s1 : Int} {q0 q1 q2 q3 q4 q5 : MV} {ds : Ds} {m : Mm} {Q : Ds → Mm → List MV → Prop} : WP 171 84 [q0, q1, q2, q3, q4, q5] [(0, s0), (0, s1)] ds m Q = (WP 171 85 [q0, q1, q2, q3, q4, q5] [(0, w32 (s1 - s0))] ds m Q) := P_nx k171_84 rfl
set_option maxRecDepth 20000 in
theorem k171_85 : mjCode 171 85 = some (.istore 5, 2, 0, 0) := by decide +kernel
theorem p171_85 {l4 s0 : Int} {q0 q1 q2 q3 q5 : MV} {ds : Ds} {m : Mm} {Q : Ds → Mm → List MV → Prop} : WP 171 85 [q0, q1, q2, q3, (0, l4), q5] [(0, s0)] ds m Q = (WP 171 87 [q0, q1, q2, q3, (0, l4), (0, s0)] [] ds m Q) := P_nx k171_85 rfl
set_option maxRecDepth 20000 in
theorem k171_87 : mjCode 171 87 = some (.iload 5, 2, 0, 0) := by decide +kernel
theorem p171_87 {l5 : Int} {q0 q1 q2 q3 q4 : MV} {ds : Ds} {m : Mm} {Q : Ds → Mm → List MV → Prop} : WP 171 87 [q0, q1, q2, q3, q4, (0, l5)] [] ds m Q = (WP 171 89 [q0, q1, q2, q3, q4, (0, l5)] [(0, l5)] ds m Q) := P_nx k171_87 rfl
set_option maxRecDepth 20000 in
theorem k171_89 : mjCode 171 89 = some (.iload_n 2, 1, 0, 0) := by decide +kernel
theorem p171_89 {l2 s0 : Int} {q0 q1 q3 q4 q5 : MV} {ds : Ds} {m : Mm} {Q : Ds → Mm → List MV → Prop} : WP 171 89 [q0, q1, (0, l2), q3, q4, q5] [(0, s0)] ds m Q = (WP 171 90 [q0, q1, (0, l2), q3, q4, q5] [(0, l2), (0, s0)] ds m Q) := P_nx k171_89 rfl
set_option maxRecDepth 20000 in
theorem k171_90 : mjCode 171 90 = some (.if_icmp .le 23, 3, 113, 0) := by decide +kernel
theorem p171_90 {s0 s1 : Int} {q0 q1 q2 q3 q4 q5 : MV} {ds : Ds} {m : Mm} {Q : Ds → Mm → List MV → Prop} : WP 171 90 [q0, q1, q2, q3, q4, q5] [(0, s0), (0, s1)] ds m Q = (if s0 < s1 then WP 171 93 [q0, q1, q2, q3, q4, q5] [] ds m Q else WP 171 113 [q0, q1, q2, q3, q4, q5] [] ds m Q) := P_if k171_90 rfl
set_option maxRecDepth 20000 in
theorem k171_93 : mjCode 171 93 = some (.aload_n 0, 1, 0, 0) := by decide +kernel
theorem p171_93 {l0 : Int} {q1 q2 q3 q4 q5 : MV} {ds : Ds} {m : Mm} {Q : Ds → Mm → List MV → Prop} : WP 171 93 [(2, l0), q1, q2, q3, q4, q5] [] ds m Q = (WP 171 94 [(2, l0), q1, q2, q3, q4, q5] [(2, l0)] ds m Q) := P_nx k171_93 rfl
set_option maxRecDepth 20000 in
theorem k171_94 : mjCode 171 94 = some (.getfield 105, 3, 7, 37) := by decide +kernel
theorem p171_94 {s0 : Int} {q0 q1 q2 q3 q4 q5 : MV} {ds : Ds} {m : Mm} {Q : Ds → Mm → List MV → Prop} : WP 171 94 [q0, q1, q2, q3, q4, q5] [(2, s0)] ds m Q = ((dk ds s0 = 7 ∧ WP 171 97 [q0, q1, q2, q3, q4, q5] [(2, m s0 37)] ds m Q)) := P_gd k171_94 rfl
set_option maxRecDepth 20000 in
theorem k171_97 : mjCode 171 97 = some (.bipush 6, 2, 0, 0) := by decide +kernel
theorem p171_97 {s0 : Int} {q0 q1 q2 q3 q4 q5 : MV} {ds : Ds} {m : Mm} {Q : Ds → Mm → List MV → Prop} : WP 171 97 [q0, q1, q2, q3, q4, q5] [(2, s0)] ds m Q = (WP 171 99 [q0, q1, q2, q3, q4, q5] [(0, 6), (2, s0)] ds m Q) := P_nx k171_97 rfl
set_option maxRecDepth 20000 in
theorem k171_99 : mjCode 171 99 = some (.iload 4, 2, 0, 0) := by decide +kernel
theorem p171_99 {l4 s0 s1 : Int} {q0 q1 q2 q3 q5 : MV} {ds : Ds} {m : Mm} {Q : Ds → Mm → List MV → Prop} : WP 171 99 [q0, q1, q2, q3, (0, l4), q5] [(0, s0), (2, s1)] ds m Q = (WP 171 101 [q0, q1, q2, q3, (0, l4), q5] [(0, l4), (0, s0), (2, s1)] ds m Q) := P_nx k171_99 rfl
set_option maxRecDepth 20000 in
theorem k171_101 : mjCode 171 101 = some (.imul, 1, 0, 0) := by decide +kernel
theorem p171_101 {s0 s1 s2 : Int} {q0 q1 q2 q3 q4 q5 : MV} {ds : Ds} {m : Mm} {Q : Ds → Mm → List MV → Prop} : WP 171 101 [q0, q1, q2, q3, q4, q5] [(0, s0), (0, s1), (2, s2)] ds m Q = (WP 171 102 [q0, q1, q2, q3, q4, q5] [(0, w32 (s1 * s0)), (2, s2)] ds m Q) := P_nx k171_101 rfl
set_option maxRecDepth 20000 in
theorem k171_102 : mjCode 171 102 = some (.iconst 3, 1, 0, 0) := by decide +kernel
theorem p171_102 {s0 s1 : Int} {q0 q1 q2 q3 q4 q5 : MV} {ds : Ds} {m : Mm} {Q : Ds → Mm → List MV → Prop} : WP 171 102 [q0, q1, q2, q3, q4, q5] [(0, s0), (2, s1)] ds m Q = (WP 171 103 [q0, q1, q2, q3, q4, q5] [(0, 3), (0, s0), (2, s1)] ds m Q) := P_nx k171_102 rfl
set_option maxRecDepth 20000 in
theorem k171_103 : mjCode 171 103 = some (.iadd, 1, 0, 0) := by decide +kernel
theorem p171_103 {s0 s1 s2 : Int} {q0 q1 q2 q3 q4 q5 : MV} {ds : Ds} {m : Mm} {Q : Ds → Mm → List MV → Prop} : WP 171 103 [q0, q1, q2, q3, q4, q5] [(0, s0), (0, s1), (2, s2)] ds m Q = (WP 171 104 [q0, q1, q2, q3, q4, q5] [(0, w32 (s1 + s0)), (2, s2)] ds m Q) := P_nx k171_103 rfl
set_option maxRecDepth 20000 in
theorem k171_104 : mjCode 171 104 = some (.iaload, 1, 0, 0) := by decide +kernel
theorem p171_104 {s0 s1 : Int} {q0 q1 q2 q3 q4 q5 : MV} {ds : Ds} {m : Mm} {Q : Ds → Mm → List MV → Prop} : WP 171 104 [q0, q1, q2, q3, q4, q5] [(0, s0), (2, s1)] ds m Q = ((dk ds s1 = 10 ∧ 0 ≤ s0 ∧ s0 < dl ds s1 ∧ WP 171 105 [q0, q1, q2, q3, q4, q5] [(0, m s1 s0)] ds m Q)) := P_g3 k171_104 rfl
set_option maxRecDepth 20000 in
theorem k171_105 : mjCode 171 105 = some (.istore 4, 2, 0, 0) := by decide +kernel
theorem p171_105 {l3 s0 : Int} {q0 q1 q2 q4 q5 : MV} {ds : Ds} {m : Mm} {Q : Ds → Mm → List MV → Prop} : WP 171 105 [q0, q1, q2, (0, l3), q4, q5] [(0, s0)] ds m Q = (WP 171 107 [q0, q1, q2, (0, l3), (0, s0), q5] [] ds m Q) := P_nx k171_105 rfl
set_option maxRecDepth 20000 in
theorem k171_107 : mjCode 171 107 = some (.iinc 5 (-1), 3, 0, 0) := by decide +kernel
theorem p171_107 {l5 : Int} {q0 q1 q2 q3 q4 : MV} {ds : Ds} {m : Mm} {Q : Ds → Mm → List MV → Prop} : WP 171 107 [q0, q1, q2, q3, q4, (0, l5)] [] ds m Q = (WP 171 110 [q0, q1, q2, q3, q4, (0, w32 (l5 + (-1)))] [] ds m Q) := P_nx k171_107 rfl
set_option maxRecDepth 20000 in
theorem k171_110 : mjCode 171 110 = some (.goto (-23), 3, 87, 0) := by decide +kernel
theorem p171_110 {q0 q1 q2 q3 q4 q5 : MV} {ds : Ds} {m : Mm} {Q : Ds → Mm → List MV → Prop} : WP 171 110 [q0, q1, q2, q3, q4, q5] [] ds m Q = (WP 171 87 [q0, q1, q2, q3, q4, q5] [] ds m Q) := P_nx k171_110 rfl
set_option maxRecDepth 20000 in
theorem k171_113 : mjCode 171 113 = some (.iload 4, 2, 0, 0) := by decide +kernel
theorem p171_113 {l4 : Int} {q0 q1 q2 q3 q5 : MV} {ds : Ds} {m : Mm} {Q : Ds → Mm → List MV → Prop} : WP 171 113 [q0, q1, q2, q3, (0, l4), q5] [] ds m Q = (WP 171 115 [q0, q1, q2, q3, (0, l4), q5] [(0, l4)] ds m Q) := P_nx k171_113 rfl
set_option maxRecDepth 20000 in
theorem k171_115 : mjCode 171 115 = some (.ireturn, 1, 0, 0) := by decide +kernel
theorem p171_115 {s0 : Int} {q0 q1 q2 q3 q4 q5 : MV} {ds : Ds} {m : Mm} {Q : Ds → Mm → List MV → Prop} : WP 171 115 [q0, q1, q2, q3, q4, q5] [(0, s0)] ds m Q = (Q ds m [(0, s0)]) := P_ri k171_115 rk171
set_option maxRecDepth 20000 in
theorem k172_0 : mjCode 172 0 = some (.aload_n 0, 1, 0, 0) := by decide +kernel
theorem p172_0 {l0 : Int} {q1 q2 q3 q4 : MV} {ds : Ds} {m : Mm} {Q : Ds → Mm → List MV → Prop} : WP 172 0 [(2, l0), q1, q2, q3, q4] [] ds m Q = (WP 172 1 [(2, l0), q1, q2, q3, q4] [(2, l0)] ds m Q) := P_nx k172_0 rfl
set_option maxRecDepth 20000 in
theorem k172_1 : mjCode 172 1 = some (.iload_n 1, 1, 0, 0) := by decide +kernel
theorem p172_1 {l1 s0 : Int} {q0 q2 q3 q4 : MV} {ds : Ds} {m : Mm} {Q : Ds → Mm → List MV → Prop} : WP 172 1 [q0, (0, l1), q2, q3, q4] [(2, s0)] ds m Q = (WP 172 2 [q0, (0, l1), q2, q3, q4] [(0, l1), (2, s0)] ds m Q) := P_nx k172_1 rfl
set_option maxRecDepth 20000 in
theorem k172_2 : mjCode 172 2 = some (.invokevirtual 261, 3, 167, 2) := by decide +kernel
theorem p172_2 {s0 s1 : Int} {q0 q1 q2 q3 q4 : MV} {ds : Ds} {m : Mm} {Q : Ds → Mm → List MV → Prop} : WP 172 2 [q0, q1, q2, q3, q4] [(0, s0), (2, s1)] ds m Q = ((dk ds s1 = 7 ∧ WP 166 0 [(2, s1), (0, s0), (3, 0), (3, 0), (3, 0)] [] ds m (fun d2 m2 r2 => WP 172 5 [q0, q1, q2, q3, q4] (r2 ++ []) d2 m2 Q))) := P_cv k172_2 mx166 mo166 rfl rfl rfl rfl rfl rfl rfl rfl
set_option maxRecDepth 20000 in
theorem k172_5 : mjCode 172 5 = some (.aload_n 0, 1, 0, 0) := by decide +kernel
theorem p172_5 {l0 : Int} {q1 q2 q3 q4 : MV} {ds : Ds} {m : Mm} {Q : Ds → Mm → List MV → Prop} : WP 172 5 [(2, l0), q1, q2, q3, q4] [] ds m Q = (WP 172 6 [(2, l0), q1, q2, q3, q4] [(2, l0)] ds m Q) := P_nx k172_5 rfl
set_option maxRecDepth 20000 in
theorem k172_6 : mjCode 172 6 = some (.getfield 108, 3, 7, 38) := by decide +kernel
theorem p172_6 {s0 : Int} {q0 q1 q2 q3 q4 : MV} {ds : Ds} {m : Mm} {Q : Ds → Mm → List MV → Prop} : WP 172 6 [q0, q1, q2, q3, q4] [(2, s0)] ds m Q = ((dk ds s0 = 7 ∧ WP 172 9 [q0, q1, q2, q3, q4] [(2, m s0 38)] ds m Q)) := P_gd k172_6 rfl
set_option maxRecDepth 20000 in
theorem k172_9 : mjCode 172 9 = some (.bipush 96, 2, 0, 0) := by decide +kernel
theorem p172_9 {s0 : Int} {q0 q1 q2 q3 q4 : MV} {ds : Ds} {m : Mm} {Q : Ds → Mm → List MV → Prop} : WP 172 9 [q0, q1, q2, q3, q4] [(2, s0)] ds m Q = (WP 172 11 [q0, q1, q2, q3, q4] [(0, 96), (2, s0)] ds m Q) := P_nx k172_9 rfl
set_option maxRecDepth 20000 in
theorem k172_11 : mjCode 172 11 = some (.iload_n 1, 1, 0, 0) := by decide +kernel
theorem p172_11 {l1 s0 s1 : Int} {q0 q2 q3 q4 : MV} {ds : Ds} {m : Mm} {Q : Ds → Mm → List MV → Prop} : WP 172 11 [q0, (0, l1), q2, q3, q4] [(0, s0), (2, s1)] ds m Q = (WP 172 12 [q0, (0, l1), q2, q3, q4] [(0, l1), (0, s0), (2, s1)] ds m Q) := P_nx k172_11 rfl
set_option maxRecDepth 20000 in
theorem k172_12 : mjCode 172 12 = some (.imul, 1, 0, 0) := by decide +kernel
theorem p172_12 {s0 s1 s2 : Int} {q0 q1 q2 q3 q4 : MV} {ds : Ds} {m : Mm} {Q : Ds → Mm → List MV → Prop} : WP 172 12 [q0, q1, q2, q3, q4] [(0, s0), (0, s1), (2, s2)] ds m Q = (WP 172 13 [q0, q1, q2, q3, q4] [(0, w32 (s1 * s0)), (2, s2)] ds m Q) := P_nx k172_12 rfl
set_option maxRecDepth 20000 in
theorem k172_13 : mjCode 172 13 = some (.iload_n 2, 1, 0, 0) := by decide +kernel
theorem p172_13 {l2 s0 s1 : Int} {q0 q1 q3 q4 : MV} {ds : Ds} {m : Mm} {Q : Ds → Mm → List MV → Prop} : WP 172 13 [q0, q1, (0, l2), q3, q4] [(0, s0), (2, s1)] ds m Q = (WP 172 14 [q0, q1, (0, l2), q3, q4] [(0, l2), (0, s0), (2, s1)] ds m Q) := P_nx k172_13 rfl
set_option maxRecDepth 20000 in
theorem k172_14 : mjCode 172 14 = some (.iadd, 1, 0, 0) := by decide +kernel
theorem p172_14 {s0 s1 s2 : Int} {q0 q1 q2 q3 q4 : MV} {ds : Ds} {m : Mm} {Q : Ds → Mm → List MV → Prop} : WP 172 14 [q0, q1, q2, q3, q4] [(0, s0), (0, s1), (2, s2)] ds m Q = (WP 172 15 [q0, q1, q2, q3, q4] [(0, w32 (s1 + s0)), (2, s2)] ds m Q) := P_nx k172_14 rfl
set_option maxRecDepth 20000 in
theorem k172_15 : mjCode 172 15 = some (.iaload, 1, 0, 0) := by decide +kernel
theorem p172_15 {s0 s1 : Int} {q0 q1 q2 q3 q4 : MV} {ds : Ds} {m : Mm} {Q : Ds → Mm → List MV → Prop} : WP 172 15 [q0, q1, q2, q3, q4] [(0, s0), (2, s1)] ds m Q = ((dk ds s1 = 10 ∧ 0 ≤ s0 ∧ s0 < dl ds s1 ∧ WP 172 16 [q0, q1, q2, q3, q4] [(0, m s1 s0)] ds m Q)) := P_g3 k172_15 rfl
set_option maxRecDepth 20000 in
theorem k172_16 : mjCode 172 16 = some (.istore 4, 2, 0, 0) := by decide +kernel
theorem p172_16 {l3 s0 : Int} {q0 q1 q2 q4 : MV} {ds : Ds} {m : Mm} {Q : Ds → Mm → List MV → Prop} : WP 172 16 [q0, q1, q2, (0, l3), q4] [(0, s0)] ds m Q = (WP 172 18 [q0, q1, q2, (0, l3), (0, s0)] [] ds m Q) := P_nx k172_16 rfl
set_option maxRecDepth 20000 in
theorem k172_18 : mjCode 172 18 = some (.iload 4, 2, 0, 0) := by decide +kernel
theorem p172_18 {l4 : Int} {q0 q1 q2 q3 : MV} {ds : Ds} {m : Mm} {Q : Ds → Mm → List MV → Prop} : WP 172 18 [q0, q1, q2, q3, (0, l4)] [] ds m Q = (WP 172 20 [q0, q1, q2, q3, (0, l4)] [(0, l4)] ds m Q) := P_nx k172_18 rfl
set_option maxRecDepth 20000 in
theorem k172_20 : mjCode 172 20 = some (.iconst (-1), 1, 0, 0) := by decide +kernel
theorem p172_20 {s0 : Int} {q0 q1 q2 q3 q4 : MV} {ds : Ds} {m : Mm} {Q : Ds → Mm → List MV → Prop} : WP 172 20 [q0, q1, q2, q3, q4] [(0, s0)] ds m Q = (WP 172 21 [q0, q1, q2, q3, q4] [(0, (-1)), (0, s0)] ds m Q) := P_nx k172_20 rfl
set_option maxRecDepth 20000 in
theorem k172_21 : mjCode 172 21 = some (.if_icmp .eq 18, 3, 39, 0) := by decide +kernel
theorem p172_21 {s0 s1 : Int} {q0 q1 q2 q3 q4 : MV} {ds : Ds} {m : Mm} {Q : Ds → Mm → List MV → Prop} : WP 172 21 [q0, q1, q2, q3, q4] [(0, s0), (0, s1)] ds m Q = (if s1 = s0 then WP 172 39 [q0, q1, q2, q3, q4] [] ds m Q else WP 172 24 [q0, q1, q2, q3, q4] [] ds m Q) := P_if k172_21 rfl
set_option maxRecDepth 20000 in
theorem k172_24 : mjCode 172 24 = some (.iload_n 3, 1, 0, 0) := by decide +kernel
theorem p172_24 {l3 : Int} {q0 q1 q2 q4 : MV} {ds : Ds} {m : Mm} {Q : Ds → Mm → List MV → Prop} : WP 172 24 [q0, q1, q2, (0, l3), q4] [] ds m Q = (WP 172 25 [q0, q1, q2, (0, l3), q4] [(0, l3)] ds m Q) := P_nx k172_24 rfl
set_option maxRecDepth 20000 in
theorem k172_25 : mjCode 172 25 = some (.iconst (-1), 1, 0, 0) := by decide +kernel
theorem p172_25 {s0 : Int} {q0 q1 q2 q3 q4 : MV} {ds : Ds} {m : Mm} {Q : Ds → Mm → List MV → Prop} : WP 172 25 [q0, q1, q2, q3, q4] [(0, s0)] ds m Q = (WP 172 26 [q0, q1, q2, q3, q4] [(0, (-1)), (0, s0)] ds m Q) := P_nx k172_25 rfl
set_option maxRecDepth 20000 in
theorem k172_26 : mjCode 172 26 = some (.if_icmp .eq 9, 3, 35, 0) := by decide +kernel
theorem p172_26 {s0 s1 : Int} {q0 q1 q2 q3 q4 : MV} {ds : Ds} {m : Mm} {Q : Ds → Mm → List MV → Prop} : WP 172 26 [q0, q1, q2, q3, q4] [(0, s0), (0, s1)] ds m Q = (if s1 = s0 then WP 172 35 [q0, q1, q2, q3, q4] [] ds m Q else WP 172 29 [q0, q1, q2, q3, q4] [] ds m Q) := P_if k172_26 rfl
set_option maxRecDepth 20000 in
theorem k172_29 : mjCode 172 29 = some (.iload 4, 2, 0, 0) := by decide +kernel
theorem p172_29 {l4 : Int} {q0 q1 q2 q3 : MV} {ds : Ds} {m : Mm} {Q : Ds → Mm → List MV → Prop} : WP 172 29 [q0, q1, q2, q3, (0, l4)] [] ds m Q = (WP 172 31 [q0, q1, q2, q3, (0, l4)] [(0, l4)] ds m Q) := P_nx k172_29 rfl
set_option maxRecDepth 20000 in
theorem k172_31 : mjCode 172 31 = some (.iload_n 3, 1, 0, 0) := by decide +kernel
theorem p172_31 {l3 s0 : Int} {q0 q1 q2 q4 : MV} {ds : Ds} {m : Mm} {Q : Ds → Mm → List MV → Prop} : WP 172 31 [q0, q1, q2, (0, l3), q4] [(0, s0)] ds m Q = (WP 172 32 [q0, q1, q2, (0, l3), q4] [(0, l3), (0, s0)] ds m Q) := P_nx k172_31 rfl
set_option maxRecDepth 20000 in
theorem k172_32 : mjCode 172 32 = some (.if_icmp .ne 7, 3, 39, 0) := by decide +kernel
theorem p172_32 {s0 s1 : Int} {q0 q1 q2 q3 q4 : MV} {ds : Ds} {m : Mm} {Q : Ds → Mm → List MV → Prop} : WP 172 32 [q0, q1, q2, q3, q4] [(0, s0), (0, s1)] ds m Q = (if s1 = s0 then WP 172 35 [q0, q1, q2, q3, q4] [] ds m Q else WP 172 39 [q0, q1, q2, q3, q4] [] ds m Q) := P_if k172_32 rfl
set_option maxRecDepth 20000 in
theorem k172_35 : mjCode 172 35 = some (.iconst 1, 1, 0, 0) := by decide +kernel
theorem p172_35 {q0 q1 q2 q3 q4 : MV} {ds : Ds} {m : Mm} {Q : Ds → Mm → List MV → Prop} : WP 172 35 [q0, q1, q2, q3, q4] [] ds m Q = (WP 172 36 [q0, q1, q2, q3, q4] [(0, 1)] ds m Q) := P_nx k172_35 rfl
set_option maxRecDepth 20000 in
theorem k172_36 : mjCode 172 36 = some (.goto 4, 3, 40, 0) := by decide +kernel
theorem p172_36 {s0 : Int} {q0 q1 q2 q3 q4 : MV} {ds : Ds} {m : Mm} {Q : Ds → Mm → List MV → Prop} : WP 172 36 [q0, q1, q2, q3, q4] [(0, s0)] ds m Q = (WP 172 40 [q0, q1, q2, q3, q4] [(0, s0)] ds m Q) := P_nx k172_36 rfl
set_option maxRecDepth 20000 in
theorem k172_39 : mjCode 172 39 = some (.iconst 0, 1, 0, 0) := by decide +kernel
theorem p172_39 {q0 q1 q2 q3 q4 : MV} {ds : Ds} {m : Mm} {Q : Ds → Mm → List MV → Prop} : WP 172 39 [q0, q1, q2, q3, q4] [] ds m Q = (WP 172 40 [q0, q1, q2, q3, q4] [(0, 0)] ds m Q) := P_nx k172_39 rfl
set_option maxRecDepth 20000 in
theorem k172_40 : mjCode 172 40 = some (.ireturn, 1, 0, 0) := by decide +kernel
theorem p172_40 {s0 : Int} {q0 q1 q2 q3 q4 : MV} {ds : Ds} {m : Mm} {Q : Ds → Mm → List MV → Prop} : WP 172 40 [q0, q1, q2, q3, q4] [(0, s0)] ds m Q = (((s0 = 0 ∨ s0 = 1) ∧ Q ds m [(0, s0)])) := P_rb k172_40 rk172
set_option maxRecDepth 20000 in
theorem k173_0 : mjCode 173 0 = some (.iload_n 1, 1, 0, 0) := by decide +kernel
theorem p173_0 {l1 : Int} {q0 : MV} {ds : Ds} {m : Mm} {Q : Ds → Mm → List MV → Prop} : WP 173 0 [q0, (0, l1)] [] ds m Q = (WP 173 1 [q0, (0, l1)] [(0, l1)] ds m Q) := P_nx k173_0 rfl
set_option maxRecDepth 20000 in
theorem k173_1 : mjCode 173 1 = some (.invokestatic 152, 3, 123, 1) := by decide +kernel
theorem p173_1 {s0 : Int} {q0 q1 : MV} {ds : Ds} {m : Mm} {Q : Ds → Mm → List MV → Prop} : WP 173 1 [q0, q1] [(0, s0)] ds m Q = (WP 122 0 [(0, s0)] [] ds m (fun d2 m2 r2 => WP 173 4 [q0, q1] (r2 ++ []) d2 m2 Q)) := P_cs k173_1 mx122 rfl rfl rfl rfl rfl rfl rfl
set_option maxRecDepth 20000 in
theorem k173_4 : mjCode 173 4 = some (.ifCond .eq 18, 3, 22, 0) := by decide +kernel
theorem p173_4 {s0 : Int} {q0 q1 : MV} {ds : Ds} {m : Mm} {Q : Ds → Mm → List MV → Prop} : WP 173 4 [q0, q1] [(0, s0)] ds m Q = (if s0 = 0 then WP 173 22 [q0, q1] [] ds m Q else WP 173 7 [q0, q1] [] ds m Q) := P_if k173_4 rfl
set_option maxRecDepth 20000 in
theorem k173_7 : mjCode 173 7 = some (.aload_n 0, 1, 0, 0) := by decide +kernel
theorem p173_7 {l0 : Int} {q1 : MV} {ds : Ds} {m : Mm} {Q : Ds → Mm → List MV → Prop} : WP 173 7 [(2, l0), q1] [] ds m Q = (WP 173 8 [(2, l0), q1] [(2, l0)] ds m Q) := P_nx k173_7 rfl
set_option maxRecDepth 20000 in
theorem k173_8 : mjCode 173 8 = some (.getfield 13, 3, 7, 1) := by decide +kernel
theorem p173_8 {s0 : Int} {q0 q1 : MV} {ds : Ds} {m : Mm} {Q : Ds → Mm → List MV → Prop} : WP 173 8 [q0, q1] [(2, s0)] ds m Q = ((dk ds s0 = 7 ∧ WP 173 11 [q0, q1] [(2, m s0 1)] ds m Q)) := P_gd k173_8 rfl
set_option maxRecDepth 20000 in
theorem k173_11 : mjCode 173 11 = some (.iload_n 1, 1, 0, 0) := by decide +kernel
theorem p173_11 {l1 s0 : Int} {q0 : MV} {ds : Ds} {m : Mm} {Q : Ds → Mm → List MV → Prop} : WP 173 11 [q0, (0, l1)] [(2, s0)] ds m Q = (WP 173 12 [q0, (0, l1)] [(0, l1), (2, s0)] ds m Q) := P_nx k173_11 rfl
set_option maxRecDepth 20000 in
theorem k173_12 : mjCode 173 12 = some (.iaload, 1, 0, 0) := by decide +kernel
theorem p173_12 {s0 s1 : Int} {q0 q1 : MV} {ds : Ds} {m : Mm} {Q : Ds → Mm → List MV → Prop} : WP 173 12 [q0, q1] [(0, s0), (2, s1)] ds m Q = ((dk ds s1 = 10 ∧ 0 ≤ s0 ∧ s0 < dl ds s1 ∧ WP 173 13 [q0, q1] [(0, m s1 s0)] ds m Q)) := P_g3 k173_12 rfl
set_option maxRecDepth 20000 in
theorem k173_13 : mjCode 173 13 = some (.bipush 8, 2, 0, 0) := by decide +kernel
theorem p173_13 {s0 : Int} {q0 q1 : MV} {ds : Ds} {m : Mm} {Q : Ds → Mm → List MV → Prop} : WP 173 13 [q0, q1] [(0, s0)] ds m Q = (WP 173 15 [q0, q1] [(0, 8), (0, s0)] ds m Q) := P_nx k173_13 rfl
set_option maxRecDepth 20000 in
theorem k173_15 : mjCode 173 15 = some (.if_icmp .ne 7, 3, 22, 0) := by decide +kernel
theorem p173_15 {s0 s1 : Int} {q0 q1 : MV} {ds : Ds} {m : Mm} {Q : Ds → Mm → List MV → Prop} : WP 173 15 [q0, q1] [(0, s0), (0, s1)] ds m Q = (if s1 = s0 then WP 173 18 [q0, q1] [] ds m Q else WP 173 22 [q0, q1] [] ds m Q) := P_if k173_15 rfl
set_option maxRecDepth 20000 in
theorem k173_18 : mjCode 173 18 = some (.iconst 1, 1, 0, 0) := by decide +kernel
theorem p173_18 {q0 q1 : MV} {ds : Ds} {m : Mm} {Q : Ds → Mm → List MV → Prop} : WP 173 18 [q0, q1] [] ds m Q = (WP 173 19 [q0, q1] [(0, 1)] ds m Q) := P_nx k173_18 rfl
set_option maxRecDepth 20000 in
theorem k173_19 : mjCode 173 19 = some (.goto 4, 3, 23, 0) := by decide +kernel
theorem p173_19 {s0 : Int} {q0 q1 : MV} {ds : Ds} {m : Mm} {Q : Ds → Mm → List MV → Prop} : WP 173 19 [q0, q1] [(0, s0)] ds m Q = (WP 173 23 [q0, q1] [(0, s0)] ds m Q) := P_nx k173_19 rfl
set_option maxRecDepth 20000 in
theorem k173_22 : mjCode 173 22 = some (.iconst 0, 1, 0, 0) := by decide +kernel
theorem p173_22 {q0 q1 : MV} {ds : Ds} {m : Mm} {Q : Ds → Mm → List MV → Prop} : WP 173 22 [q0, q1] [] ds m Q = (WP 173 23 [q0, q1] [(0, 0)] ds m Q) := P_nx k173_22 rfl
set_option maxRecDepth 20000 in
theorem k173_23 : mjCode 173 23 = some (.ireturn, 1, 0, 0) := by decide +kernel
theorem p173_23 {s0 : Int} {q0 q1 : MV} {ds : Ds} {m : Mm} {Q : Ds → Mm → List MV → Prop} : WP 173 23 [q0, q1] [(0, s0)] ds m Q = (((s0 = 0 ∨ s0 = 1) ∧ Q ds m [(0, s0)])) := P_rb k173_23 rk173
set_option maxRecDepth 20000 in
theorem k174_0 : mjCode 174 0 = some (.aload_n 0, 1, 0, 0) := by decide +kernel
theorem p174_0 {l0 : Int} {q1 q2 : MV} {ds : Ds} {m : Mm} {Q : Ds → Mm → List MV → Prop} : WP 174 0 [(2, l0), q1, q2] [] ds m Q = (WP 174 1 [(2, l0), q1, q2] [(2, l0)] ds m Q) := P_nx k174_0 rfl
set_option maxRecDepth 20000 in
theorem k174_1 : mjCode 174 1 = some (.iload_n 1, 1, 0, 0) := by decide +kernel
theorem p174_1 {l1 s0 : Int} {q0 q2 : MV} {ds : Ds} {m : Mm} {Q : Ds → Mm → List MV → Prop} : WP 174 1 [q0, (0, l1), q2] [(2, s0)] ds m Q = (WP 174 2 [q0, (0, l1), q2] [(0, l1), (2, s0)] ds m Q) := P_nx k174_1 rfl
set_option maxRecDepth 20000 in
theorem k174_2 : mjCode 174 2 = some (.invokevirtual 266, 3, 174, 2) := by decide +kernel
theorem p174_2 {s0 s1 : Int} {q0 q1 q2 : MV} {ds : Ds} {m : Mm} {Q : Ds → Mm → List MV → Prop} : WP 174 2 [q0, q1, q2] [(0, s0), (2, s1)] ds m Q = ((dk ds s1 = 7 ∧ WP 173 0 [(2, s1), (0, s0)] [] ds m (fun d2 m2 r2 => WP 174 5 [q0, q1, q2] (r2 ++ []) d2 m2 Q))) := P_cv k174_2 mx173 mo173 rfl rfl rfl rfl rfl rfl rfl rfl
set_option maxRecDepth 20000 in
theorem k174_5 : mjCode 174 5 = some (.ifCond .eq 17, 3, 22, 0) := by decide +kernel
theorem p174_5 {s0 : Int} {q0 q1 q2 : MV} {ds : Ds} {m : Mm} {Q : Ds → Mm → List MV → Prop} : WP 174 5 [q0, q1, q2] [(0, s0)] ds m Q = (if s0 = 0 then WP 174 22 [q0, q1, q2] [] ds m Q else WP 174 8 [q0, q1, q2] [] ds m Q) := P_if k174_5 rfl
set_option maxRecDepth 20000 in
theorem k174_8 : mjCode 174 8 = some (.aload_n 0, 1, 0, 0) := by decide +kernel
theorem p174_8 {l0 : Int} {q1 q2 : MV} {ds : Ds} {m : Mm} {Q : Ds → Mm → List MV → Prop} : WP 174 8 [(2, l0), q1, q2] [] ds m Q = (WP 174 9 [(2, l0), q1, q2] [(2, l0)] ds m Q) := P_nx k174_8 rfl
set_option maxRecDepth 20000 in
theorem k174_9 : mjCode 174 9 = some (.iconst 1, 1, 0, 0) := by decide +kernel
theorem p174_9 {s0 : Int} {q0 q1 q2 : MV} {ds : Ds} {m : Mm} {Q : Ds → Mm → List MV → Prop} : WP 174 9 [q0, q1, q2] [(2, s0)] ds m Q = (WP 174 10 [q0, q1, q2] [(0, 1), (2, s0)] ds m Q) := P_nx k174_9 rfl
set_option maxRecDepth 20000 in
theorem k174_10 : mjCode 174 10 = some (.iload_n 1, 1, 0, 0) := by decide +kernel
theorem p174_10 {l1 s0 s1 : Int} {q0 q2 : MV} {ds : Ds} {m : Mm} {Q : Ds → Mm → List MV → Prop} : WP 174 10 [q0, (0, l1), q2] [(0, s0), (2, s1)] ds m Q = (WP 174 11 [q0, (0, l1), q2] [(0, l1), (0, s0), (2, s1)] ds m Q) := P_nx k174_10 rfl
set_option maxRecDepth 20000 in
theorem k174_11 : mjCode 174 11 = some (.iload_n 2, 1, 0, 0) := by decide +kernel
theorem p174_11 {l2 s0 s1 s2 : Int} {q0 q1 : MV} {ds : Ds} {m : Mm} {Q : Ds → Mm → List MV → Prop} : WP 174 11 [q0, q1, (0, l2)] [(0, s0), (0, s1), (2, s2)] ds m Q = (WP 174 12 [q0, q1, (0, l2)] [(0, l2), (0, s0), (0, s1), (2, s2)] ds m Q) := P_nx k174_11 rfl
set_option maxRecDepth 20000 in
theorem k174_12 : mjCode 174 12 = some (.invokevirtual 269, 3, 173, 4) := by decide +kernel
theorem p174_12 {s0 s1 s2 s3 : Int} {q0 q1 q2 : MV} {ds : Ds} {m : Mm} {Q : Ds → Mm → List MV → Prop} : WP 174 12 [q0, q1, q2] [(0, s0), (0, s1), (0, s2), (2, s3)] ds m Q = ((dk ds s3 = 7 ∧ WP 172 0 [(2, s3), (0, s2), (0, s1), (0, s0), (3, 0)] [] ds m (fun d2 m2 r2 => WP 174 15 [q0, q1, q2] (r2 ++ []) d2 m2 Q))) := P_cv k174_12 mx172 mo172 rfl rfl rfl rfl rfl rfl rfl rfl
set_option maxRecDepth 20000 in
theorem k174_15 : mjCode 174 15 = some (.ifCond .eq 7, 3, 22, 0) := by decide +kernel
theorem p174_15 {s0 : Int} {q0 q1 q2 : MV} {ds : Ds} {m : Mm} {Q : Ds → Mm → List MV → Prop} : WP 174 15 [q0, q1, q2] [(0, s0)] ds m Q = (if s0 = 0 then WP 174 22 [q0, q1, q2] [] ds m Q else WP 174 18 [q0, q1, q2] [] ds m Q) := P_if k174_15 rfl
set_option maxRecDepth 20000 in
theorem k174_18 : mjCode 174 18 = some (.iconst 1, 1, 0, 0) := by decide +kernel
theorem p174_18 {q0 q1 q2 : MV} {ds : Ds} {m : Mm} {Q : Ds → Mm → List MV → Prop} : WP 174 18 [q0, q1, q2] [] ds m Q = (WP 174 19 [q0, q1, q2] [(0, 1)] ds m Q) := P_nx k174_18 rfl
set_option maxRecDepth 20000 in
theorem k174_19 : mjCode 174 19 = some (.goto 4, 3, 23, 0) := by decide +kernel
theorem p174_19 {s0 : Int} {q0 q1 q2 : MV} {ds : Ds} {m : Mm} {Q : Ds → Mm → List MV → Prop} : WP 174 19 [q0, q1, q2] [(0, s0)] ds m Q = (WP 174 23 [q0, q1, q2] [(0, s0)] ds m Q) := P_nx k174_19 rfl
set_option maxRecDepth 20000 in
theorem k174_22 : mjCode 174 22 = some (.iconst 0, 1, 0, 0) := by decide +kernel
theorem p174_22 {q0 q1 q2 : MV} {ds : Ds} {m : Mm} {Q : Ds → Mm → List MV → Prop} : WP 174 22 [q0, q1, q2] [] ds m Q = (WP 174 23 [q0, q1, q2] [(0, 0)] ds m Q) := P_nx k174_22 rfl
set_option maxRecDepth 20000 in
theorem k174_23 : mjCode 174 23 = some (.ireturn, 1, 0, 0) := by decide +kernel
theorem p174_23 {s0 : Int} {q0 q1 q2 : MV} {ds : Ds} {m : Mm} {Q : Ds → Mm → List MV → Prop} : WP 174 23 [q0, q1, q2] [(0, s0)] ds m Q = (((s0 = 0 ∨ s0 = 1) ∧ Q ds m [(0, s0)])) := P_rb k174_23 rk174
set_option maxRecDepth 20000 in
theorem k175_0 : mjCode 175 0 = some (.aload_n 0, 1, 0, 0) := by decide +kernel
theorem p175_0 {l0 : Int} {q1 q2 : MV} {ds : Ds} {m : Mm} {Q : Ds → Mm → List MV → Prop} : WP 175 0 [(2, l0), q1, q2] [] ds m Q = (WP 175 1 [(2, l0), q1, q2] [(2, l0)] ds m Q) := P_nx k175_0 rfl
set_option maxRecDepth 20000 in
theorem k175_1 : mjCode 175 1 = some (.getfield 13, 3, 7, 1) := by decide +kernel
theorem p175_1 {s0 : Int} {q0 q1 q2 : MV} {ds : Ds} {m : Mm} {Q : Ds → Mm → List MV → Prop} : WP 175 1 [q0, q1, q2] [(2, s0)] ds m Q = ((dk ds s0 = 7 ∧ WP 175 4 [q0, q1, q2] [(2, m s0 1)] ds m Q)) := P_gd k175_1 rfl
set_option maxRecDepth 20000 in
theorem k175_4 : mjCode 175 4 = some (.iload_n 2, 1, 0, 0) := by decide +kernel
theorem p175_4 {l2 s0 : Int} {q0 q1 : MV} {ds : Ds} {m : Mm} {Q : Ds → Mm → List MV → Prop} : WP 175 4 [q0, q1, (0, l2)] [(2, s0)] ds m Q = (WP 175 5 [q0, q1, (0, l2)] [(0, l2), (2, s0)] ds m Q) := P_nx k175_4 rfl
set_option maxRecDepth 20000 in
theorem k175_5 : mjCode 175 5 = some (.aload_n 0, 1, 0, 0) := by decide +kernel
theorem p175_5 {l0 s0 s1 : Int} {q1 q2 : MV} {ds : Ds} {m : Mm} {Q : Ds → Mm → List MV → Prop} : WP 175 5 [(2, l0), q1, q2] [(0, s0), (2, s1)] ds m Q = (WP 175 6 [(2, l0), q1, q2] [(2, l0), (0, s0), (2, s1)] ds m Q) := P_nx k175_5 rfl
set_option maxRecDepth 20000 in
theorem k175_6 : mjCode 175 6 = some (.getfield 13, 3, 7, 1) := by decide +kernel
theorem p175_6 {s0 s1 s2 : Int} {q0 q1 q2 : MV} {ds : Ds} {m : Mm} {Q : Ds → Mm → List MV → Prop} : WP 175 6 [q0, q1, q2] [(2, s0), (0, s1), (2, s2)] ds m Q = ((dk ds s0 = 7 ∧ WP 175 9 [q0, q1, q2] [(2, m s0 1), (0, s1), (2, s2)] ds m Q)) := P_gd k175_6 rfl
set_option maxRecDepth 20000 in
theorem k175_9 : mjCode 175 9 = some (.iload_n 1, 1, 0, 0) := by decide +kernel
theorem p175_9 {l1 s0 s1 s2 : Int} {q0 q2 : MV} {ds : Ds} {m : Mm} {Q : Ds → Mm → List MV → Prop} : WP 175 9 [q0, (0, l1), q2] [(2, s0), (0, s1), (2, s2)] ds m Q = (WP 175 10 [q0, (0, l1), q2] [(0, l1), (2, s0), (0, s1), (2, s2)] ds m Q) := P_nx k175_9 rfl
set_option maxRecDepth 20000 in
theorem k175_10 : mjCode 175 10 = some (.iaload, 1, 0, 0) := by decide +kernel
theorem p175_10 {s0 s1 s2 s3 : Int} {q0 q1 q2 : MV} {ds : Ds} {m : Mm} {Q : Ds → Mm → List MV → Prop} : WP 175 10 [q0, q1, q2] [(0, s0), (2, s1), (0, s2), (2, s3)] ds m Q = ((dk ds s1 = 10 ∧ 0 ≤ s0 ∧ s0 < dl ds s1 ∧ WP 175 11 [q0, q1, q2] [(0, m s1 s0), (0, s2), (2, s3)] ds m Q)) := P_g3 k175_10 rfl
set_option maxRecDepth 20000 in
theorem k175_11 : mjCode 175 11 = some (.iastore, 1, 0, 0) := by decide +kernel
theorem p175_11 {s0 s1 s2 : Int} {q0 q1 q2 : MV} {ds : Ds} {m : Mm} {Q : Ds → Mm → List MV → Prop} : WP 175 11 [q0, q1, q2] [(0, s0), (0, s1), (2, s2)] ds m Q = ((dk ds s2 = 10 ∧ 0 ≤ s1 ∧ s1 < dl ds s2 ∧ WP 175 12 [q0, q1, q2] [] ds (up m s2 s1 s0) Q)) := P_s3 k175_11 rfl
set_option maxRecDepth 20000 in
theorem k175_12 : mjCode 175 12 = some (.aload_n 0, 1, 0, 0) := by decide +kernel
theorem p175_12 {l0 : Int} {q1 q2 : MV} {ds : Ds} {m : Mm} {Q : Ds → Mm → List MV → Prop} : WP 175 12 [(2, l0), q1, q2] [] ds m Q = (WP 175 13 [(2, l0), q1, q2] [(2, l0)] ds m Q) := P_nx k175_12 rfl
set_option maxRecDepth 20000 in
theorem k175_13 : mjCode 175 13 = some (.getfield 16, 3, 7, 2) := by decide +kernel
theorem p175_13 {s0 : Int} {q0 q1 q2 : MV} {ds : Ds} {m : Mm} {Q : Ds → Mm → List MV → Prop} : WP 175 13 [q0, q1, q2] [(2, s0)] ds m Q = ((dk ds s0 = 7 ∧ WP 175 16 [q0, q1, q2] [(2, m s0 2)] ds m Q)) := P_gd k175_13 rfl
set_option maxRecDepth 20000 in
theorem k175_16 : mjCode 175 16 = some (.iload_n 2, 1, 0, 0) := by decide +kernel
theorem p175_16 {l2 s0 : Int} {q0 q1 : MV} {ds : Ds} {m : Mm} {Q : Ds → Mm → List MV → Prop} : WP 175 16 [q0, q1, (0, l2)] [(2, s0)] ds m Q = (WP 175 17 [q0, q1, (0, l2)] [(0, l2), (2, s0)] ds m Q) := P_nx k175_16 rfl
set_option maxRecDepth 20000 in
theorem k175_17 : mjCode 175 17 = some (.aload_n 0, 1, 0, 0) := by decide +kernel
theorem p175_17 {l0 s0 s1 : Int} {q1 q2 : MV} {ds : Ds} {m : Mm} {Q : Ds → Mm → List MV → Prop} : WP 175 17 [(2, l0), q1, q2] [(0, s0), (2, s1)] ds m Q = (WP 175 18 [(2, l0), q1, q2] [(2, l0), (0, s0), (2, s1)] ds m Q) := P_nx k175_17 rfl
set_option maxRecDepth 20000 in
theorem k175_18 : mjCode 175 18 = some (.getfield 16, 3, 7, 2) := by decide +kernel
theorem p175_18 {s0 s1 s2 : Int} {q0 q1 q2 : MV} {ds : Ds} {m : Mm} {Q : Ds → Mm → List MV → Prop} : WP 175 18 [q0, q1, q2] [(2, s0), (0, s1), (2, s2)] ds m Q = ((dk ds s0 = 7 ∧ WP 175 21 [q0, q1, q2] [(2, m s0 2), (0, s1), (2, s2)] ds m Q)) := P_gd k175_18 rfl
set_option maxRecDepth 20000 in
theorem k175_21 : mjCode 175 21 = some (.iload_n 1, 1, 0, 0) := by decide +kernel
theorem p175_21 {l1 s0 s1 s2 : Int} {q0 q2 : MV} {ds : Ds} {m : Mm} {Q : Ds → Mm → List MV → Prop} : WP 175 21 [q0, (0, l1), q2] [(2, s0), (0, s1), (2, s2)] ds m Q = (WP 175 22 [q0, (0, l1), q2] [(0, l1), (2, s0), (0, s1), (2, s2)] ds m Q) := P_nx k175_21 rfl
set_option maxRecDepth 20000 in
theorem k175_22 : mjCode 175 22 = some (.iaload, 1, 0, 0) := by decide +kernel
theorem p175_22 {s0 s1 s2 s3 : Int} {q0 q1 q2 : MV} {ds : Ds} {m : Mm} {Q : Ds → Mm → List MV → Prop} : WP 175 22 [q0, q1, q2] [(0, s0), (2, s1), (0, s2), (2, s3)] ds m Q = ((dk ds s1 = 10 ∧ 0 ≤ s0 ∧ s0 < dl ds s1 ∧ WP 175 23 [q0, q1, q2] [(0, m s1 s0), (0, s2), (2, s3)] ds m Q)) := P_g3 k175_22 rfl
set_option maxRecDepth 20000 in
theorem k175_23 : mjCode 175 23 = some (.iastore, 1, 0, 0) := by decide +kernel
theorem p175_23 {s0 s1 s2 : Int} {q0 q1 q2 : MV} {ds : Ds} {m : Mm} {Q : Ds → Mm → List MV → Prop} : WP 175 23 [q0, q1, q2] [(0, s0), (0, s1), (2, s2)] ds m Q = ((dk ds s2 = 10 ∧ 0 ≤ s1 ∧ s1 < dl ds s2 ∧ WP 175 24 [q0, q1, q2] [] ds (up m s2 s1 s0) Q)) := P_s3 k175_23 rfl
set_option maxRecDepth 20000 in
theorem k175_24 : mjCode 175 24 = some (.aload_n 0, 1, 0, 0) := by decide +kernel
theorem p175_24 {l0 : Int} {q1 q2 : MV} {ds : Ds} {m : Mm} {Q : Ds → Mm → List MV → Prop} : WP 175 24 [(2, l0), q1, q2] [] ds m Q = (WP 175 25 [(2, l0), q1, q2] [(2, l0)] ds m Q) := P_nx k175_24 rfl
set_option maxRecDepth 20000 in
theorem k175_25 : mjCode 175 25 = some (.getfield 19, 3, 7, 3) := by decide +kernel
theorem p175_25 {s0 : Int} {q0 q1 q2 : MV} {ds : Ds} {m : Mm} {Q : Ds → Mm → List MV → Prop} : WP 175 25 [q0, q1, q2] [(2, s0)] ds m Q = ((dk ds s0 = 7 ∧ WP 175 28 [q0, q1, q2] [(2, m s0 3)] ds m Q)) := P_gd k175_25 rfl
set_option maxRecDepth 20000 in
theorem k175_28 : mjCode 175 28 = some (.iload_n 2, 1, 0, 0) := by decide +kernel
theorem p175_28 {l2 s0 : Int} {q0 q1 : MV} {ds : Ds} {m : Mm} {Q : Ds → Mm → List MV → Prop} : WP 175 28 [q0, q1, (0, l2)] [(2, s0)] ds m Q = (WP 175 29 [q0, q1, (0, l2)] [(0, l2), (2, s0)] ds m Q) := P_nx k175_28 rfl
set_option maxRecDepth 20000 in
theorem k175_29 : mjCode 175 29 = some (.aload_n 0, 1, 0, 0) := by decide +kernel
theorem p175_29 {l0 s0 s1 : Int} {q1 q2 : MV} {ds : Ds} {m : Mm} {Q : Ds → Mm → List MV → Prop} : WP 175 29 [(2, l0), q1, q2] [(0, s0), (2, s1)] ds m Q = (WP 175 30 [(2, l0), q1, q2] [(2, l0), (0, s0), (2, s1)] ds m Q) := P_nx k175_29 rfl
set_option maxRecDepth 20000 in
theorem k175_30 : mjCode 175 30 = some (.getfield 19, 3, 7, 3) := by decide +kernel
theorem p175_30 {s0 s1 s2 : Int} {q0 q1 q2 : MV} {ds : Ds} {m : Mm} {Q : Ds → Mm → List MV → Prop} : WP 175 30 [q0, q1, q2] [(2, s0), (0, s1), (2, s2)] ds m Q = ((dk ds s0 = 7 ∧ WP 175 33 [q0, q1, q2] [(2, m s0 3), (0, s1), (2, s2)] ds m Q)) := P_gd k175_30 rfl
set_option maxRecDepth 20000 in
theorem k175_33 : mjCode 175 33 = some (.iload_n 1, 1, 0, 0) := by decide +kernel
theorem p175_33 {l1 s0 s1 s2 : Int} {q0 q2 : MV} {ds : Ds} {m : Mm} {Q : Ds → Mm → List MV → Prop} : WP 175 33 [q0, (0, l1), q2] [(2, s0), (0, s1), (2, s2)] ds m Q = (WP 175 34 [q0, (0, l1), q2] [(0, l1), (2, s0), (0, s1), (2, s2)] ds m Q) := P_nx k175_33 rfl
set_option maxRecDepth 20000 in
theorem k175_34 : mjCode 175 34 = some (.iaload, 1, 0, 0) := by decide +kernel
theorem p175_34 {s0 s1 s2 s3 : Int} {q0 q1 q2 : MV} {ds : Ds} {m : Mm} {Q : Ds → Mm → List MV → Prop} : WP 175 34 [q0, q1, q2] [(0, s0), (2, s1), (0, s2), (2, s3)] ds m Q = ((dk ds s1 = 10 ∧ 0 ≤ s0 ∧ s0 < dl ds s1 ∧ WP 175 35 [q0, q1, q2] [(0, m s1 s0), (0, s2), (2, s3)] ds m Q)) := P_g3 k175_34 rfl
set_option maxRecDepth 20000 in
theorem k175_35 : mjCode 175 35 = some (.iastore, 1, 0, 0) := by decide +kernel
theorem p175_35 {s0 s1 s2 : Int} {q0 q1 q2 : MV} {ds : Ds} {m : Mm} {Q : Ds → Mm → List MV → Prop} : WP 175 35 [q0, q1, q2] [(0, s0), (0, s1), (2, s2)] ds m Q = ((dk ds s2 = 10 ∧ 0 ≤ s1 ∧ s1 < dl ds s2 ∧ WP 175 36 [q0, q1, q2] [] ds (up m s2 s1 s0) Q)) := P_s3 k175_35 rfl
set_option maxRecDepth 20000 in
theorem k175_36 : mjCode 175 36 = some (.aload_n 0, 1, 0, 0) := by decide +kernel
theorem p175_36 {l0 : Int} {q1 q2 : MV} {ds : Ds} {m : Mm} {Q : Ds → Mm → List MV → Prop} : WP 175 36 [(2, l0), q1, q2] [] ds m Q = (WP 175 37 [(2, l0), q1, q2] [(2, l0)] ds m Q) := P_nx k175_36 rfl
set_option maxRecDepth 20000 in
theorem k175_37 : mjCode 175 37 = some (.getfield 22, 3, 7, 4) := by decide +kernel
theorem p175_37 {s0 : Int} {q0 q1 q2 : MV} {ds : Ds} {m : Mm} {Q : Ds → Mm → List MV → Prop} : WP 175 37 [q0, q1, q2] [(2, s0)] ds m Q = ((dk ds s0 = 7 ∧ WP 175 40 [q0, q1, q2] [(2, m s0 4)] ds m Q)) := P_gd k175_37 rfl
set_option maxRecDepth 20000 in
theorem k175_40 : mjCode 175 40 = some (.iload_n 2, 1, 0, 0) := by decide +kernel
theorem p175_40 {l2 s0 : Int} {q0 q1 : MV} {ds : Ds} {m : Mm} {Q : Ds → Mm → List MV → Prop} : WP 175 40 [q0, q1, (0, l2)] [(2, s0)] ds m Q = (WP 175 41 [q0, q1, (0, l2)] [(0, l2), (2, s0)] ds m Q) := P_nx k175_40 rfl
set_option maxRecDepth 20000 in
theorem k175_41 : mjCode 175 41 = some (.aload_n 0, 1, 0, 0) := by decide +kernel
theorem p175_41 {l0 s0 s1 : Int} {q1 q2 : MV} {ds : Ds} {m : Mm} {Q : Ds → Mm → List MV → Prop} : WP 175 41 [(2, l0), q1, q2] [(0, s0), (2, s1)] ds m Q = (WP 175 42 [(2, l0), q1, q2] [(2, l0), (0, s0), (2, s1)] ds m Q) := P_nx k175_41 rfl
set_option maxRecDepth 20000 in
theorem k175_42 : mjCode 175 42 = some (.getfield 22, 3, 7, 4) := by decide +kernel
theorem p175_42 {s0 s1 s2 : Int} {q0 q1 q2 : MV} {ds : Ds} {m : Mm} {Q : Ds → Mm → List MV → Prop} : WP 175 42 [q0, q1, q2] [(2, s0), (0, s1), (2, s2)] ds m Q = ((dk ds s0 = 7 ∧ WP 175 45 [q0, q1, q2] [(2, m s0 4), (0, s1), (2, s2)] ds m Q)) := P_gd k175_42 rfl
set_option maxRecDepth 20000 in
theorem k175_45 : mjCode 175 45 = some (.iload_n 1, 1, 0, 0) := by decide +kernel
theorem p175_45 {l1 s0 s1 s2 : Int} {q0 q2 : MV} {ds : Ds} {m : Mm} {Q : Ds → Mm → List MV → Prop} : WP 175 45 [q0, (0, l1), q2] [(2, s0), (0, s1), (2, s2)] ds m Q = (WP 175 46 [q0, (0, l1), q2] [(0, l1), (2, s0), (0, s1), (2, s2)] ds m Q) := P_nx k175_45 rfl
set_option maxRecDepth 20000 in
theorem k175_46 : mjCode 175 46 = some (.iaload, 1, 0, 0) := by decide +kernel
theorem p175_46 {s0 s1 s2 s3 : Int} {q0 q1 q2 : MV} {ds : Ds} {m : Mm} {Q : Ds → Mm → List MV → Prop} : WP 175 46 [q0, q1, q2] [(0, s0), (2, s1), (0, s2), (2, s3)] ds m Q = ((dk ds s1 = 10 ∧ 0 ≤ s0 ∧ s0 < dl ds s1 ∧ WP 175 47 [q0, q1, q2] [(0, m s1 s0), (0, s2), (2, s3)] ds m Q)) := P_g3 k175_46 rfl
set_option maxRecDepth 20000 in
theorem k175_47 : mjCode 175 47 = some (.iastore, 1, 0, 0) := by decide +kernel
theorem p175_47 {s0 s1 s2 : Int} {q0 q1 q2 : MV} {ds : Ds} {m : Mm} {Q : Ds → Mm → List MV → Prop} : WP 175 47 [q0, q1, q2] [(0, s0), (0, s1), (2, s2)] ds m Q = ((dk ds s2 = 10 ∧ 0 ≤ s1 ∧ s1 < dl ds s2 ∧ WP 175 48 [q0, q1, q2] [] ds (up m s2 s1 s0) Q)) := P_s3 k175_47 rfl
set_option maxRecDepth 20000 in
theorem k175_48 : mjCode 175 48 = some (.aload_n 0, 1, 0, 0) := by decide +kernel
theorem p175_48 {l0 : Int} {q1 q2 : MV} {ds : Ds} {m : Mm} {Q : Ds → Mm → List MV → Prop} : WP 175 48 [(2, l0), q1, q2] [] ds m Q = (WP 175 49 [(2, l0), q1, q2] [(2, l0)] ds m Q) := P_nx k175_48 rfl
set_option maxRecDepth 20000 in
theorem k175_49 : mjCode 175 49 = some (.getfield 13, 3, 7, 1) := by decide +kernel
theorem p175_49 {s0 : Int} {q0 q1 q2 : MV} {ds : Ds} {m : Mm} {Q : Ds → Mm → List MV → Prop} : WP 175 49 [q0, q1, q2] [(2, s0)] ds m Q = ((dk ds s0 = 7 ∧ WP 175 52 [q0, q1, q2] [(2, m s0 1)] ds m Q)) := P_gd k175_49 rfl
set_option maxRecDepth 20000 in
theorem k175_52 : mjCode 175 52 = some (.iload_n 1, 1, 0, 0) := by decide +kernel
theorem p175_52 {l1 s0 : Int} {q0 q2 : MV} {ds : Ds} {m : Mm} {Q : Ds → Mm → List MV → Prop} : WP 175 52 [q0, (0, l1), q2] [(2, s0)] ds m Q = (WP 175 53 [q0, (0, l1), q2] [(0, l1), (2, s0)] ds m Q) := P_nx k175_52 rfl
set_option maxRecDepth 20000 in
theorem k175_53 : mjCode 175 53 = some (.iconst 0, 1, 0, 0) := by decide +kernel
theorem p175_53 {s0 s1 : Int} {q0 q1 q2 : MV} {ds : Ds} {m : Mm} {Q : Ds → Mm → List MV → Prop} : WP 175 53 [q0, q1, q2] [(0, s0), (2, s1)] ds m Q = (WP 175 54 [q0, q1, q2] [(0, 0), (0, s0), (2, s1)] ds m Q) := P_nx k175_53 rfl
set_option maxRecDepth 20000 in
theorem k175_54 : mjCode 175 54 = some (.iastore, 1, 0, 0) := by decide +kernel
theorem p175_54 {s0 s1 s2 : Int} {q0 q1 q2 : MV} {ds : Ds} {m : Mm} {Q : Ds → Mm → List MV → Prop} : WP 175 54 [q0, q1, q2] [(0, s0), (0, s1), (2, s2)] ds m Q = ((dk ds s2 = 10 ∧ 0 ≤ s1 ∧ s1 < dl ds s2 ∧ WP 175 55 [q0, q1, q2] [] ds (up m s2 s1 s0) Q)) := P_s3 k175_54 rfl
set_option maxRecDepth 20000 in
theorem k175_55 : mjCode 175 55 = some (.aload_n 0, 1, 0, 0) := by decide +kernel
theorem p175_55 {l0 : Int} {q1 q2 : MV} {ds : Ds} {m : Mm} {Q : Ds → Mm → List MV → Prop} : WP 175 55 [(2, l0), q1, q2] [] ds m Q = (WP 175 56 [(2, l0), q1, q2] [(2, l0)] ds m Q) := P_nx k175_55 rfl
set_option maxRecDepth 20000 in
theorem k175_56 : mjCode 175 56 = some (.getfield 13, 3, 7, 1) := by decide +kernel
theorem p175_56 {s0 : Int} {q0 q1 q2 : MV} {ds : Ds} {m : Mm} {Q : Ds → Mm → List MV → Prop} : WP 175 56 [q0, q1, q2] [(2, s0)] ds m Q = ((dk ds s0 = 7 ∧ WP 175 59 [q0, q1, q2] [(2, m s0 1)] ds m Q)) := P_gd k175_56 rfl
set_option maxRecDepth 20000 in
theorem k175_59 : mjCode 175 59 = some (.iload_n 2, 1, 0, 0) := by decide +kernel
theorem p175_59 {l2 s0 : Int} {q0 q1 : MV} {ds : Ds} {m : Mm} {Q : Ds → Mm → List MV → Prop} : WP 175 59 [q0, q1, (0, l2)] [(2, s0)] ds m Q = (WP 175 60 [q0, q1, (0, l2)] [(0, l2), (2, s0)] ds m Q) := P_nx k175_59 rfl
set_option maxRecDepth 20000 in
theorem k175_60 : mjCode 175 60 = some (.iaload, 1, 0, 0) := by decide +kernel
theorem p175_60 {s0 s1 : Int} {q0 q1 q2 : MV} {ds : Ds} {m : Mm} {Q : Ds → Mm → List MV → Prop} : WP 175 60 [q0, q1, q2] [(0, s0), (2, s1)] ds m Q = ((dk ds s1 = 10 ∧ 0 ≤ s0 ∧ s0 < dl ds s1 ∧ WP 175 61 [q0, q1, q2] [(0, m s1 s0)] ds m Q)) := P_g3 k175_60 rfl
set_option maxRecDepth 20000 in
theorem k175_61 : mjCode 175 61 = some (.iconst 3, 1, 0, 0) := by decide +kernel
theorem p175_61 {s0 : Int} {q0 q1 q2 : MV} {ds : Ds} {m : Mm} {Q : Ds → Mm → List MV → Prop} : WP 175 61 [q0, q1, q2] [(0, s0)] ds m Q = (WP 175 62 [q0, q1, q2] [(0, 3), (0, s0)] ds m Q) := P_nx k175_61 rfl
set_option maxRecDepth 20000 in
theorem k175_62 : mjCode 175 62 = some (.if_icmp .ne 15, 3, 77, 0) := by decide +kernel
theorem p175_62 {s0 s1 : Int} {q0 q1 q2 : MV} {ds : Ds} {m : Mm} {Q : Ds → Mm → List MV → Prop} : WP 175 62 [q0, q1, q2] [(0, s0), (0, s1)] ds m Q = (if s1 = s0 then WP 175 65 [q0, q1, q2] [] ds m Q else WP 175 77 [q0, q1, q2] [] ds m Q) := P_if k175_62 rfl
set_option maxRecDepth 20000 in
theorem k175_65 : mjCode 175 65 = some (.aload_n 0, 1, 0, 0) := by decide +kernel
theorem p175_65 {l0 : Int} {q1 q2 : MV} {ds : Ds} {m : Mm} {Q : Ds → Mm → List MV → Prop} : WP 175 65 [(2, l0), q1, q2] [] ds m Q = (WP 175 66 [(2, l0), q1, q2] [(2, l0)] ds m Q) := P_nx k175_65 rfl
set_option maxRecDepth 20000 in
theorem k175_66 : mjCode 175 66 = some (.getfield 22, 3, 7, 4) := by decide +kernel
theorem p175_66 {s0 : Int} {q0 q1 q2 : MV} {ds : Ds} {m : Mm} {Q : Ds → Mm → List MV → Prop} : WP 175 66 [q0, q1, q2] [(2, s0)] ds m Q = ((dk ds s0 = 7 ∧ WP 175 69 [q0, q1, q2] [(2, m s0 4)] ds m Q)) := P_gd k175_66 rfl
set_option maxRecDepth 20000 in
theorem k175_69 : mjCode 175 69 = some (.aload_n 0, 1, 0, 0) := by decide +kernel
theorem p175_69 {l0 s0 : Int} {q1 q2 : MV} {ds : Ds} {m : Mm} {Q : Ds → Mm → List MV → Prop} : WP 175 69 [(2, l0), q1, q2] [(2, s0)] ds m Q = (WP 175 70 [(2, l0), q1, q2] [(2, l0), (2, s0)] ds m Q) := P_nx k175_69 rfl
set_option maxRecDepth 20000 in
theorem k175_70 : mjCode 175 70 = some (.getfield 22, 3, 7, 4) := by decide +kernel
theorem p175_70 {s0 s1 : Int} {q0 q1 q2 : MV} {ds : Ds} {m : Mm} {Q : Ds → Mm → List MV → Prop} : WP 175 70 [q0, q1, q2] [(2, s0), (2, s1)] ds m Q = ((dk ds s0 = 7 ∧ WP 175 73 [q0, q1, q2] [(2, m s0 4), (2, s1)] ds m Q)) := P_gd k175_70 rfl
set_option maxRecDepth 20000 in
theorem k175_73 : mjCode 175 73 = some (.iload_n 2, 1, 0, 0) := by decide +kernel
theorem p175_73 {l2 s0 s1 : Int} {q0 q1 : MV} {ds : Ds} {m : Mm} {Q : Ds → Mm → List MV → Prop} : WP 175 73 [q0, q1, (0, l2)] [(2, s0), (2, s1)] ds m Q = (WP 175 74 [q0, q1, (0, l2)] [(0, l2), (2, s0), (2, s1)] ds m Q) := P_nx k175_73 rfl
set_option maxRecDepth 20000 in
theorem k175_74 : mjCode 175 74 = some (.iaload, 1, 0, 0) := by decide +kernel
theorem p175_74 {s0 s1 s2 : Int} {q0 q1 q2 : MV} {ds : Ds} {m : Mm} {Q : Ds → Mm → List MV → Prop} : WP 175 74 [q0, q1, q2] [(0, s0), (2, s1), (2, s2)] ds m Q = ((dk ds s1 = 10 ∧ 0 ≤ s0 ∧ s0 < dl ds s1 ∧ WP 175 75 [q0, q1, q2] [(0, m s1 s0), (2, s2)] ds m Q)) := P_g3 k175_74 rfl
set_option maxRecDepth 20000 in
theorem k175_75 : mjCode 175 75 = some (.iload_n 2, 1, 0, 0) := by decide +kernel
theorem p175_75 {l2 s0 s1 : Int} {q0 q1 : MV} {ds : Ds} {m : Mm} {Q : Ds → Mm → List MV → Prop} : WP 175 75 [q0, q1, (0, l2)] [(0, s0), (2, s1)] ds m Q = (WP 175 76 [q0, q1, (0, l2)] [(0, l2), (0, s0), (2, s1)] ds m Q) := P_nx k175_75 rfl
set_option maxRecDepth 20000 in
theorem k175_76 : mjCode 175 76 = some (.iastore, 1, 0, 0) := by decide +kernel
theorem p175_76 {s0 s1 s2 : Int} {q0 q1 q2 : MV} {ds : Ds} {m : Mm} {Q : Ds → Mm → List MV → Prop} : WP 175 76 [q0, q1, q2] [(0, s0), (0, s1), (2, s2)] ds m Q = ((dk ds s2 = 10 ∧ 0 ≤ s1 ∧ s1 < dl ds s2 ∧ WP 175 77 [q0, q1, q2] [] ds (up m s2 s1 s0) Q)) := P_s3 k175_76 rfl
set_option maxRecDepth 20000 in
theorem k175_77 : mjCode 175 77 = some (.return_, 1, 0, 0) := by decide +kernel
theorem p175_77 {q0 q1 q2 : MV} {ds : Ds} {m : Mm} {Q : Ds → Mm → List MV → Prop} : WP 175 77 [q0, q1, q2] [] ds m Q = (Q ds m []) := P_rv k175_77 rk175
set_option maxRecDepth 20000 in
theorem k176_0 : mjCode 176 0 = some (.iload_n 1, 1, 0, 0) := by decide +kernel
theorem p176_0 {l1 : Int} {q0 q2 q3 q4 q5 q6 q7 : MV} {ds : Ds} {m : Mm} {Q : Ds → Mm → List MV → Prop} : WP 176 0 [q0, (0, l1), q2, q3, q4, q5, q6, q7] [] ds m Q = (WP 176 1 [q0, (0, l1), q2, q3, q4, q5, q6, q7] [(0, l1)] ds m Q) := P_nx k176_0 rfl
set_option maxRecDepth 20000 in
theorem k176_1 : mjCode 176 1 = some (.iload_n 2, 1, 0, 0) := by decide +kernel
theorem p176_1 {l2 s0 : Int} {q0 q1 q3 q4 q5 q6 q7 : MV} {ds : Ds} {m : Mm} {Q : Ds → Mm → List MV → Prop} : WP 176 1 [q0, q1, (0, l2), q3, q4, q5, q6, q7] [(0, s0)] ds m Q = (WP 176 2 [q0, q1, (0, l2), q3, q4, q5, q6, q7] [(0, l2), (0, s0)] ds m Q) := P_nx k176_1 rfl
set_option maxRecDepth 20000 in
theorem k176_2 : mjCode 176 2 = some (.invokestatic 216, 3, 124, 2) := by decide +kernel
theorem p176_2 {s0 s1 : Int} {q0 q1 q2 q3 q4 q5 q6 q7 : MV} {ds : Ds} {m : Mm} {Q : Ds → Mm → List MV → Prop} : WP 176 2 [q0, q1, q2, q3, q4, q5, q6, q7] [(0, s0), (0, s1)] ds m Q = (WP 123 0 [(0, s1), (0, s0), (3, 0), (3, 0)] [] ds m (fun d2 m2 r2 => WP 176 5 [q0, q1, q2, q3, q4, q5, q6, q7] (r2 ++ []) d2 m2 Q)) := P_cs k176_2 mx123 rfl rfl rfl rfl rfl rfl rfl
set_option maxRecDepth 20000 in
theorem k176_5 : mjCode 176 5 = some (.istore 5, 2, 0, 0) := by decide +kernel
theorem p176_5 {l4 s0 : Int} {q0 q1 q2 q3 q5 q6 q7 : MV} {ds : Ds} {m : Mm} {Q : Ds → Mm → List MV → Prop} : WP 176 5 [q0, q1, q2, q3, (0, l4), q5, q6, q7] [(0, s0)] ds m Q = (WP 176 7 [q0, q1, q2, q3, (0, l4), (0, s0), q6, q7] [] ds m Q) := P_nx k176_5 rfl
set_option maxRecDepth 20000 in
theorem k176_7 : mjCode 176 7 = some (.iload 5, 2, 0, 0) := by decide +kernel
theorem p176_7 {l5 : Int} {q0 q1 q2 q3 q4 q6 q7 : MV} {ds : Ds} {m : Mm} {Q : Ds → Mm → List MV → Prop} : WP 176 7 [q0, q1, q2, q3, q4, (0, l5), q6, q7] [] ds m Q = (WP 176 9 [q0, q1, q2, q3, q4, (0, l5), q6, q7] [(0, l5)] ds m Q) := P_nx k176_7 rfl
set_option maxRecDepth 20000 in
theorem k176_9 : mjCode 176 9 = some (.iconst (-1), 1, 0, 0) := by decide +kernel
theorem p176_9 {s0 : Int} {q0 q1 q2 q3 q4 q5 q6 q7 : MV} {ds : Ds} {m : Mm} {Q : Ds → Mm → List MV → Prop} : WP 176 9 [q0, q1, q2, q3, q4, q5, q6, q7] [(0, s0)] ds m Q = (WP 176 10 [q0, q1, q2, q3, q4, q5, q6, q7] [(0, (-1)), (0, s0)] ds m Q) := P_nx k176_9 rfl
set_option maxRecDepth 20000 in
theorem k176_10 : mjCode 176 10 = some (.if_icmp .eq 12, 3, 22, 0) := by decide +kernel
theorem p176_10 {s0 s1 : Int} {q0 q1 q2 q3 q4 q5 q6 q7 : MV} {ds : Ds} {m : Mm} {Q : Ds → Mm → List MV → Prop} : WP 176 10 [q0, q1, q2, q3, q4, q5, q6, q7] [(0, s0), (0, s1)] ds m Q = (if s1 = s0 then WP 176 22 [q0, q1, q2, q3, q4, q5, q6, q7] [] ds m Q else WP 176 13 [q0, q1, q2, q3, q4, q5, q6, q7] [] ds m Q) := P_if k176_10 rfl
set_option maxRecDepth 20000 in
theorem k176_13 : mjCode 176 13 = some (.aload_n 0, 1, 0, 0) := by decide +kernel
theorem p176_13 {l0 : Int} {q1 q2 q3 q4 q5 q6 q7 : MV} {ds : Ds} {m : Mm} {Q : Ds → Mm → List MV → Prop} : WP 176 13 [(2, l0), q1, q2, q3, q4, q5, q6, q7] [] ds m Q = (WP 176 14 [(2, l0), q1, q2, q3, q4, q5, q6, q7] [(2, l0)] ds m Q) := P_nx k176_13 rfl
set_option maxRecDepth 20000 in
theorem k176_14 : mjCode 176 14 = some (.iload 5, 2, 0, 0) := by decide +kernel
theorem p176_14 {l5 s0 : Int} {q0 q1 q2 q3 q4 q6 q7 : MV} {ds : Ds} {m : Mm} {Q : Ds → Mm → List MV → Prop} : WP 176 14 [q0, q1, q2, q3, q4, (0, l5), q6, q7] [(2, s0)] ds m Q = (WP 176 16 [q0, q1, q2, q3, q4, (0, l5), q6, q7] [(0, l5), (2, s0)] ds m Q) := P_nx k176_14 rfl
set_option maxRecDepth 20000 in
theorem k176_16 : mjCode 176 16 = some (.invokevirtual 167, 3, 127, 2) := by decide +kernel
theorem p176_16 {s0 s1 : Int} {q0 q1 q2 q3 q4 q5 q6 q7 : MV} {ds : Ds} {m : Mm} {Q : Ds → Mm → List MV → Prop} : WP 176 16 [q0, q1, q2, q3, q4, q5, q6, q7] [(0, s0), (2, s1)] ds m Q = ((dk ds s1 = 7 ∧ WP 126 0 [(2, s1), (0, s0)] [] ds m (fun d2 m2 r2 => WP 176 19 [q0, q1, q2, q3, q4, q5, q6, q7] (r2 ++ []) d2 m2 Q))) := P_cv k176_16 mx126 mo126 rfl rfl rfl rfl rfl rfl rfl rfl
set_option maxRecDepth 20000 in
theorem k176_19 : mjCode 176 19 = some (.ifCond .ne 4, 3, 23, 0) := by decide +kernel
theorem p176_19 {s0 : Int} {q0 q1 q2 q3 q4 q5 q6 q7 : MV} {ds : Ds} {m : Mm} {Q : Ds → Mm → List MV → Prop} : WP 176 19 [q0, q1, q2, q3, q4, q5, q6, q7] [(0, s0)] ds m Q = (if s0 = 0 then WP 176 22 [q0, q1, q2, q3, q4, q5, q6, q7] [] ds m Q else WP 176 23 [q0, q1, q2, q3, q4, q5, q6, q7] [] ds m Q) := P_if k176_19 rfl
set_option maxRecDepth 20000 in
theorem k176_22 : mjCode 176 22 = some (.return_, 1, 0, 0) := by decide +kernel
theorem p176_22 {q0 q1 q2 q3 q4 q5 q6 q7 : MV} {ds : Ds} {m : Mm} {Q : Ds → Mm → List MV → Prop} : WP 176 22 [q0, q1, q2, q3, q4, q5, q6, q7] [] ds m Q = (Q ds m []) := P_rv k176_22 rk176
set_option maxRecDepth 20000 in
theorem k176_23 : mjCode 176 23 = some (.aload_n 0, 1, 0, 0) := by decide +kernel
theorem p176_23 {l0 : Int} {q1 q2 q3 q4 q5 q6 q7 : MV} {ds : Ds} {m : Mm} {Q : Ds → Mm → List MV → Prop} : WP 176 23 [(2, l0), q1, q2, q3, q4, q5, q6, q7] [] ds m Q = (WP 176 24 [(2, l0), q1, q2, q3, q4, q5, q6, q7] [(2, l0)] ds m Q) := P_nx k176_23 rfl
set_option maxRecDepth 20000 in
theorem k176_24 : mjCode 176 24 = some (.getfield 25, 3, 7, 5) := by decide +kernel
theorem p176_24 {s0 : Int} {q0 q1 q2 q3 q4 q5 q6 q7 : MV} {ds : Ds} {m : Mm} {Q : Ds → Mm → List MV → Prop} : WP 176 24 [q0, q1, q2, q3, q4, q5, q6, q7] [(2, s0)] ds m Q = ((dk ds s0 = 7 ∧ WP 176 27 [q0, q1, q2, q3, q4, q5, q6, q7] [(2, m s0 5)] ds m Q)) := P_gd k176_24 rfl
set_option maxRecDepth 20000 in
theorem k176_27 : mjCode 176 27 = some (.iload_n 1, 1, 0, 0) := by decide +kernel
theorem p176_27 {l1 s0 : Int} {q0 q2 q3 q4 q5 q6 q7 : MV} {ds : Ds} {m : Mm} {Q : Ds → Mm → List MV → Prop} : WP 176 27 [q0, (0, l1), q2, q3, q4, q5, q6, q7] [(2, s0)] ds m Q = (WP 176 28 [q0, (0, l1), q2, q3, q4, q5, q6, q7] [(0, l1), (2, s0)] ds m Q) := P_nx k176_27 rfl
set_option maxRecDepth 20000 in
theorem k176_28 : mjCode 176 28 = some (.baload, 1, 0, 0) := by decide +kernel
theorem p176_28 {s0 s1 : Int} {q0 q1 q2 q3 q4 q5 q6 q7 : MV} {ds : Ds} {m : Mm} {Q : Ds → Mm → List MV → Prop} : WP 176 28 [q0, q1, q2, q3, q4, q5, q6, q7] [(0, s0), (2, s1)] ds m Q = ((dk ds s1 = 11 ∧ 0 ≤ s0 ∧ s0 < dl ds s1 ∧ WP 176 29 [q0, q1, q2, q3, q4, q5, q6, q7] [(0, m s1 s0)] ds m Q)) := P_g3 k176_28 rfl
set_option maxRecDepth 20000 in
theorem k176_29 : mjCode 176 29 = some (.istore 6, 2, 0, 0) := by decide +kernel
theorem p176_29 {l5 s0 : Int} {q0 q1 q2 q3 q4 q6 q7 : MV} {ds : Ds} {m : Mm} {Q : Ds → Mm → List MV → Prop} : WP 176 29 [q0, q1, q2, q3, q4, (0, l5), q6, q7] [(0, s0)] ds m Q = (WP 176 31 [q0, q1, q2, q3, q4, (0, l5), (0, s0), q7] [] ds m Q) := P_nx k176_29 rfl
set_option maxRecDepth 20000 in
theorem k176_31 : mjCode 176 31 = some (.iload 6, 2, 0, 0) := by decide +kernel
theorem p176_31 {l6 : Int} {q0 q1 q2 q3 q4 q5 q7 : MV} {ds : Ds} {m : Mm} {Q : Ds → Mm → List MV → Prop} : WP 176 31 [q0, q1, q2, q3, q4, q5, (0, l6), q7] [] ds m Q = (WP 176 33 [q0, q1, q2, q3, q4, q5, (0, l6), q7] [(0, l6)] ds m Q) := P_nx k176_31 rfl
set_option maxRecDepth 20000 in
theorem k176_33 : mjCode 176 33 = some (.ifCond .eq 21, 3, 54, 0) := by decide +kernel
theorem p176_33 {s0 : Int} {q0 q1 q2 q3 q4 q5 q6 q7 : MV} {ds : Ds} {m : Mm} {Q : Ds → Mm → List MV → Prop} : WP 176 33 [q0, q1, q2, q3, q4, q5, q6, q7] [(0, s0)] ds m Q = (if s0 = 0 then WP 176 54 [q0, q1, q2, q3, q4, q5, q6, q7] [] ds m Q else WP 176 36 [q0, q1, q2, q3, q4, q5, q6, q7] [] ds m Q) := P_if k176_33 rfl
set_option maxRecDepth 20000 in
theorem k176_36 : mjCode 176 36 = some (.aload_n 0, 1, 0, 0) := by decide +kernel
theorem p176_36 {l0 : Int} {q1 q2 q3 q4 q5 q6 q7 : MV} {ds : Ds} {m : Mm} {Q : Ds → Mm → List MV → Prop} : WP 176 36 [(2, l0), q1, q2, q3, q4, q5, q6, q7] [] ds m Q = (WP 176 37 [(2, l0), q1, q2, q3, q4, q5, q6, q7] [(2, l0)] ds m Q) := P_nx k176_36 rfl
set_option maxRecDepth 20000 in
theorem k176_37 : mjCode 176 37 = some (.getfield 25, 3, 7, 5) := by decide +kernel
theorem p176_37 {s0 : Int} {q0 q1 q2 q3 q4 q5 q6 q7 : MV} {ds : Ds} {m : Mm} {Q : Ds → Mm → List MV → Prop} : WP 176 37 [q0, q1, q2, q3, q4, q5, q6, q7] [(2, s0)] ds m Q = ((dk ds s0 = 7 ∧ WP 176 40 [q0, q1, q2, q3, q4, q5, q6, q7] [(2, m s0 5)] ds m Q)) := P_gd k176_37 rfl
set_option maxRecDepth 20000 in
theorem k176_40 : mjCode 176 40 = some (.iload_n 1, 1, 0, 0) := by decide +kernel
theorem p176_40 {l1 s0 : Int} {q0 q2 q3 q4 q5 q6 q7 : MV} {ds : Ds} {m : Mm} {Q : Ds → Mm → List MV → Prop} : WP 176 40 [q0, (0, l1), q2, q3, q4, q5, q6, q7] [(2, s0)] ds m Q = (WP 176 41 [q0, (0, l1), q2, q3, q4, q5, q6, q7] [(0, l1), (2, s0)] ds m Q) := P_nx k176_40 rfl
set_option maxRecDepth 20000 in
theorem k176_41 : mjCode 176 41 = some (.iconst 0, 1, 0, 0) := by decide +kernel
theorem p176_41 {s0 s1 : Int} {q0 q1 q2 q3 q4 q5 q6 q7 : MV} {ds : Ds} {m : Mm} {Q : Ds → Mm → List MV → Prop} : WP 176 41 [q0, q1, q2, q3, q4, q5, q6, q7] [(0, s0), (2, s1)] ds m Q = (WP 176 42 [q0, q1, q2, q3, q4, q5, q6, q7] [(0, 0), (0, s0), (2, s1)] ds m Q) := P_nx k176_41 rfl
set_option maxRecDepth 20000 in
theorem k176_42 : mjCode 176 42 = some (.bastore, 1, 0, 0) := by decide +kernel
theorem p176_42 {s0 s1 s2 : Int} {q0 q1 q2 q3 q4 q5 q6 q7 : MV} {ds : Ds} {m : Mm} {Q : Ds → Mm → List MV → Prop} : WP 176 42 [q0, q1, q2, q3, q4, q5, q6, q7] [(0, s0), (0, s1), (2, s2)] ds m Q = (((s0 = 0 ∨ s0 = 1) ∧ dk ds s2 = 11 ∧ 0 ≤ s1 ∧ s1 < dl ds s2 ∧ WP 176 43 [q0, q1, q2, q3, q4, q5, q6, q7] [] ds (up m s2 s1 s0) Q)) := P_s4 k176_42 rfl
set_option maxRecDepth 20000 in
theorem k176_43 : mjCode 176 43 = some (.aload_n 0, 1, 0, 0) := by decide +kernel
theorem p176_43 {l0 : Int} {q1 q2 q3 q4 q5 q6 q7 : MV} {ds : Ds} {m : Mm} {Q : Ds → Mm → List MV → Prop} : WP 176 43 [(2, l0), q1, q2, q3, q4, q5, q6, q7] [] ds m Q = (WP 176 44 [(2, l0), q1, q2, q3, q4, q5, q6, q7] [(2, l0)] ds m Q) := P_nx k176_43 rfl
set_option maxRecDepth 20000 in
theorem k176_44 : mjCode 176 44 = some (.getfield 25, 3, 7, 5) := by decide +kernel
theorem p176_44 {s0 : Int} {q0 q1 q2 q3 q4 q5 q6 q7 : MV} {ds : Ds} {m : Mm} {Q : Ds → Mm → List MV → Prop} : WP 176 44 [q0, q1, q2, q3, q4, q5, q6, q7] [(2, s0)] ds m Q = ((dk ds s0 = 7 ∧ WP 176 47 [q0, q1, q2, q3, q4, q5, q6, q7] [(2, m s0 5)] ds m Q)) := P_gd k176_44 rfl
set_option maxRecDepth 20000 in
theorem k176_47 : mjCode 176 47 = some (.iload 5, 2, 0, 0) := by decide +kernel
theorem p176_47 {l5 s0 : Int} {q0 q1 q2 q3 q4 q6 q7 : MV} {ds : Ds} {m : Mm} {Q : Ds → Mm → List MV → Prop} : WP 176 47 [q0, q1, q2, q3, q4, (0, l5), q6, q7] [(2, s0)] ds m Q = (WP 176 49 [q0, q1, q2, q3, q4, (0, l5), q6, q7] [(0, l5), (2, s0)] ds m Q) := P_nx k176_47 rfl
set_option maxRecDepth 20000 in
theorem k176_49 : mjCode 176 49 = some (.iconst 1, 1, 0, 0) := by decide +kernel
theorem p176_49 {s0 s1 : Int} {q0 q1 q2 q3 q4 q5 q6 q7 : MV} {ds : Ds} {m : Mm} {Q : Ds → Mm → List MV → Prop} : WP 176 49 [q0, q1, q2, q3, q4, q5, q6, q7] [(0, s0), (2, s1)] ds m Q = (WP 176 50 [q0, q1, q2, q3, q4, q5, q6, q7] [(0, 1), (0, s0), (2, s1)] ds m Q) := P_nx k176_49 rfl
set_option maxRecDepth 20000 in
theorem k176_50 : mjCode 176 50 = some (.bastore, 1, 0, 0) := by decide +kernel
theorem p176_50 {s0 s1 s2 : Int} {q0 q1 q2 q3 q4 q5 q6 q7 : MV} {ds : Ds} {m : Mm} {Q : Ds → Mm → List MV → Prop} : WP 176 50 [q0, q1, q2, q3, q4, q5, q6, q7] [(0, s0), (0, s1), (2, s2)] ds m Q = (((s0 = 0 ∨ s0 = 1) ∧ dk ds s2 = 11 ∧ 0 ≤ s1 ∧ s1 < dl ds s2 ∧ WP 176 51 [q0, q1, q2, q3, q4, q5, q6, q7] [] ds (up m s2 s1 s0) Q)) := P_s4 k176_50 rfl
set_option maxRecDepth 20000 in
theorem k176_51 : mjCode 176 51 = some (.goto 10, 3, 61, 0) := by decide +kernel
theorem p176_51 {q0 q1 q2 q3 q4 q5 q6 q7 : MV} {ds : Ds} {m : Mm} {Q : Ds → Mm → List MV → Prop} : WP 176 51 [q0, q1, q2, q3, q4, q5, q6, q7] [] ds m Q = (WP 176 61 [q0, q1, q2, q3, q4, q5, q6, q7] [] ds m Q) := P_nx k176_51 rfl
set_option maxRecDepth 20000 in
theorem k176_54 : mjCode 176 54 = some (.aload_n 0, 1, 0, 0) := by decide +kernel
theorem p176_54 {l0 : Int} {q1 q2 q3 q4 q5 q6 q7 : MV} {ds : Ds} {m : Mm} {Q : Ds → Mm → List MV → Prop} : WP 176 54 [(2, l0), q1, q2, q3, q4, q5, q6, q7] [] ds m Q = (WP 176 55 [(2, l0), q1, q2, q3, q4, q5, q6, q7] [(2, l0)] ds m Q) := P_nx k176_54 rfl
set_option maxRecDepth 20000 in
theorem k176_55 : mjCode 176 55 = some (.iload_n 1, 1, 0, 0) := by decide +kernel
theorem p176_55 {l1 s0 : Int} {q0 q2 q3 q4 q5 q6 q7 : MV} {ds : Ds} {m : Mm} {Q : Ds → Mm → List MV → Prop} : WP 176 55 [q0, (0, l1), q2, q3, q4, q5, q6, q7] [(2, s0)] ds m Q = (WP 176 56 [q0, (0, l1), q2, q3, q4, q5, q6, q7] [(0, l1), (2, s0)] ds m Q) := P_nx k176_55 rfl
set_option maxRecDepth 20000 in
theorem k176_56 : mjCode 176 56 = some (.iload 5, 2, 0, 0) := by decide +kernel
theorem p176_56 {l5 s0 s1 : Int} {q0 q1 q2 q3 q4 q6 q7 : MV} {ds : Ds} {m : Mm} {Q : Ds → Mm → List MV → Prop} : WP 176 56 [q0, q1, q2, q3, q4, (0, l5), q6, q7] [(0, s0), (2, s1)] ds m Q = (WP 176 58 [q0, q1, q2, q3, q4, (0, l5), q6, q7] [(0, l5), (0, s0), (2, s1)] ds m Q) := P_nx k176_56 rfl
set_option maxRecDepth 20000 in
theorem k176_58 : mjCode 176 58 = some (.invokevirtual 272, 3, 176, 3) := by decide +kernel
theorem p176_58 {s0 s1 s2 : Int} {q0 q1 q2 q3 q4 q5 q6 q7 : MV} {ds : Ds} {m : Mm} {Q : Ds → Mm → List MV → Prop} : WP 176 58 [q0, q1, q2, q3, q4, q5, q6, q7] [(0, s0), (0, s1), (2, s2)] ds m Q = ((dk ds s2 = 7 ∧ WP 175 0 [(2, s2), (0, s1), (0, s0)] [] ds m (fun d2 m2 r2 => WP 176 61 [q0, q1, q2, q3, q4, q5, q6, q7] (r2 ++ []) d2 m2 Q))) := P_cv k176_58 mx175 mo175 rfl rfl rfl rfl rfl rfl rfl rfl
set_option maxRecDepth 20000 in
theorem k176_61 : mjCode 176 61 = some (.aload_n 0, 1, 0, 0) := by decide +kernel
theorem p176_61 {l0 : Int} {q1 q2 q3 q4 q5 q6 q7 : MV} {ds : Ds} {m : Mm} {Q : Ds → Mm → List MV → Prop} : WP 176 61 [(2, l0), q1, q2, q3, q4, q5, q6, q7] [] ds m Q = (WP 176 62 [(2, l0), q1, q2, q3, q4, q5, q6, q7] [(2, l0)] ds m Q) := P_nx k176_61 rfl
set_option maxRecDepth 20000 in
theorem k176_62 : mjCode 176 62 = some (.iconst 1, 1, 0, 0) := by decide +kernel
theorem p176_62 {s0 : Int} {q0 q1 q2 q3 q4 q5 q6 q7 : MV} {ds : Ds} {m : Mm} {Q : Ds → Mm → List MV → Prop} : WP 176 62 [q0, q1, q2, q3, q4, q5, q6, q7] [(2, s0)] ds m Q = (WP 176 63 [q0, q1, q2, q3, q4, q5, q6, q7] [(0, 1), (2, s0)] ds m Q) := P_nx k176_62 rfl
set_option maxRecDepth 20000 in
theorem k176_63 : mjCode 176 63 = some (.iload_n 3, 1, 0, 0) := by decide +kernel
theorem p176_63 {l3 s0 s1 : Int} {q0 q1 q2 q4 q5 q6 q7 : MV} {ds : Ds} {m : Mm} {Q : Ds → Mm → List MV → Prop} : WP 176 63 [q0, q1, q2, (0, l3), q4, q5, q6, q7] [(0, s0), (2, s1)] ds m Q = (WP 176 64 [q0, q1, q2, (0, l3), q4, q5, q6, q7] [(0, l3), (0, s0), (2, s1)] ds m Q) := P_nx k176_63 rfl
set_option maxRecDepth 20000 in
theorem k176_64 : mjCode 176 64 = some (.iload 4, 2, 0, 0) := by decide +kernel
theorem p176_64 {l4 s0 s1 s2 : Int} {q0 q1 q2 q3 q5 q6 q7 : MV} {ds : Ds} {m : Mm} {Q : Ds → Mm → List MV → Prop} : WP 176 64 [q0, q1, q2, q3, (0, l4), q5, q6, q7] [(0, s0), (0, s1), (2, s2)] ds m Q = (WP 176 66 [q0, q1, q2, q3, (0, l4), q5, q6, q7] [(0, l4), (0, s0), (0, s1), (2, s2)] ds m Q) := P_nx k176_64 rfl
set_option maxRecDepth 20000 in
theorem k176_66 : mjCode 176 66 = some (.invokevirtual 269, 3, 173, 4) := by decide +kernel
theorem p176_66 {s0 s1 s2 s3 : Int} {q0 q1 q2 q3 q4 q5 q6 q7 : MV} {ds : Ds} {m : Mm} {Q : Ds → Mm → List MV → Prop} : WP 176 66 [q0, q1, q2, q3, q4, q5, q6, q7] [(0, s0), (0, s1), (0, s2), (2, s3)] ds m Q = ((dk ds s3 = 7 ∧ WP 172 0 [(2, s3), (0, s2), (0, s1), (0, s0), (3, 0)] [] ds m (fun d2 m2 r2 => WP 176 69 [q0, q1, q2, q3, q4, q5, q6, q7] (r2 ++ []) d2 m2 Q))) := P_cv k176_66 mx172 mo172 rfl rfl rfl rfl rfl rfl rfl rfl
set_option maxRecDepth 20000 in
theorem k176_69 : mjCode 176 69 = some (.istore 7, 2, 0, 0) := by decide +kernel
theorem p176_69 {l6 s0 : Int} {q0 q1 q2 q3 q4 q5 q7 : MV} {ds : Ds} {m : Mm} {Q : Ds → Mm → List MV → Prop} : WP 176 69 [q0, q1, q2, q3, q4, q5, (0, l6), q7] [(0, s0)] ds m Q = (WP 176 71 [q0, q1, q2, q3, q4, q5, (0, l6), (0, s0)] [] ds m Q) := P_nx k176_69 rfl
set_option maxRecDepth 20000 in
theorem k176_71 : mjCode 176 71 = some (.iload 6, 2, 0, 0) := by decide +kernel
theorem p176_71 {l6 : Int} {q0 q1 q2 q3 q4 q5 q7 : MV} {ds : Ds} {m : Mm} {Q : Ds → Mm → List MV → Prop} : WP 176 71 [q0, q1, q2, q3, q4, q5, (0, l6), q7] [] ds m Q = (WP 176 73 [q0, q1, q2, q3, q4, q5, (0, l6), q7] [(0, l6)] ds m Q) := P_nx k176_71 rfl
set_option maxRecDepth 20000 in
theorem k176_73 : mjCode 176 73 = some (.ifCond .eq 21, 3, 94, 0) := by decide +kernel
theorem p176_73 {s0 : Int} {q0 q1 q2 q3 q4 q5 q6 q7 : MV} {ds : Ds} {m : Mm} {Q : Ds → Mm → List MV → Prop} : WP 176 73 [q0, q1, q2, q3, q4, q5, q6, q7] [(0, s0)] ds m Q = (if s0 = 0 then WP 176 94 [q0, q1, q2, q3, q4, q5, q6, q7] [] ds m Q else WP 176 76 [q0, q1, q2, q3, q4, q5, q6, q7] [] ds m Q) := P_if k176_73 rfl
set_option maxRecDepth 20000 in
theorem k176_76 : mjCode 176 76 = some (.aload_n 0, 1, 0, 0) := by decide +kernel
theorem p176_76 {l0 : Int} {q1 q2 q3 q4 q5 q6 q7 : MV} {ds : Ds} {m : Mm} {Q : Ds → Mm → List MV → Prop} : WP 176 76 [(2, l0), q1, q2, q3, q4, q5, q6, q7] [] ds m Q = (WP 176 77 [(2, l0), q1, q2, q3, q4, q5, q6, q7] [(2, l0)] ds m Q) := P_nx k176_76 rfl
set_option maxRecDepth 20000 in
theorem k176_77 : mjCode 176 77 = some (.getfield 25, 3, 7, 5) := by decide +kernel
theorem p176_77 {s0 : Int} {q0 q1 q2 q3 q4 q5 q6 q7 : MV} {ds : Ds} {m : Mm} {Q : Ds → Mm → List MV → Prop} : WP 176 77 [q0, q1, q2, q3, q4, q5, q6, q7] [(2, s0)] ds m Q = ((dk ds s0 = 7 ∧ WP 176 80 [q0, q1, q2, q3, q4, q5, q6, q7] [(2, m s0 5)] ds m Q)) := P_gd k176_77 rfl
set_option maxRecDepth 20000 in
theorem k176_80 : mjCode 176 80 = some (.iload 5, 2, 0, 0) := by decide +kernel
theorem p176_80 {l5 s0 : Int} {q0 q1 q2 q3 q4 q6 q7 : MV} {ds : Ds} {m : Mm} {Q : Ds → Mm → List MV → Prop} : WP 176 80 [q0, q1, q2, q3, q4, (0, l5), q6, q7] [(2, s0)] ds m Q = (WP 176 82 [q0, q1, q2, q3, q4, (0, l5), q6, q7] [(0, l5), (2, s0)] ds m Q) := P_nx k176_80 rfl
set_option maxRecDepth 20000 in
theorem k176_82 : mjCode 176 82 = some (.iconst 0, 1, 0, 0) := by decide +kernel
theorem p176_82 {s0 s1 : Int} {q0 q1 q2 q3 q4 q5 q6 q7 : MV} {ds : Ds} {m : Mm} {Q : Ds → Mm → List MV → Prop} : WP 176 82 [q0, q1, q2, q3, q4, q5, q6, q7] [(0, s0), (2, s1)] ds m Q = (WP 176 83 [q0, q1, q2, q3, q4, q5, q6, q7] [(0, 0), (0, s0), (2, s1)] ds m Q) := P_nx k176_82 rfl
set_option maxRecDepth 20000 in
theorem k176_83 : mjCode 176 83 = some (.bastore, 1, 0, 0) := by decide +kernel
theorem p176_83 {s0 s1 s2 : Int} {q0 q1 q2 q3 q4 q5 q6 q7 : MV} {ds : Ds} {m : Mm} {Q : Ds → Mm → List MV → Prop} : WP 176 83 [q0, q1, q2, q3, q4, q5, q6, q7] [(0, s0), (0, s1), (2, s2)] ds m Q = (((s0 = 0 ∨ s0 = 1) ∧ dk ds s2 = 11 ∧ 0 ≤ s1 ∧ s1 < dl ds s2 ∧ WP 176 84 [q0, q1, q2, q3, q4, q5, q6, q7] [] ds (up m s2 s1 s0) Q)) := P_s4 k176_83 rfl
set_option maxRecDepth 20000 in
theorem k176_84 : mjCode 176 84 = some (.aload_n 0, 1, 0, 0) := by decide +kernel
theorem p176_84 {l0 : Int} {q1 q2 q3 q4 q5 q6 q7 : MV} {ds : Ds} {m : Mm} {Q : Ds → Mm → List MV → Prop} : WP 176 84 [(2, l0), q1, q2, q3, q4, q5, q6, q7] [] ds m Q = (WP 176 85 [(2, l0), q1, q2, q3, q4, q5, q6, q7] [(2, l0)] ds m Q) := P_nx k176_84 rfl
set_option maxRecDepth 20000 in
theorem k176_85 : mjCode 176 85 = some (.getfield 25, 3, 7, 5) := by decide +kernel
theorem p176_85 {s0 : Int} {q0 q1 q2 q3 q4 q5 q6 q7 : MV} {ds : Ds} {m : Mm} {Q : Ds → Mm → List MV → Prop} : WP 176 85 [q0, q1, q2, q3, q4, q5, q6, q7] [(2, s0)] ds m Q = ((dk ds s0 = 7 ∧ WP 176 88 [q0, q1, q2, q3, q4, q5, q6, q7] [(2, m s0 5)] ds m Q)) := P_gd k176_85 rfl
set_option maxRecDepth 20000 in
theorem k176_88 : mjCode 176 88 = some (.iload_n 1, 1, 0, 0) := by decide +kernel
theorem p176_88 {l1 s0 : Int} {q0 q2 q3 q4 q5 q6 q7 : MV} {ds : Ds} {m : Mm} {Q : Ds → Mm → List MV → Prop} : WP 176 88 [q0, (0, l1), q2, q3, q4, q5, q6, q7] [(2, s0)] ds m Q = (WP 176 89 [q0, (0, l1), q2, q3, q4, q5, q6, q7] [(0, l1), (2, s0)] ds m Q) := P_nx k176_88 rfl
set_option maxRecDepth 20000 in
theorem k176_89 : mjCode 176 89 = some (.iconst 1, 1, 0, 0) := by decide +kernel
theorem p176_89 {s0 s1 : Int} {q0 q1 q2 q3 q4 q5 q6 q7 : MV} {ds : Ds} {m : Mm} {Q : Ds → Mm → List MV → Prop} : WP 176 89 [q0, q1, q2, q3, q4, q5, q6, q7] [(0, s0), (2, s1)] ds m Q = (WP 176 90 [q0, q1, q2, q3, q4, q5, q6, q7] [(0, 1), (0, s0), (2, s1)] ds m Q) := P_nx k176_89 rfl
set_option maxRecDepth 20000 in
theorem k176_90 : mjCode 176 90 = some (.bastore, 1, 0, 0) := by decide +kernel
theorem p176_90 {s0 s1 s2 : Int} {q0 q1 q2 q3 q4 q5 q6 q7 : MV} {ds : Ds} {m : Mm} {Q : Ds → Mm → List MV → Prop} : WP 176 90 [q0, q1, q2, q3, q4, q5, q6, q7] [(0, s0), (0, s1), (2, s2)] ds m Q = (((s0 = 0 ∨ s0 = 1) ∧ dk ds s2 = 11 ∧ 0 ≤ s1 ∧ s1 < dl ds s2 ∧ WP 176 91 [q0, q1, q2, q3, q4, q5, q6, q7] [] ds (up m s2 s1 s0) Q)) := P_s4 k176_90 rfl
set_option maxRecDepth 20000 in
theorem k176_91 : mjCode 176 91 = some (.goto 10, 3, 101, 0) := by decide +kernel
theorem p176_91 {q0 q1 q2 q3 q4 q5 q6 q7 : MV} {ds : Ds} {m : Mm} {Q : Ds → Mm → List MV → Prop} : WP 176 91 [q0, q1, q2, q3, q4, q5, q6, q7] [] ds m Q = (WP 176 101 [q0, q1, q2, q3, q4, q5, q6, q7] [] ds m Q) := P_nx k176_91 rfl
set_option maxRecDepth 20000 in
theorem k176_94 : mjCode 176 94 = some (.aload_n 0, 1, 0, 0) := by decide +kernel
theorem p176_94 {l0 : Int} {q1 q2 q3 q4 q5 q6 q7 : MV} {ds : Ds} {m : Mm} {Q : Ds → Mm → List MV → Prop} : WP 176 94 [(2, l0), q1, q2, q3, q4, q5, q6, q7] [] ds m Q = (WP 176 95 [(2, l0), q1, q2, q3, q4, q5, q6, q7] [(2, l0)] ds m Q) := P_nx k176_94 rfl
set_option maxRecDepth 20000 in
theorem k176_95 : mjCode 176 95 = some (.iload 5, 2, 0, 0) := by decide +kernel
theorem p176_95 {l5 s0 : Int} {q0 q1 q2 q3 q4 q6 q7 : MV} {ds : Ds} {m : Mm} {Q : Ds → Mm → List MV → Prop} : WP 176 95 [q0, q1, q2, q3, q4, (0, l5), q6, q7] [(2, s0)] ds m Q = (WP 176 97 [q0, q1, q2, q3, q4, (0, l5), q6, q7] [(0, l5), (2, s0)] ds m Q) := P_nx k176_95 rfl
set_option maxRecDepth 20000 in
theorem k176_97 : mjCode 176 97 = some (.iload_n 1, 1, 0, 0) := by decide +kernel
theorem p176_97 {l1 s0 s1 : Int} {q0 q2 q3 q4 q5 q6 q7 : MV} {ds : Ds} {m : Mm} {Q : Ds → Mm → List MV → Prop} : WP 176 97 [q0, (0, l1), q2, q3, q4, q5, q6, q7] [(0, s0), (2, s1)] ds m Q = (WP 176 98 [q0, (0, l1), q2, q3, q4, q5, q6, q7] [(0, l1), (0, s0), (2, s1)] ds m Q) := P_nx k176_97 rfl
set_option maxRecDepth 20000 in
theorem k176_98 : mjCode 176 98 = some (.invokevirtual 272, 3, 176, 3) := by decide +kernel
theorem p176_98 {s0 s1 s2 : Int} {q0 q1 q2 q3 q4 q5 q6 q7 : MV} {ds : Ds} {m : Mm} {Q : Ds → Mm → List MV → Prop} : WP 176 98 [q0, q1, q2, q3, q4, q5, q6, q7] [(0, s0), (0, s1), (2, s2)] ds m Q = ((dk ds s2 = 7 ∧ WP 175 0 [(2, s2), (0, s1), (0, s0)] [] ds m (fun d2 m2 r2 => WP 176 101 [q0, q1, q2, q3, q4, q5, q6, q7] (r2 ++ []) d2 m2 Q))) := P_cv k176_98 mx175 mo175 rfl rfl rfl rfl rfl rfl rfl rfl
set_option maxRecDepth 20000 in
theorem k176_101 : mjCode 176 101 = some (.iload 7, 2, 0, 0) := by decide +kernel
theorem p176_101 {l7 : Int} {q0 q1 q2 q3 q4 q5 q6 : MV} {ds : Ds} {m : Mm} {Q : Ds → Mm → List MV → Prop} : WP 176 101 [q0, q1, q2, q3, q4, q5, q6, (0, l7)] [] ds m Q = (WP 176 103 [q0, q1, q2, q3, q4, q5, q6, (0, l7)] [(0, l7)] ds m Q) := P_nx k176_101 rfl
set_option maxRecDepth 20000 in
theorem k176_103 : mjCode 176 103 = some (.ifCond .ne 39, 3, 142, 0) := by decide +kernel
theorem p176_103 {s0 : Int} {q0 q1 q2 q3 q4 q5 q6 q7 : MV} {ds : Ds} {m : Mm} {Q : Ds → Mm → List MV → Prop} : WP 176 103 [q0, q1, q2, q3, q4, q5, q6, q7] [(0, s0)] ds m Q = (if s0 = 0 then WP 176 106 [q0, q1, q2, q3, q4, q5, q6, q7] [] ds m Q else WP 176 142 [q0, q1, q2, q3, q4, q5, q6, q7] [] ds m Q) := P_if k176_103 rfl
set_option maxRecDepth 20000 in
theorem k176_106 : mjCode 176 106 = some (.aload_n 0, 1, 0, 0) := by decide +kernel
theorem p176_106 {l0 : Int} {q1 q2 q3 q4 q5 q6 q7 : MV} {ds : Ds} {m : Mm} {Q : Ds → Mm → List MV → Prop} : WP 176 106 [(2, l0), q1, q2, q3, q4, q5, q6, q7] [] ds m Q = (WP 176 107 [(2, l0), q1, q2, q3, q4, q5, q6, q7] [(2, l0)] ds m Q) := P_nx k176_106 rfl
set_option maxRecDepth 20000 in
theorem k176_107 : mjCode 176 107 = some (.getfield 129, 3, 7, 46) := by decide +kernel
theorem p176_107 {s0 : Int} {q0 q1 q2 q3 q4 q5 q6 q7 : MV} {ds : Ds} {m : Mm} {Q : Ds → Mm → List MV → Prop} : WP 176 107 [q0, q1, q2, q3, q4, q5, q6, q7] [(2, s0)] ds m Q = ((dk ds s0 = 7 ∧ WP 176 110 [q0, q1, q2, q3, q4, q5, q6, q7] [(2, m s0 46)] ds m Q)) := P_gd k176_107 rfl
set_option maxRecDepth 20000 in
theorem k176_110 : mjCode 176 110 = some (.aload_n 0, 1, 0, 0) := by decide +kernel
theorem p176_110 {l0 s0 : Int} {q1 q2 q3 q4 q5 q6 q7 : MV} {ds : Ds} {m : Mm} {Q : Ds → Mm → List MV → Prop} : WP 176 110 [(2, l0), q1, q2, q3, q4, q5, q6, q7] [(2, s0)] ds m Q = (WP 176 111 [(2, l0), q1, q2, q3, q4, q5, q6, q7] [(2, l0), (2, s0)] ds m Q) := P_nx k176_110 rfl
set_option maxRecDepth 20000 in
theorem k176_111 : mjCode 176 111 = some (.getfield 276, 3, 7, 47) := by decide +kernel
theorem p176_111 {s0 s1 : Int} {q0 q1 q2 q3 q4 q5 q6 q7 : MV} {ds : Ds} {m : Mm} {Q : Ds → Mm → List MV → Prop} : WP 176 111 [q0, q1, q2, q3, q4, q5, q6, q7] [(2, s0), (2, s1)] ds m Q = ((dk ds s0 = 7 ∧ WP 176 114 [q0, q1, q2, q3, q4, q5, q6, q7] [(0, m s0 47), (2, s1)] ds m Q)) := P_gd k176_111 rfl
set_option maxRecDepth 20000 in
theorem k176_114 : mjCode 176 114 = some (.bipush 8, 2, 0, 0) := by decide +kernel
theorem p176_114 {s0 s1 : Int} {q0 q1 q2 q3 q4 q5 q6 q7 : MV} {ds : Ds} {m : Mm} {Q : Ds → Mm → List MV → Prop} : WP 176 114 [q0, q1, q2, q3, q4, q5, q6, q7] [(0, s0), (2, s1)] ds m Q = (WP 176 116 [q0, q1, q2, q3, q4, q5, q6, q7] [(0, 8), (0, s0), (2, s1)] ds m Q) := P_nx k176_114 rfl
set_option maxRecDepth 20000 in
theorem k176_116 : mjCode 176 116 = some (.iload_n 1, 1, 0, 0) := by decide +kernel
theorem p176_116 {l1 s0 s1 s2 : Int} {q0 q2 q3 q4 q5 q6 q7 : MV} {ds : Ds} {m : Mm} {Q : Ds → Mm → List MV → Prop} : WP 176 116 [q0, (0, l1), q2, q3, q4, q5, q6, q7] [(0, s0), (0, s1), (2, s2)] ds m Q = (WP 176 117 [q0, (0, l1), q2, q3, q4, q5, q6, q7] [(0, l1), (0, s0), (0, s1), (2, s2)] ds m Q) := P_nx k176_116 rfl
set_option maxRecDepth 20000 in
theorem k176_117 : mjCode 176 117 = some (.imul, 1, 0, 0) := by decide +kernel
theorem p176_117 {s0 s1 s2 s3 : Int} {q0 q1 q2 q3 q4 q5 q6 q7 : MV} {ds : Ds} {m : Mm} {Q : Ds → Mm → List MV → Prop} : WP 176 117 [q0, q1, q2, q3, q4, q5, q6, q7] [(0, s0), (0, s1), (0, s2), (2, s3)] ds m Q = (WP 176 118 [q0, q1, q2, q3, q4, q5, q6, q7] [(0, w32 (s1 * s0)), (0, s2), (2, s3)] ds m Q) := P_nx k176_117 rfl
set_option maxRecDepth 20000 in
theorem k176_118 : mjCode 176 118 = some (.iload 6, 2, 0, 0) := by decide +kernel
theorem p176_118 {l6 s0 s1 s2 : Int} {q0 q1 q2 q3 q4 q5 q7 : MV} {ds : Ds} {m : Mm} {Q : Ds → Mm → List MV → Prop} : WP 176 118 [q0, q1, q2, q3, q4, q5, (0, l6), q7] [(0, s0), (0, s1), (2, s2)] ds m Q = (WP 176 120 [q0, q1, q2, q3, q4, q5, (0, l6), q7] [(0, l6), (0, s0), (0, s1), (2, s2)] ds m Q) := P_nx k176_118 rfl
set_option maxRecDepth 20000 in
theorem k176_120 : mjCode 176 120 = some (.ifCond .eq 7, 3, 127, 0) := by decide +kernel
theorem p176_120 {s0 s1 s2 s3 : Int} {q0 q1 q2 q3 q4 q5 q6 q7 : MV} {ds : Ds} {m : Mm} {Q : Ds → Mm → List MV → Prop} : WP 176 120 [q0, q1, q2, q3, q4, q5, q6, q7] [(0, s0), (0, s1), (0, s2), (2, s3)] ds m Q = (if s0 = 0 then WP 176 127 [q0, q1, q2, q3, q4, q5, q6, q7] [(0, s1), (0, s2), (2, s3)] ds m Q else WP 176 123 [q0, q1, q2, q3, q4, q5, q6, q7] [(0, s1), (0, s2), (2, s3)] ds m Q) := P_if k176_120 rfl
set_option maxRecDepth 20000 in
theorem k176_123 : mjCode 176 123 = some (.iconst 4, 1, 0, 0) := by decide +kernel
theorem p176_123 {s0 s1 s2 : Int} {q0 q1 q2 q3 q4 q5 q6 q7 : MV} {ds : Ds} {m : Mm} {Q : Ds → Mm → List MV → Prop} : WP 176 123 [q0, q1, q2, q3, q4, q5, q6, q7] [(0, s0), (0, s1), (2, s2)] ds m Q = (WP 176 124 [q0, q1, q2, q3, q4, q5, q6, q7] [(0, 4), (0, s0), (0, s1), (2, s2)] ds m Q) := P_nx k176_123 rfl
set_option maxRecDepth 20000 in
theorem k176_124 : mjCode 176 124 = some (.goto 4, 3, 128, 0) := by decide +kernel
theorem p176_124 {s0 s1 s2 s3 : Int} {q0 q1 q2 q3 q4 q5 q6 q7 : MV} {ds : Ds} {m : Mm} {Q : Ds → Mm → List MV → Prop} : WP 176 124 [q0, q1, q2, q3, q4, q5, q6, q7] [(0, s0), (0, s1), (0, s2), (2, s3)] ds m Q = (WP 176 128 [q0, q1, q2, q3, q4, q5, q6, q7] [(0, s0), (0, s1), (0, s2), (2, s3)] ds m Q) := P_nx k176_124 rfl
set_option maxRecDepth 20000 in
theorem k176_127 : mjCode 176 127 = some (.iconst 0, 1, 0, 0) := by decide +kernel
theorem p176_127 {s0 s1 s2 : Int} {q0 q1 q2 q3 q4 q5 q6 q7 : MV} {ds : Ds} {m : Mm} {Q : Ds → Mm → List MV → Prop} : WP 176 127 [q0, q1, q2, q3, q4, q5, q6, q7] [(0, s0), (0, s1), (2, s2)] ds m Q = (WP 176 128 [q0, q1, q2, q3, q4, q5, q6, q7] [(0, 0), (0, s0), (0, s1), (2, s2)] ds m Q) := P_nx k176_127 rfl
set_option maxRecDepth 20000 in
theorem k176_128 : mjCode 176 128 = some (.iadd, 1, 0, 0) := by decide +kernel
theorem p176_128 {s0 s1 s2 s3 : Int} {q0 q1 q2 q3 q4 q5 q6 q7 : MV} {ds : Ds} {m : Mm} {Q : Ds → Mm → List MV → Prop} : WP 176 128 [q0, q1, q2, q3, q4, q5, q6, q7] [(0, s0), (0, s1), (0, s2), (2, s3)] ds m Q = (WP 176 129 [q0, q1, q2, q3, q4, q5, q6, q7] [(0, w32 (s1 + s0)), (0, s2), (2, s3)] ds m Q) := P_nx k176_128 rfl
set_option maxRecDepth 20000 in
theorem k176_129 : mjCode 176 129 = some (.iload_n 2, 1, 0, 0) := by decide +kernel
theorem p176_129 {l2 s0 s1 s2 : Int} {q0 q1 q3 q4 q5 q6 q7 : MV} {ds : Ds} {m : Mm} {Q : Ds → Mm → List MV → Prop} : WP 176 129 [q0, q1, (0, l2), q3, q4, q5, q6, q7] [(0, s0), (0, s1), (2, s2)] ds m Q = (WP 176 130 [q0, q1, (0, l2), q3, q4, q5, q6, q7] [(0, l2), (0, s0), (0, s1), (2, s2)] ds m Q) := P_nx k176_129 rfl
set_option maxRecDepth 20000 in
theorem k176_130 : mjCode 176 130 = some (.iadd, 1, 0, 0) := by decide +kernel
theorem p176_130 {s0 s1 s2 s3 : Int} {q0 q1 q2 q3 q4 q5 q6 q7 : MV} {ds : Ds} {m : Mm} {Q : Ds → Mm → List MV → Prop} : WP 176 130 [q0, q1, q2, q3, q4, q5, q6, q7] [(0, s0), (0, s1), (0, s2), (2, s3)] ds m Q = (WP 176 131 [q0, q1, q2, q3, q4, q5, q6, q7] [(0, w32 (s1 + s0)), (0, s2), (2, s3)] ds m Q) := P_nx k176_130 rfl
set_option maxRecDepth 20000 in
theorem k176_131 : mjCode 176 131 = some (.iastore, 1, 0, 0) := by decide +kernel
theorem p176_131 {s0 s1 s2 : Int} {q0 q1 q2 q3 q4 q5 q6 q7 : MV} {ds : Ds} {m : Mm} {Q : Ds → Mm → List MV → Prop} : WP 176 131 [q0, q1, q2, q3, q4, q5, q6, q7] [(0, s0), (0, s1), (2, s2)] ds m Q = ((dk ds s2 = 10 ∧ 0 ≤ s1 ∧ s1 < dl ds s2 ∧ WP 176 132 [q0, q1, q2, q3, q4, q5, q6, q7] [] ds (up m s2 s1 s0) Q)) := P_s3 k176_131 rfl
set_option maxRecDepth 20000 in
theorem k176_132 : mjCode 176 132 = some (.aload_n 0, 1, 0, 0) := by decide +kernel
theorem p176_132 {l0 : Int} {q1 q2 q3 q4 q5 q6 q7 : MV} {ds : Ds} {m : Mm} {Q : Ds → Mm → List MV → Prop} : WP 176 132 [(2, l0), q1, q2, q3, q4, q5, q6, q7] [] ds m Q = (WP 176 133 [(2, l0), q1, q2, q3, q4, q5, q6, q7] [(2, l0)] ds m Q) := P_nx k176_132 rfl
set_option maxRecDepth 20000 in
theorem k176_133 : mjCode 176 133 = some (.dup, 1, 0, 0) := by decide +kernel
theorem p176_133 {s0 : Int} {q0 q1 q2 q3 q4 q5 q6 q7 : MV} {ds : Ds} {m : Mm} {Q : Ds → Mm → List MV → Prop} : WP 176 133 [q0, q1, q2, q3, q4, q5, q6, q7] [(2, s0)] ds m Q = (WP 176 134 [q0, q1, q2, q3, q4, q5, q6, q7] [(2, s0), (2, s0)] ds m Q) := P_nx k176_133 rfl
set_option maxRecDepth 20000 in
theorem k176_134 : mjCode 176 134 = some (.getfield 276, 3, 7, 47) := by decide +kernel
theorem p176_134 {s0 s1 : Int} {q0 q1 q2 q3 q4 q5 q6 q7 : MV} {ds : Ds} {m : Mm} {Q : Ds → Mm → List MV → Prop} : WP 176 134 [q0, q1, q2, q3, q4, q5, q6, q7] [(2, s0), (2, s1)] ds m Q = ((dk ds s0 = 7 ∧ WP 176 137 [q0, q1, q2, q3, q4, q5, q6, q7] [(0, m s0 47), (2, s1)] ds m Q)) := P_gd k176_134 rfl
set_option maxRecDepth 20000 in
theorem k176_137 : mjCode 176 137 = some (.iconst 1, 1, 0, 0) := by decide +kernel
theorem p176_137 {s0 s1 : Int} {q0 q1 q2 q3 q4 q5 q6 q7 : MV} {ds : Ds} {m : Mm} {Q : Ds → Mm → List MV → Prop} : WP 176 137 [q0, q1, q2, q3, q4, q5, q6, q7] [(0, s0), (2, s1)] ds m Q = (WP 176 138 [q0, q1, q2, q3, q4, q5, q6, q7] [(0, 1), (0, s0), (2, s1)] ds m Q) := P_nx k176_137 rfl
set_option maxRecDepth 20000 in
theorem k176_138 : mjCode 176 138 = some (.iadd, 1, 0, 0) := by decide +kernel
theorem p176_138 {s0 s1 s2 : Int} {q0 q1 q2 q3 q4 q5 q6 q7 : MV} {ds : Ds} {m : Mm} {Q : Ds → Mm → List MV → Prop} : WP 176 138 [q0, q1, q2, q3, q4, q5, q6, q7] [(0, s0), (0, s1), (2, s2)] ds m Q = (WP 176 139 [q0, q1, q2, q3, q4, q5, q6, q7] [(0, w32 (s1 + s0)), (2, s2)] ds m Q) := P_nx k176_138 rfl
set_option maxRecDepth 20000 in
theorem k176_139 : mjCode 176 139 = some (.putfield 276, 3, 7, 47) := by decide +kernel
theorem p176_139 {s0 s1 : Int} {q0 q1 q2 q3 q4 q5 q6 q7 : MV} {ds : Ds} {m : Mm} {Q : Ds → Mm → List MV → Prop} : WP 176 139 [q0, q1, q2, q3, q4, q5, q6, q7] [(0, s0), (2, s1)] ds m Q = ((dk ds s1 = 7 ∧ WP 176 142 [q0, q1, q2, q3, q4, q5, q6, q7] [] ds (up m s1 47 s0) Q)) := P_pf k176_139 rfl
set_option maxRecDepth 20000 in
theorem k176_142 : mjCode 176 142 = some (.return_, 1, 0, 0) := by decide +kernel
theorem p176_142 {q0 q1 q2 q3 q4 q5 q6 q7 : MV} {ds : Ds} {m : Mm} {Q : Ds → Mm → List MV → Prop} : WP 176 142 [q0, q1, q2, q3, q4, q5, q6, q7] [] ds m Q = (Q ds m []) := P_rv k176_142 rk176
set_option maxRecDepth 20000 in
theorem k177_0 : mjCode 177 0 = some (.aload_n 0, 1, 0, 0) := by decide +kernel
theorem p177_0 {l0 : Int} {q1 q2 q3 q4 : MV} {ds : Ds} {m : Mm} {Q : Ds → Mm → List MV → Prop} : WP 177 0 [(2, l0), q1, q2, q3, q4] [] ds m Q = (WP 177 1 [(2, l0), q1, q2, q3, q4] [(2, l0)] ds m Q) := P_nx k177_0 rfl
set_option maxRecDepth 20000 in
theorem k177_1 : mjCode 177 1 = some (.iconst 0, 1, 0, 0) := by decide +kernel
theorem p177_1 {s0 : Int} {q0 q1 q2 q3 q4 : MV} {ds : Ds} {m : Mm} {Q : Ds → Mm → List MV → Prop} : WP 177 1 [q0, q1, q2, q3, q4] [(2, s0)] ds m Q = (WP 177 2 [q0, q1, q2, q3, q4] [(0, 0), (2, s0)] ds m Q) := P_nx k177_1 rfl
set_option maxRecDepth 20000 in
theorem k177_2 : mjCode 177 2 = some (.putfield 276, 3, 7, 47) := by decide +kernel
theorem p177_2 {s0 s1 : Int} {q0 q1 q2 q3 q4 : MV} {ds : Ds} {m : Mm} {Q : Ds → Mm → List MV → Prop} : WP 177 2 [q0, q1, q2, q3, q4] [(0, s0), (2, s1)] ds m Q = ((dk ds s1 = 7 ∧ WP 177 5 [q0, q1, q2, q3, q4] [] ds (up m s1 47 s0) Q)) := P_pf k177_2 rfl
set_option maxRecDepth 20000 in
theorem k177_5 : mjCode 177 5 = some (.aload_n 0, 1, 0, 0) := by decide +kernel
theorem p177_5 {l0 : Int} {q1 q2 q3 q4 : MV} {ds : Ds} {m : Mm} {Q : Ds → Mm → List MV → Prop} : WP 177 5 [(2, l0), q1, q2, q3, q4] [] ds m Q = (WP 177 6 [(2, l0), q1, q2, q3, q4] [(2, l0)] ds m Q) := P_nx k177_5 rfl
set_option maxRecDepth 20000 in
theorem k177_6 : mjCode 177 6 = some (.iload_n 1, 1, 0, 0) := by decide +kernel
theorem p177_6 {l1 s0 : Int} {q0 q2 q3 q4 : MV} {ds : Ds} {m : Mm} {Q : Ds → Mm → List MV → Prop} : WP 177 6 [q0, (0, l1), q2, q3, q4] [(2, s0)] ds m Q = (WP 177 7 [q0, (0, l1), q2, q3, q4] [(0, l1), (2, s0)] ds m Q) := P_nx k177_6 rfl
set_option maxRecDepth 20000 in
theorem k177_7 : mjCode 177 7 = some (.iload_n 2, 1, 0, 0) := by decide +kernel
theorem p177_7 {l2 s0 s1 : Int} {q0 q1 q3 q4 : MV} {ds : Ds} {m : Mm} {Q : Ds → Mm → List MV → Prop} : WP 177 7 [q0, q1, (0, l2), q3, q4] [(0, s0), (2, s1)] ds m Q = (WP 177 8 [q0, q1, (0, l2), q3, q4] [(0, l2), (0, s0), (2, s1)] ds m Q) := P_nx k177_7 rfl
set_option maxRecDepth 20000 in
theorem k177_8 : mjCode 177 8 = some (.invokevirtual 279, 3, 175, 3) := by decide +kernel
theorem p177_8 {s0 s1 s2 : Int} {q0 q1 q2 q3 q4 : MV} {ds : Ds} {m : Mm} {Q : Ds → Mm → List MV → Prop} : WP 177 8 [q0, q1, q2, q3, q4] [(0, s0), (0, s1), (2, s2)] ds m Q = ((dk ds s2 = 7 ∧ WP 174 0 [(2, s2), (0, s1), (0, s0)] [] ds m (fun d2 m2 r2 => WP 177 11 [q0, q1, q2, q3, q4] (r2 ++ []) d2 m2 Q))) := P_cv k177_8 mx174 mo174 rfl rfl rfl rfl rfl rfl rfl rfl
set_option maxRecDepth 20000 in
theorem k177_11 : mjCode 177 11 = some (.ifCond .ne 5, 3, 16, 0) := by decide +kernel
theorem p177_11 {s0 : Int} {q0 q1 q2 q3 q4 : MV} {ds : Ds} {m : Mm} {Q : Ds → Mm → List MV → Prop} : WP 177 11 [q0, q1, q2, q3, q4] [(0, s0)] ds m Q = (if s0 = 0 then WP 177 14 [q0, q1, q2, q3, q4] [] ds m Q else WP 177 16 [q0, q1, q2, q3, q4] [] ds m Q) := P_if k177_11 rfl
set_option maxRecDepth 20000 in
theorem k177_14 : mjCode 177 14 = some (.iconst (-1), 1, 0, 0) := by decide +kernel
theorem p177_14 {q0 q1 q2 q3 q4 : MV} {ds : Ds} {m : Mm} {Q : Ds → Mm → List MV → Prop} : WP 177 14 [q0, q1, q2, q3, q4] [] ds m Q = (WP 177 15 [q0, q1, q2, q3, q4] [(0, (-1))] ds m Q) := P_nx k177_14 rfl
set_option maxRecDepth 20000 in
theorem k177_15 : mjCode 177 15 = some (.ireturn, 1, 0, 0) := by decide +kernel
theorem p177_15 {s0 : Int} {q0 q1 q2 q3 q4 : MV} {ds : Ds} {m : Mm} {Q : Ds → Mm → List MV → Prop} : WP 177 15 [q0, q1, q2, q3, q4] [(0, s0)] ds m Q = (Q ds m [(0, s0)]) := P_ri k177_15 rk177
set_option maxRecDepth 20000 in
theorem k177_16 : mjCode 177 16 = some (.iconst 0, 1, 0, 0) := by decide +kernel
theorem p177_16 {q0 q1 q2 q3 q4 : MV} {ds : Ds} {m : Mm} {Q : Ds → Mm → List MV → Prop} : WP 177 16 [q0, q1, q2, q3, q4] [] ds m Q = (WP 177 17 [q0, q1, q2, q3, q4] [(0, 0)] ds m Q) := P_nx k177_16 rfl
set_option maxRecDepth 20000 in
theorem k177_17 : mjCode 177 17 = some (.istore_n 3, 1, 0, 0) := by decide +kernel
theorem p177_17 {l2 s0 : Int} {q0 q1 q3 q4 : MV} {ds : Ds} {m : Mm} {Q : Ds → Mm → List MV → Prop} : WP 177 17 [q0, q1, (0, l2), q3, q4] [(0, s0)] ds m Q = (WP 177 18 [q0, q1, (0, l2), (0, s0), q4] [] ds m Q) := P_nx k177_17 rfl
set_option maxRecDepth 20000 in
theorem k177_18 : mjCode 177 18 = some (.iload_n 3, 1, 0, 0) := by decide +kernel
theorem p177_18 {l3 : Int} {q0 q1 q2 q4 : MV} {ds : Ds} {m : Mm} {Q : Ds → Mm → List MV → Prop} : WP 177 18 [q0, q1, q2, (0, l3), q4] [] ds m Q = (WP 177 19 [q0, q1, q2, (0, l3), q4] [(0, l3)] ds m Q) := P_nx k177_18 rfl
set_option maxRecDepth 20000 in
theorem k177_19 : mjCode 177 19 = some (.bipush 96, 2, 0, 0) := by decide +kernel
theorem p177_19 {s0 : Int} {q0 q1 q2 q3 q4 : MV} {ds : Ds} {m : Mm} {Q : Ds → Mm → List MV → Prop} : WP 177 19 [q0, q1, q2, q3, q4] [(0, s0)] ds m Q = (WP 177 21 [q0, q1, q2, q3, q4] [(0, 96), (0, s0)] ds m Q) := P_nx k177_19 rfl
set_option maxRecDepth 20000 in
theorem k177_21 : mjCode 177 21 = some (.if_icmp .ge 62, 3, 83, 0) := by decide +kernel
theorem p177_21 {s0 s1 : Int} {q0 q1 q2 q3 q4 : MV} {ds : Ds} {m : Mm} {Q : Ds → Mm → List MV → Prop} : WP 177 21 [q0, q1, q2, q3, q4] [(0, s0), (0, s1)] ds m Q = (if s1 < s0 then WP 177 24 [q0, q1, q2, q3, q4] [] ds m Q else WP 177 83 [q0, q1, q2, q3, q4] [] ds m Q) := P_if k177_21 rfl
set_option maxRecDepth 20000 in
theorem k177_24 : mjCode 177 24 = some (.iconst 0, 1, 0, 0) := by decide +kernel
theorem p177_24 {q0 q1 q2 q3 q4 : MV} {ds : Ds} {m : Mm} {Q : Ds → Mm → List MV → Prop} : WP 177 24 [q0, q1, q2, q3, q4] [] ds m Q = (WP 177 25 [q0, q1, q2, q3, q4] [(0, 0)] ds m Q) := P_nx k177_24 rfl
set_option maxRecDepth 20000 in
theorem k177_25 : mjCode 177 25 = some (.istore 4, 2, 0, 0) := by decide +kernel
theorem p177_25 {l3 s0 : Int} {q0 q1 q2 q4 : MV} {ds : Ds} {m : Mm} {Q : Ds → Mm → List MV → Prop} : WP 177 25 [q0, q1, q2, (0, l3), q4] [(0, s0)] ds m Q = (WP 177 27 [q0, q1, q2, (0, l3), (0, s0)] [] ds m Q) := P_nx k177_25 rfl
set_option maxRecDepth 20000 in
theorem k177_27 : mjCode 177 27 = some (.iload 4, 2, 0, 0) := by decide +kernel
theorem p177_27 {l4 : Int} {q0 q1 q2 q3 : MV} {ds : Ds} {m : Mm} {Q : Ds → Mm → List MV → Prop} : WP 177 27 [q0, q1, q2, q3, (0, l4)] [] ds m Q = (WP 177 29 [q0, q1, q2, q3, (0, l4)] [(0, l4)] ds m Q) := P_nx k177_27 rfl
set_option maxRecDepth 20000 in
theorem k177_29 : mjCode 177 29 = some (.iconst 4, 1, 0, 0) := by decide +kernel
theorem p177_29 {s0 : Int} {q0 q1 q2 q3 q4 : MV} {ds : Ds} {m : Mm} {Q : Ds → Mm → List MV → Prop} : WP 177 29 [q0, q1, q2, q3, q4] [(0, s0)] ds m Q = (WP 177 30 [q0, q1, q2, q3, q4] [(0, 4), (0, s0)] ds m Q) := P_nx k177_29 rfl
set_option maxRecDepth 20000 in
theorem k177_30 : mjCode 177 30 = some (.if_icmp .ge 47, 3, 77, 0) := by decide +kernel
theorem p177_30 {s0 s1 : Int} {q0 q1 q2 q3 q4 : MV} {ds : Ds} {m : Mm} {Q : Ds → Mm → List MV → Prop} : WP 177 30 [q0, q1, q2, q3, q4] [(0, s0), (0, s1)] ds m Q = (if s1 < s0 then WP 177 33 [q0, q1, q2, q3, q4] [] ds m Q else WP 177 77 [q0, q1, q2, q3, q4] [] ds m Q) := P_if k177_30 rfl
set_option maxRecDepth 20000 in
theorem k177_33 : mjCode 177 33 = some (.aload_n 0, 1, 0, 0) := by decide +kernel
theorem p177_33 {l0 : Int} {q1 q2 q3 q4 : MV} {ds : Ds} {m : Mm} {Q : Ds → Mm → List MV → Prop} : WP 177 33 [(2, l0), q1, q2, q3, q4] [] ds m Q = (WP 177 34 [(2, l0), q1, q2, q3, q4] [(2, l0)] ds m Q) := P_nx k177_33 rfl
set_option maxRecDepth 20000 in
theorem k177_34 : mjCode 177 34 = some (.getfield 25, 3, 7, 5) := by decide +kernel
theorem p177_34 {s0 : Int} {q0 q1 q2 q3 q4 : MV} {ds : Ds} {m : Mm} {Q : Ds → Mm → List MV → Prop} : WP 177 34 [q0, q1, q2, q3, q4] [(2, s0)] ds m Q = ((dk ds s0 = 7 ∧ WP 177 37 [q0, q1, q2, q3, q4] [(2, m s0 5)] ds m Q)) := P_gd k177_34 rfl
set_option maxRecDepth 20000 in
theorem k177_37 : mjCode 177 37 = some (.iload_n 3, 1, 0, 0) := by decide +kernel
theorem p177_37 {l3 s0 : Int} {q0 q1 q2 q4 : MV} {ds : Ds} {m : Mm} {Q : Ds → Mm → List MV → Prop} : WP 177 37 [q0, q1, q2, (0, l3), q4] [(2, s0)] ds m Q = (WP 177 38 [q0, q1, q2, (0, l3), q4] [(0, l3), (2, s0)] ds m Q) := P_nx k177_37 rfl
set_option maxRecDepth 20000 in
theorem k177_38 : mjCode 177 38 = some (.baload, 1, 0, 0) := by decide +kernel
theorem p177_38 {s0 s1 : Int} {q0 q1 q2 q3 q4 : MV} {ds : Ds} {m : Mm} {Q : Ds → Mm → List MV → Prop} : WP 177 38 [q0, q1, q2, q3, q4] [(0, s0), (2, s1)] ds m Q = ((dk ds s1 = 11 ∧ 0 ≤ s0 ∧ s0 < dl ds s1 ∧ WP 177 39 [q0, q1, q2, q3, q4] [(0, m s1 s0)] ds m Q)) := P_g3 k177_38 rfl
set_option maxRecDepth 20000 in
theorem k177_39 : mjCode 177 39 = some (.ifCond .ne 23, 3, 62, 0) := by decide +kernel
theorem p177_39 {s0 : Int} {q0 q1 q2 q3 q4 : MV} {ds : Ds} {m : Mm} {Q : Ds → Mm → List MV → Prop} : WP 177 39 [q0, q1, q2, q3, q4] [(0, s0)] ds m Q = (if s0 = 0 then WP 177 42 [q0, q1, q2, q3, q4] [] ds m Q else WP 177 62 [q0, q1, q2, q3, q4] [] ds m Q) := P_if k177_39 rfl
set_option maxRecDepth 20000 in
theorem k177_42 : mjCode 177 42 = some (.aload_n 0, 1, 0, 0) := by decide +kernel
theorem p177_42 {l0 : Int} {q1 q2 q3 q4 : MV} {ds : Ds} {m : Mm} {Q : Ds → Mm → List MV → Prop} : WP 177 42 [(2, l0), q1, q2, q3, q4] [] ds m Q = (WP 177 43 [(2, l0), q1, q2, q3, q4] [(2, l0)] ds m Q) := P_nx k177_42 rfl
set_option maxRecDepth 20000 in
theorem k177_43 : mjCode 177 43 = some (.getfield 13, 3, 7, 1) := by decide +kernel
theorem p177_43 {s0 : Int} {q0 q1 q2 q3 q4 : MV} {ds : Ds} {m : Mm} {Q : Ds → Mm → List MV → Prop} : WP 177 43 [q0, q1, q2, q3, q4] [(2, s0)] ds m Q = ((dk ds s0 = 7 ∧ WP 177 46 [q0, q1, q2, q3, q4] [(2, m s0 1)] ds m Q)) := P_gd k177_43 rfl
set_option maxRecDepth 20000 in
theorem k177_46 : mjCode 177 46 = some (.iload_n 3, 1, 0, 0) := by decide +kernel
theorem p177_46 {l3 s0 : Int} {q0 q1 q2 q4 : MV} {ds : Ds} {m : Mm} {Q : Ds → Mm → List MV → Prop} : WP 177 46 [q0, q1, q2, (0, l3), q4] [(2, s0)] ds m Q = (WP 177 47 [q0, q1, q2, (0, l3), q4] [(0, l3), (2, s0)] ds m Q) := P_nx k177_46 rfl
set_option maxRecDepth 20000 in
theorem k177_47 : mjCode 177 47 = some (.iaload, 1, 0, 0) := by decide +kernel
theorem p177_47 {s0 s1 : Int} {q0 q1 q2 q3 q4 : MV} {ds : Ds} {m : Mm} {Q : Ds → Mm → List MV → Prop} : WP 177 47 [q0, q1, q2, q3, q4] [(0, s0), (2, s1)] ds m Q = ((dk ds s1 = 10 ∧ 0 ≤ s0 ∧ s0 < dl ds s1 ∧ WP 177 48 [q0, q1, q2, q3, q4] [(0, m s1 s0)] ds m Q)) := P_g3 k177_47 rfl
set_option maxRecDepth 20000 in
theorem k177_48 : mjCode 177 48 = some (.ifCond .eq 23, 3, 71, 0) := by decide +kernel
theorem p177_48 {s0 : Int} {q0 q1 q2 q3 q4 : MV} {ds : Ds} {m : Mm} {Q : Ds → Mm → List MV → Prop} : WP 177 48 [q0, q1, q2, q3, q4] [(0, s0)] ds m Q = (if s0 = 0 then WP 177 71 [q0, q1, q2, q3, q4] [] ds m Q else WP 177 51 [q0, q1, q2, q3, q4] [] ds m Q) := P_if k177_48 rfl
set_option maxRecDepth 20000 in
theorem k177_51 : mjCode 177 51 = some (.aload_n 0, 1, 0, 0) := by decide +kernel
theorem p177_51 {l0 : Int} {q1 q2 q3 q4 : MV} {ds : Ds} {m : Mm} {Q : Ds → Mm → List MV → Prop} : WP 177 51 [(2, l0), q1, q2, q3, q4] [] ds m Q = (WP 177 52 [(2, l0), q1, q2, q3, q4] [(2, l0)] ds m Q) := P_nx k177_51 rfl
set_option maxRecDepth 20000 in
theorem k177_52 : mjCode 177 52 = some (.getfield 13, 3, 7, 1) := by decide +kernel
theorem p177_52 {s0 : Int} {q0 q1 q2 q3 q4 : MV} {ds : Ds} {m : Mm} {Q : Ds → Mm → List MV → Prop} : WP 177 52 [q0, q1, q2, q3, q4] [(2, s0)] ds m Q = ((dk ds s0 = 7 ∧ WP 177 55 [q0, q1, q2, q3, q4] [(2, m s0 1)] ds m Q)) := P_gd k177_52 rfl
set_option maxRecDepth 20000 in
theorem k177_55 : mjCode 177 55 = some (.iload_n 3, 1, 0, 0) := by decide +kernel
theorem p177_55 {l3 s0 : Int} {q0 q1 q2 q4 : MV} {ds : Ds} {m : Mm} {Q : Ds → Mm → List MV → Prop} : WP 177 55 [q0, q1, q2, (0, l3), q4] [(2, s0)] ds m Q = (WP 177 56 [q0, q1, q2, (0, l3), q4] [(0, l3), (2, s0)] ds m Q) := P_nx k177_55 rfl
set_option maxRecDepth 20000 in
theorem k177_56 : mjCode 177 56 = some (.iaload, 1, 0, 0) := by decide +kernel
theorem p177_56 {s0 s1 : Int} {q0 q1 q2 q3 q4 : MV} {ds : Ds} {m : Mm} {Q : Ds → Mm → List MV → Prop} : WP 177 56 [q0, q1, q2, q3, q4] [(0, s0), (2, s1)] ds m Q = ((dk ds s1 = 10 ∧ 0 ≤ s0 ∧ s0 < dl ds s1 ∧ WP 177 57 [q0, q1, q2, q3, q4] [(0, m s1 s0)] ds m Q)) := P_g3 k177_56 rfl
set_option maxRecDepth 20000 in
theorem k177_57 : mjCode 177 57 = some (.bipush 8, 2, 0, 0) := by decide +kernel
theorem p177_57 {s0 : Int} {q0 q1 q2 q3 q4 : MV} {ds : Ds} {m : Mm} {Q : Ds → Mm → List MV → Prop} : WP 177 57 [q0, q1, q2, q3, q4] [(0, s0)] ds m Q = (WP 177 59 [q0, q1, q2, q3, q4] [(0, 8), (0, s0)] ds m Q) := P_nx k177_57 rfl
set_option maxRecDepth 20000 in
theorem k177_59 : mjCode 177 59 = some (.if_icmp .eq 12, 3, 71, 0) := by decide +kernel
theorem p177_59 {s0 s1 : Int} {q0 q1 q2 q3 q4 : MV} {ds : Ds} {m : Mm} {Q : Ds → Mm → List MV → Prop} : WP 177 59 [q0, q1, q2, q3, q4] [(0, s0), (0, s1)] ds m Q = (if s1 = s0 then WP 177 71 [q0, q1, q2, q3, q4] [] ds m Q else WP 177 62 [q0, q1, q2, q3, q4] [] ds m Q) := P_if k177_59 rfl
set_option maxRecDepth 20000 in
theorem k177_62 : mjCode 177 62 = some (.aload_n 0, 1, 0, 0) := by decide +kernel
theorem p177_62 {l0 : Int} {q1 q2 q3 q4 : MV} {ds : Ds} {m : Mm} {Q : Ds → Mm → List MV → Prop} : WP 177 62 [(2, l0), q1, q2, q3, q4] [] ds m Q = (WP 177 63 [(2, l0), q1, q2, q3, q4] [(2, l0)] ds m Q) := P_nx k177_62 rfl
set_option maxRecDepth 20000 in
theorem k177_63 : mjCode 177 63 = some (.iload_n 3, 1, 0, 0) := by decide +kernel
theorem p177_63 {l3 s0 : Int} {q0 q1 q2 q4 : MV} {ds : Ds} {m : Mm} {Q : Ds → Mm → List MV → Prop} : WP 177 63 [q0, q1, q2, (0, l3), q4] [(2, s0)] ds m Q = (WP 177 64 [q0, q1, q2, (0, l3), q4] [(0, l3), (2, s0)] ds m Q) := P_nx k177_63 rfl
set_option maxRecDepth 20000 in
theorem k177_64 : mjCode 177 64 = some (.iload 4, 2, 0, 0) := by decide +kernel
theorem p177_64 {l4 s0 s1 : Int} {q0 q1 q2 q3 : MV} {ds : Ds} {m : Mm} {Q : Ds → Mm → List MV → Prop} : WP 177 64 [q0, q1, q2, q3, (0, l4)] [(0, s0), (2, s1)] ds m Q = (WP 177 66 [q0, q1, q2, q3, (0, l4)] [(0, l4), (0, s0), (2, s1)] ds m Q) := P_nx k177_64 rfl
set_option maxRecDepth 20000 in
theorem k177_66 : mjCode 177 66 = some (.iload_n 1, 1, 0, 0) := by decide +kernel
theorem p177_66 {l1 s0 s1 s2 : Int} {q0 q2 q3 q4 : MV} {ds : Ds} {m : Mm} {Q : Ds → Mm → List MV → Prop} : WP 177 66 [q0, (0, l1), q2, q3, q4] [(0, s0), (0, s1), (2, s2)] ds m Q = (WP 177 67 [q0, (0, l1), q2, q3, q4] [(0, l1), (0, s0), (0, s1), (2, s2)] ds m Q) := P_nx k177_66 rfl
set_option maxRecDepth 20000 in
theorem k177_67 : mjCode 177 67 = some (.iload_n 2, 1, 0, 0) := by decide +kernel
theorem p177_67 {l2 s0 s1 s2 s3 : Int} {q0 q1 q3 q4 : MV} {ds : Ds} {m : Mm} {Q : Ds → Mm → List MV → Prop} : WP 177 67 [q0, q1, (0, l2), q3, q4] [(0, s0), (0, s1), (0, s2), (2, s3)] ds m Q = (WP 177 68 [q0, q1, (0, l2), q3, q4] [(0, l2), (0, s0), (0, s1), (0, s2), (2, s3)] ds m Q) := P_nx k177_67 rfl
set_option maxRecDepth 20000 in
theorem k177_68 : mjCode 177 68 = some (.invokevirtual 283, 3, 177, 5) := by decide +kernel
theorem p177_68 {s0 s1 s2 s3 s4 : Int} {q0 q1 q2 q3 q4 : MV} {ds : Ds} {m : Mm} {Q : Ds → Mm → List MV → Prop} : WP 177 68 [q0, q1, q2, q3, q4] [(0, s0), (0, s1), (0, s2), (0, s3), (2, s4)] ds m Q = ((dk ds s4 = 7 ∧ WP 176 0 [(2, s4), (0, s3), (0, s2), (0, s1), (0, s0), (3, 0), (3, 0), (3, 0)] [] ds m (fun d2 m2 r2 => WP 177 71 [q0, q1, q2, q3, q4] (r2 ++ []) d2 m2 Q))) := P_cv k177_68 mx176 mo176 rfl rfl rfl rfl rfl rfl rfl rfl
set_option maxRecDepth 20000 in
theorem k177_71 : mjCode 177 71 = some (.iinc 4 1, 3, 0, 0) := by decide +kernel
theorem p177_71 {l4 : Int} {q0 q1 q2 q3 : MV} {ds : Ds} {m : Mm} {Q : Ds → Mm → List MV → Prop} : WP 177 71 [q0, q1, q2, q3, (0, l4)] [] ds m Q = (WP 177 74 [q0, q1, q2, q3, (0, w32 (l4 + 1))] [] ds m Q) := P_nx k177_71 rfl
set_option maxRecDepth 20000 in
theorem k177_74 : mjCode 177 74 = some (.goto (-47), 3, 27, 0) := by decide +kernel
theorem p177_74 {q0 q1 q2 q3 q4 : MV} {ds : Ds} {m : Mm} {Q : Ds → Mm → List MV → Prop} : WP 177 74 [q0, q1, q2, q3, q4] [] ds m Q = (WP 177 27 [q0, q1, q2, q3, q4] [] ds m Q) := P_nx k177_74 rfl
set_option maxRecDepth 20000 in
theorem k177_77 : mjCode 177 77 = some (.iinc 3 1, 3, 0, 0) := by decide +kernel
theorem p177_77 {l3 : Int} {q0 q1 q2 q4 : MV} {ds : Ds} {m : Mm} {Q : Ds → Mm → List MV → Prop} : WP 177 77 [q0, q1, q2, (0, l3), q4] [] ds m Q = (WP 177 80 [q0, q1, q2, (0, w32 (l3 + 1)), q4] [] ds m Q) := P_nx k177_77 rfl
set_option maxRecDepth 20000 in
theorem k177_80 : mjCode 177 80 = some (.goto (-62), 3, 18, 0) := by decide +kernel
theorem p177_80 {q0 q1 q2 q3 q4 : MV} {ds : Ds} {m : Mm} {Q : Ds → Mm → List MV → Prop} : WP 177 80 [q0, q1, q2, q3, q4] [] ds m Q = (WP 177 18 [q0, q1, q2, q3, q4] [] ds m Q) := P_nx k177_80 rfl
set_option maxRecDepth 20000 in
theorem k177_83 : mjCode 177 83 = some (.aload_n 0, 1, 0, 0) := by decide +kernel
theorem p177_83 {l0 : Int} {q1 q2 q3 q4 : MV} {ds : Ds} {m : Mm} {Q : Ds → Mm → List MV → Prop} : WP 177 83 [(2, l0), q1, q2, q3, q4] [] ds m Q = (WP 177 84 [(2, l0), q1, q2, q3, q4] [(2, l0)] ds m Q) := P_nx k177_83 rfl
set_option maxRecDepth 20000 in
theorem k177_84 : mjCode 177 84 = some (.getfield 276, 3, 7, 47) := by decide +kernel
theorem p177_84 {s0 : Int} {q0 q1 q2 q3 q4 : MV} {ds : Ds} {m : Mm} {Q : Ds → Mm → List MV → Prop} : WP 177 84 [q0, q1, q2, q3, q4] [(2, s0)] ds m Q = ((dk ds s0 = 7 ∧ WP 177 87 [q0, q1, q2, q3, q4] [(0, m s0 47)] ds m Q)) := P_gd k177_84 rfl
set_option maxRecDepth 20000 in
theorem k177_87 : mjCode 177 87 = some (.ireturn, 1, 0, 0) := by decide +kernel
theorem p177_87 {s0 : Int} {q0 q1 q2 q3 q4 : MV} {ds : Ds} {m : Mm} {Q : Ds → Mm → List MV → Prop} : WP 177 87 [q0, q1, q2, q3, q4] [(0, s0)] ds m Q = (Q ds m [(0, s0)]) := P_ri k177_87 rk177
set_option maxRecDepth 20000 in
theorem k178_0 : mjCode 178 0 = some (.iload_n 1, 1, 0, 0) := by decide +kernel
theorem p178_0 {l1 : Int} {q0 : MV} {ds : Ds} {m : Mm} {Q : Ds → Mm → List MV → Prop} : WP 178 0 [q0, (0, l1)] [] ds m Q = (WP 178 1 [q0, (0, l1)] [(0, l1)] ds m Q) := P_nx k178_0 rfl
set_option maxRecDepth 20000 in
theorem k178_1 : mjCode 178 1 = some (.iconst 0, 1, 0, 0) := by decide +kernel
theorem p178_1 {s0 : Int} {q0 q1 : MV} {ds : Ds} {m : Mm} {Q : Ds → Mm → List MV → Prop} : WP 178 1 [q0, q1] [(0, s0)] ds m Q = (WP 178 2 [q0, q1] [(0, 0), (0, s0)] ds m Q) := P_nx k178_1 rfl
set_option maxRecDepth 20000 in
theorem k178_2 : mjCode 178 2 = some (.aload_n 0, 1, 0, 0) := by decide +kernel
theorem p178_2 {l0 s0 s1 : Int} {q1 : MV} {ds : Ds} {m : Mm} {Q : Ds → Mm → List MV → Prop} : WP 178 2 [(2, l0), q1] [(0, s0), (0, s1)] ds m Q = (WP 178 3 [(2, l0), q1] [(2, l0), (0, s0), (0, s1)] ds m Q) := P_nx k178_2 rfl
set_option maxRecDepth 20000 in
theorem k178_3 : mjCode 178 3 = some (.getfield 276, 3, 7, 47) := by decide +kernel
theorem p178_3 {s0 s1 s2 : Int} {q0 q1 : MV} {ds : Ds} {m : Mm} {Q : Ds → Mm → List MV → Prop} : WP 178 3 [q0, q1] [(2, s0), (0, s1), (0, s2)] ds m Q = ((dk ds s0 = 7 ∧ WP 178 6 [q0, q1] [(0, m s0 47), (0, s1), (0, s2)] ds m Q)) := P_gd k178_3 rfl
set_option maxRecDepth 20000 in
theorem k178_6 : mjCode 178 6 = some (.iconst 1, 1, 0, 0) := by decide +kernel
theorem p178_6 {s0 s1 s2 : Int} {q0 q1 : MV} {ds : Ds} {m : Mm} {Q : Ds → Mm → List MV → Prop} : WP 178 6 [q0, q1] [(0, s0), (0, s1), (0, s2)] ds m Q = (WP 178 7 [q0, q1] [(0, 1), (0, s0), (0, s1), (0, s2)] ds m Q) := P_nx k178_6 rfl
set_option maxRecDepth 20000 in
theorem k178_7 : mjCode 178 7 = some (.isub, 1, 0, 0) := by decide +kernel
theorem p178_7 {s0 s1 s2 s3 : Int} {q0 q1 : MV} {ds : Ds} {m : Mm} {Q : Ds → Mm → List MV → Prop} : WP 178 7 [q0, q1] [(0, s0), (0, s1), (0, s2), (0, s3)] ds m Q = (WP 178 8 [q0, q1] [(0, w32 (s1 - s0)), (0, s2), (0, s3)] ds m Q) := P_nx k178_7 rfl
set_option maxRecDepth 20000 in
theorem k178_8 : mjCode 178 8 = some (.invokestatic 141, 3, 121, 3) := by decide +kernel
theorem p178_8 {s0 s1 s2 : Int} {q0 q1 : MV} {ds : Ds} {m : Mm} {Q : Ds → Mm → List MV → Prop} : WP 178 8 [q0, q1] [(0, s0), (0, s1), (0, s2)] ds m Q = (WP 120 0 [(0, s2), (0, s1), (0, s0)] [] ds m (fun d2 m2 r2 => WP 178 11 [q0, q1] (r2 ++ []) d2 m2 Q)) := P_cs k178_8 mx120 rfl rfl rfl rfl rfl rfl rfl
set_option maxRecDepth 20000 in
theorem k178_11 : mjCode 178 11 = some (.ifCond .eq 12, 3, 23, 0) := by decide +kernel
theorem p178_11 {s0 : Int} {q0 q1 : MV} {ds : Ds} {m : Mm} {Q : Ds → Mm → List MV → Prop} : WP 178 11 [q0, q1] [(0, s0)] ds m Q = (if s0 = 0 then WP 178 23 [q0, q1] [] ds m Q else WP 178 14 [q0, q1] [] ds m Q) := P_if k178_11 rfl
set_option maxRecDepth 20000 in
theorem k178_14 : mjCode 178 14 = some (.aload_n 0, 1, 0, 0) := by decide +kernel
theorem p178_14 {l0 : Int} {q1 : MV} {ds : Ds} {m : Mm} {Q : Ds → Mm → List MV → Prop} : WP 178 14 [(2, l0), q1] [] ds m Q = (WP 178 15 [(2, l0), q1] [(2, l0)] ds m Q) := P_nx k178_14 rfl
set_option maxRecDepth 20000 in
theorem k178_15 : mjCode 178 15 = some (.getfield 129, 3, 7, 46) := by decide +kernel
theorem p178_15 {s0 : Int} {q0 q1 : MV} {ds : Ds} {m : Mm} {Q : Ds → Mm → List MV → Prop} : WP 178 15 [q0, q1] [(2, s0)] ds m Q = ((dk ds s0 = 7 ∧ WP 178 18 [q0, q1] [(2, m s0 46)] ds m Q)) := P_gd k178_15 rfl
set_option maxRecDepth 20000 in
theorem k178_18 : mjCode 178 18 = some (.iload_n 1, 1, 0, 0) := by decide +kernel
theorem p178_18 {l1 s0 : Int} {q0 : MV} {ds : Ds} {m : Mm} {Q : Ds → Mm → List MV → Prop} : WP 178 18 [q0, (0, l1)] [(2, s0)] ds m Q = (WP 178 19 [q0, (0, l1)] [(0, l1), (2, s0)] ds m Q) := P_nx k178_18 rfl
set_option maxRecDepth 20000 in
theorem k178_19 : mjCode 178 19 = some (.iaload, 1, 0, 0) := by decide +kernel
theorem p178_19 {s0 s1 : Int} {q0 q1 : MV} {ds : Ds} {m : Mm} {Q : Ds → Mm → List MV → Prop} : WP 178 19 [q0, q1] [(0, s0), (2, s1)] ds m Q = ((dk ds s1 = 10 ∧ 0 ≤ s0 ∧ s0 < dl ds s1 ∧ WP 178 20 [q0, q1] [(0, m s1 s0)] ds m Q)) := P_g3 k178_19 rfl
set_option maxRecDepth 20000 in
theorem k178_20 : mjCode 178 20 = some (.goto 4, 3, 24, 0) := by decide +kernel
theorem p178_20 {s0 : Int} {q0 q1 : MV} {ds : Ds} {m : Mm} {Q : Ds → Mm → List MV → Prop} : WP 178 20 [q0, q1] [(0, s0)] ds m Q = (WP 178 24 [q0, q1] [(0, s0)] ds m Q) := P_nx k178_20 rfl
set_option maxRecDepth 20000 in
theorem k178_23 : mjCode 178 23 = some (.iconst (-1), 1, 0, 0) := by decide +kernel
theorem p178_23 {q0 q1 : MV} {ds : Ds} {m : Mm} {Q : Ds → Mm → List MV → Prop} : WP 178 23 [q0, q1] [] ds m Q = (WP 178 24 [q0, q1] [(0, (-1))] ds m Q) := P_nx k178_23 rfl
set_option maxRecDepth 20000 in
theorem k178_24 : mjCode 178 24 = some (.ireturn, 1, 0, 0) := by decide +kernel
theorem p178_24 {s0 : Int} {q0 q1 : MV} {ds : Ds} {m : Mm} {Q : Ds → Mm → List MV → Prop} : WP 178 24 [q0, q1] [(0, s0)] ds m Q = (Q ds m [(0, s0)]) := P_ri k178_24 rk178
set_option maxRecDepth 20000 in
theorem k179_0 : mjCode 179 0 = some (.aload_n 0, 1, 0, 0) := by decide +kernel
theorem p179_0 {l0 : Int} {q1 q2 q3 q4 q5 q6 : MV} {ds : Ds} {m : Mm} {Q : Ds → Mm → List MV → Prop} : WP 179 0 [(2, l0), q1, q2, q3, q4, q5, q6] [] ds m Q = (WP 179 1 [(2, l0), q1, q2, q3, q4, q5, q6] [(2, l0)] ds m Q) := P_nx k179_0 rfl
set_option maxRecDepth 20000 in
theorem k179_1 : mjCode 179 1 = some (.iload_n 1, 1, 0, 0) := by decide +kernel
theorem p179_1 {l1 s0 : Int} {q0 q2 q3 q4 q5 q6 : MV} {ds : Ds} {m : Mm} {Q : Ds → Mm → List MV → Prop} : WP 179 1 [q0, (0, l1), q2, q3, q4, q5, q6] [(2, s0)] ds m Q = (WP 179 2 [q0, (0, l1), q2, q3, q4, q5, q6] [(0, l1), (2, s0)] ds m Q) := P_nx k179_1 rfl
set_option maxRecDepth 20000 in
theorem k179_2 : mjCode 179 2 = some (.iload_n 2, 1, 0, 0) := by decide +kernel
theorem p179_2 {l2 s0 s1 : Int} {q0 q1 q3 q4 q5 q6 : MV} {ds : Ds} {m : Mm} {Q : Ds → Mm → List MV → Prop} : WP 179 2 [q0, q1, (0, l2), q3, q4, q5, q6] [(0, s0), (2, s1)] ds m Q = (WP 179 3 [q0, q1, (0, l2), q3, q4, q5, q6] [(0, l2), (0, s0), (2, s1)] ds m Q) := P_nx k179_2 rfl
set_option maxRecDepth 20000 in
theorem k179_3 : mjCode 179 3 = some (.iload_n 3, 1, 0, 0) := by decide +kernel
theorem p179_3 {l3 s0 s1 s2 : Int} {q0 q1 q2 q4 q5 q6 : MV} {ds : Ds} {m : Mm} {Q : Ds → Mm → List MV → Prop} : WP 179 3 [q0, q1, q2, (0, l3), q4, q5, q6] [(0, s0), (0, s1), (2, s2)] ds m Q = (WP 179 4 [q0, q1, q2, (0, l3), q4, q5, q6] [(0, l3), (0, s0), (0, s1), (2, s2)] ds m Q) := P_nx k179_3 rfl
set_option maxRecDepth 20000 in
theorem k179_4 : mjCode 179 4 = some (.iload 4, 2, 0, 0) := by decide +kernel
theorem p179_4 {l4 s0 s1 s2 s3 : Int} {q0 q1 q2 q3 q5 q6 : MV} {ds : Ds} {m : Mm} {Q : Ds → Mm → List MV → Prop} : WP 179 4 [q0, q1, q2, q3, (0, l4), q5, q6] [(0, s0), (0, s1), (0, s2), (2, s3)] ds m Q = (WP 179 6 [q0, q1, q2, q3, (0, l4), q5, q6] [(0, l4), (0, s0), (0, s1), (0, s2), (2, s3)] ds m Q) := P_nx k179_4 rfl
set_option maxRecDepth 20000 in
theorem k179_6 : mjCode 179 6 = some (.invokevirtual 163, 3, 129, 5) := by decide +kernel
theorem p179_6 {s0 s1 s2 s3 s4 : Int} {q0 q1 q2 q3 q4 q5 q6 : MV} {ds : Ds} {m : Mm} {Q : Ds → Mm → List MV → Prop} : WP 179 6 [q0, q1, q2, q3, q4, q5, q6] [(0, s0), (0, s1), (0, s2), (0, s3), (2, s4)] ds m Q = ((dk ds s4 = 7 ∧ WP 128 0 [(2, s4), (0, s3), (0, s2), (0, s1), (0, s0)] [] ds m (fun d2 m2 r2 => WP 179 9 [q0, q1, q2, q3, q4, q5, q6] (r2 ++ []) d2 m2 Q))) := P_cv k179_6 mx128 mo128 rfl rfl rfl rfl rfl rfl rfl rfl
set_option maxRecDepth 20000 in
theorem k179_9 : mjCode 179 9 = some (.aload_n 0, 1, 0, 0) := by decide +kernel
theorem p179_9 {l0 : Int} {q1 q2 q3 q4 q5 q6 : MV} {ds : Ds} {m : Mm} {Q : Ds → Mm → List MV → Prop} : WP 179 9 [(2, l0), q1, q2, q3, q4, q5, q6] [] ds m Q = (WP 179 10 [(2, l0), q1, q2, q3, q4, q5, q6] [(2, l0)] ds m Q) := P_nx k179_9 rfl
set_option maxRecDepth 20000 in
theorem k179_10 : mjCode 179 10 = some (.iconst 1, 1, 0, 0) := by decide +kernel
theorem p179_10 {s0 : Int} {q0 q1 q2 q3 q4 q5 q6 : MV} {ds : Ds} {m : Mm} {Q : Ds → Mm → List MV → Prop} : WP 179 10 [q0, q1, q2, q3, q4, q5, q6] [(2, s0)] ds m Q = (WP 179 11 [q0, q1, q2, q3, q4, q5, q6] [(0, 1), (2, s0)] ds m Q) := P_nx k179_10 rfl
set_option maxRecDepth 20000 in
theorem k179_11 : mjCode 179 11 = some (.iload 5, 2, 0, 0) := by decide +kernel
theorem p179_11 {l5 s0 s1 : Int} {q0 q1 q2 q3 q4 q6 : MV} {ds : Ds} {m : Mm} {Q : Ds → Mm → List MV → Prop} : WP 179 11 [q0, q1, q2, q3, q4, (0, l5), q6] [(0, s0), (2, s1)] ds m Q = (WP 179 13 [q0, q1, q2, q3, q4, (0, l5), q6] [(0, l5), (0, s0), (2, s1)] ds m Q) := P_nx k179_11 rfl
set_option maxRecDepth 20000 in
theorem k179_13 : mjCode 179 13 = some (.iload 6, 2, 0, 0) := by decide +kernel
theorem p179_13 {l6 s0 s1 s2 : Int} {q0 q1 q2 q3 q4 q5 : MV} {ds : Ds} {m : Mm} {Q : Ds → Mm → List MV → Prop} : WP 179 13 [q0, q1, q2, q3, q4, q5, (0, l6)] [(0, s0), (0, s1), (2, s2)] ds m Q = (WP 179 15 [q0, q1, q2, q3, q4, q5, (0, l6)] [(0, l6), (0, s0), (0, s1), (2, s2)] ds m Q) := P_nx k179_13 rfl
set_option maxRecDepth 20000 in
theorem k179_15 : mjCode 179 15 = some (.invokevirtual 269, 3, 173, 4) := by decide +kernel
theorem p179_15 {s0 s1 s2 s3 : Int} {q0 q1 q2 q3 q4 q5 q6 : MV} {ds : Ds} {m : Mm} {Q : Ds → Mm → List MV → Prop} : WP 179 15 [q0, q1, q2, q3, q4, q5, q6] [(0, s0), (0, s1), (0, s2), (2, s3)] ds m Q = ((dk ds s3 = 7 ∧ WP 172 0 [(2, s3), (0, s2), (0, s1), (0, s0), (3, 0)] [] ds m (fun d2 m2 r2 => WP 179 18 [q0, q1, q2, q3, q4, q5, q6] (r2 ++ []) d2 m2 Q))) := P_cv k179_15 mx172 mo172 rfl rfl rfl rfl rfl rfl rfl rfl
set_option maxRecDepth 20000 in
theorem k179_18 : mjCode 179 18 = some (.ifCond .eq 35, 3, 53, 0) := by decide +kernel
theorem p179_18 {s0 : Int} {q0 q1 q2 q3 q4 q5 q6 : MV} {ds : Ds} {m : Mm} {Q : Ds → Mm → List MV → Prop} : WP 179 18 [q0, q1, q2, q3, q4, q5, q6] [(0, s0)] ds m Q = (if s0 = 0 then WP 179 53 [q0, q1, q2, q3, q4, q5, q6] [] ds m Q else WP 179 21 [q0, q1, q2, q3, q4, q5, q6] [] ds m Q) := P_if k179_18 rfl
set_option maxRecDepth 20000 in
theorem k179_21 : mjCode 179 21 = some (.aload_n 0, 1, 0, 0) := by decide +kernel
theorem p179_21 {l0 : Int} {q1 q2 q3 q4 q5 q6 : MV} {ds : Ds} {m : Mm} {Q : Ds → Mm → List MV → Prop} : WP 179 21 [(2, l0), q1, q2, q3, q4, q5, q6] [] ds m Q = (WP 179 22 [(2, l0), q1, q2, q3, q4, q5, q6] [(2, l0)] ds m Q) := P_nx k179_21 rfl
set_option maxRecDepth 20000 in
theorem k179_22 : mjCode 179 22 = some (.getfield 132, 3, 7, 48) := by decide +kernel
theorem p179_22 {s0 : Int} {q0 q1 q2 q3 q4 q5 q6 : MV} {ds : Ds} {m : Mm} {Q : Ds → Mm → List MV → Prop} : WP 179 22 [q0, q1, q2, q3, q4, q5, q6] [(2, s0)] ds m Q = ((dk ds s0 = 7 ∧ WP 179 25 [q0, q1, q2, q3, q4, q5, q6] [(2, m s0 48)] ds m Q)) := P_gd k179_22 rfl
set_option maxRecDepth 20000 in
theorem k179_25 : mjCode 179 25 = some (.aload_n 0, 1, 0, 0) := by decide +kernel
theorem p179_25 {l0 s0 : Int} {q1 q2 q3 q4 q5 q6 : MV} {ds : Ds} {m : Mm} {Q : Ds → Mm → List MV → Prop} : WP 179 25 [(2, l0), q1, q2, q3, q4, q5, q6] [(2, s0)] ds m Q = (WP 179 26 [(2, l0), q1, q2, q3, q4, q5, q6] [(2, l0), (2, s0)] ds m Q) := P_nx k179_25 rfl
set_option maxRecDepth 20000 in
theorem k179_26 : mjCode 179 26 = some (.getfield 286, 3, 7, 49) := by decide +kernel
theorem p179_26 {s0 s1 : Int} {q0 q1 q2 q3 q4 q5 q6 : MV} {ds : Ds} {m : Mm} {Q : Ds → Mm → List MV → Prop} : WP 179 26 [q0, q1, q2, q3, q4, q5, q6] [(2, s0), (2, s1)] ds m Q = ((dk ds s0 = 7 ∧ WP 179 29 [q0, q1, q2, q3, q4, q5, q6] [(0, m s0 49), (2, s1)] ds m Q)) := P_gd k179_26 rfl
set_option maxRecDepth 20000 in
theorem k179_29 : mjCode 179 29 = some (.sipush 1000, 3, 0, 0) := by decide +kernel
theorem p179_29 {s0 s1 : Int} {q0 q1 q2 q3 q4 q5 q6 : MV} {ds : Ds} {m : Mm} {Q : Ds → Mm → List MV → Prop} : WP 179 29 [q0, q1, q2, q3, q4, q5, q6] [(0, s0), (2, s1)] ds m Q = (WP 179 32 [q0, q1, q2, q3, q4, q5, q6] [(0, 1000), (0, s0), (2, s1)] ds m Q) := P_nx k179_29 rfl
set_option maxRecDepth 20000 in
theorem k179_32 : mjCode 179 32 = some (.iload_n 2, 1, 0, 0) := by decide +kernel
theorem p179_32 {l2 s0 s1 s2 : Int} {q0 q1 q3 q4 q5 q6 : MV} {ds : Ds} {m : Mm} {Q : Ds → Mm → List MV → Prop} : WP 179 32 [q0, q1, (0, l2), q3, q4, q5, q6] [(0, s0), (0, s1), (2, s2)] ds m Q = (WP 179 33 [q0, q1, (0, l2), q3, q4, q5, q6] [(0, l2), (0, s0), (0, s1), (2, s2)] ds m Q) := P_nx k179_32 rfl
set_option maxRecDepth 20000 in
theorem k179_33 : mjCode 179 33 = some (.imul, 1, 0, 0) := by decide +kernel
theorem p179_33 {s0 s1 s2 s3 : Int} {q0 q1 q2 q3 q4 q5 q6 : MV} {ds : Ds} {m : Mm} {Q : Ds → Mm → List MV → Prop} : WP 179 33 [q0, q1, q2, q3, q4, q5, q6] [(0, s0), (0, s1), (0, s2), (2, s3)] ds m Q = (WP 179 34 [q0, q1, q2, q3, q4, q5, q6] [(0, w32 (s1 * s0)), (0, s2), (2, s3)] ds m Q) := P_nx k179_33 rfl
set_option maxRecDepth 20000 in
theorem k179_34 : mjCode 179 34 = some (.bipush 10, 2, 0, 0) := by decide +kernel
theorem p179_34 {s0 s1 s2 : Int} {q0 q1 q2 q3 q4 q5 q6 : MV} {ds : Ds} {m : Mm} {Q : Ds → Mm → List MV → Prop} : WP 179 34 [q0, q1, q2, q3, q4, q5, q6] [(0, s0), (0, s1), (2, s2)] ds m Q = (WP 179 36 [q0, q1, q2, q3, q4, q5, q6] [(0, 10), (0, s0), (0, s1), (2, s2)] ds m Q) := P_nx k179_34 rfl
set_option maxRecDepth 20000 in
theorem k179_36 : mjCode 179 36 = some (.iload_n 3, 1, 0, 0) := by decide +kernel
theorem p179_36 {l3 s0 s1 s2 s3 : Int} {q0 q1 q2 q4 q5 q6 : MV} {ds : Ds} {m : Mm} {Q : Ds → Mm → List MV → Prop} : WP 179 36 [q0, q1, q2, (0, l3), q4, q5, q6] [(0, s0), (0, s1), (0, s2), (2, s3)] ds m Q = (WP 179 37 [q0, q1, q2, (0, l3), q4, q5, q6] [(0, l3), (0, s0), (0, s1), (0, s2), (2, s3)] ds m Q) := P_nx k179_36 rfl
set_option maxRecDepth 20000 in
theorem k179_37 : mjCode 179 37 = some (.imul, 1, 0, 0) := by decide +kernel
theorem p179_37 {s0 s1 s2 s3 s4 : Int} {q0 q1 q2 q3 q4 q5 q6 : MV} {ds : Ds} {m : Mm} {Q : Ds → Mm → List MV → Prop} : WP 179 37 [q0, q1, q2, q3, q4, q5, q6] [(0, s0), (0, s1), (0, s2), (0, s3), (2, s4)] ds m Q = (WP 179 38 [q0, q1, q2, q3, q4, q5, q6] [(0, w32 (s1 * s0)), (0, s2), (0, s3), (2, s4)] ds m Q) := P_nx k179_37 rfl
set_option maxRecDepth 20000 in
theorem k179_38 : mjCode 179 38 = some (.iadd, 1, 0, 0) := by decide +kernel
theorem p179_38 {s0 s1 s2 s3 : Int} {q0 q1 q2 q3 q4 q5 q6 : MV} {ds : Ds} {m : Mm} {Q : Ds → Mm → List MV → Prop} : WP 179 38 [q0, q1, q2, q3, q4, q5, q6] [(0, s0), (0, s1), (0, s2), (2, s3)] ds m Q = (WP 179 39 [q0, q1, q2, q3, q4, q5, q6] [(0, w32 (s1 + s0)), (0, s2), (2, s3)] ds m Q) := P_nx k179_38 rfl
set_option maxRecDepth 20000 in
theorem k179_39 : mjCode 179 39 = some (.iload 4, 2, 0, 0) := by decide +kernel
theorem p179_39 {l4 s0 s1 s2 : Int} {q0 q1 q2 q3 q5 q6 : MV} {ds : Ds} {m : Mm} {Q : Ds → Mm → List MV → Prop} : WP 179 39 [q0, q1, q2, q3, (0, l4), q5, q6] [(0, s0), (0, s1), (2, s2)] ds m Q = (WP 179 41 [q0, q1, q2, q3, (0, l4), q5, q6] [(0, l4), (0, s0), (0, s1), (2, s2)] ds m Q) := P_nx k179_39 rfl
set_option maxRecDepth 20000 in
theorem k179_41 : mjCode 179 41 = some (.iadd, 1, 0, 0) := by decide +kernel
theorem p179_41 {s0 s1 s2 s3 : Int} {q0 q1 q2 q3 q4 q5 q6 : MV} {ds : Ds} {m : Mm} {Q : Ds → Mm → List MV → Prop} : WP 179 41 [q0, q1, q2, q3, q4, q5, q6] [(0, s0), (0, s1), (0, s2), (2, s3)] ds m Q = (WP 179 42 [q0, q1, q2, q3, q4, q5, q6] [(0, w32 (s1 + s0)), (0, s2), (2, s3)] ds m Q) := P_nx k179_41 rfl
set_option maxRecDepth 20000 in
theorem k179_42 : mjCode 179 42 = some (.iastore, 1, 0, 0) := by decide +kernel
theorem p179_42 {s0 s1 s2 : Int} {q0 q1 q2 q3 q4 q5 q6 : MV} {ds : Ds} {m : Mm} {Q : Ds → Mm → List MV → Prop} : WP 179 42 [q0, q1, q2, q3, q4, q5, q6] [(0, s0), (0, s1), (2, s2)] ds m Q = ((dk ds s2 = 10 ∧ 0 ≤ s1 ∧ s1 < dl ds s2 ∧ WP 179 43 [q0, q1, q2, q3, q4, q5, q6] [] ds (up m s2 s1 s0) Q)) := P_s3 k179_42 rfl
set_option maxRecDepth 20000 in
theorem k179_43 : mjCode 179 43 = some (.aload_n 0, 1, 0, 0) := by decide +kernel
theorem p179_43 {l0 : Int} {q1 q2 q3 q4 q5 q6 : MV} {ds : Ds} {m : Mm} {Q : Ds → Mm → List MV → Prop} : WP 179 43 [(2, l0), q1, q2, q3, q4, q5, q6] [] ds m Q = (WP 179 44 [(2, l0), q1, q2, q3, q4, q5, q6] [(2, l0)] ds m Q) := P_nx k179_43 rfl
set_option maxRecDepth 20000 in
theorem k179_44 : mjCode 179 44 = some (.dup, 1, 0, 0) := by decide +kernel
theorem p179_44 {s0 : Int} {q0 q1 q2 q3 q4 q5 q6 : MV} {ds : Ds} {m : Mm} {Q : Ds → Mm → List MV → Prop} : WP 179 44 [q0, q1, q2, q3, q4, q5, q6] [(2, s0)] ds m Q = (WP 179 45 [q0, q1, q2, q3, q4, q5, q6] [(2, s0), (2, s0)] ds m Q) := P_nx k179_44 rfl
set_option maxRecDepth 20000 in
theorem k179_45 : mjCode 179 45 = some (.getfield 286, 3, 7, 49) := by decide +kernel
theorem p179_45 {s0 s1 : Int} {q0 q1 q2 q3 q4 q5 q6 : MV} {ds : Ds} {m : Mm} {Q : Ds → Mm → List MV → Prop} : WP 179 45 [q0, q1, q2, q3, q4, q5, q6] [(2, s0), (2, s1)] ds m Q = ((dk ds s0 = 7 ∧ WP 179 48 [q0, q1, q2, q3, q4, q5, q6] [(0, m s0 49), (2, s1)] ds m Q)) := P_gd k179_45 rfl
set_option maxRecDepth 20000 in
theorem k179_48 : mjCode 179 48 = some (.iconst 1, 1, 0, 0) := by decide +kernel
theorem p179_48 {s0 s1 : Int} {q0 q1 q2 q3 q4 q5 q6 : MV} {ds : Ds} {m : Mm} {Q : Ds → Mm → List MV → Prop} : WP 179 48 [q0, q1, q2, q3, q4, q5, q6] [(0, s0), (2, s1)] ds m Q = (WP 179 49 [q0, q1, q2, q3, q4, q5, q6] [(0, 1), (0, s0), (2, s1)] ds m Q) := P_nx k179_48 rfl
set_option maxRecDepth 20000 in
theorem k179_49 : mjCode 179 49 = some (.iadd, 1, 0, 0) := by decide +kernel
theorem p179_49 {s0 s1 s2 : Int} {q0 q1 q2 q3 q4 q5 q6 : MV} {ds : Ds} {m : Mm} {Q : Ds → Mm → List MV → Prop} : WP 179 49 [q0, q1, q2, q3, q4, q5, q6] [(0, s0), (0, s1), (2, s2)] ds m Q = (WP 179 50 [q0, q1, q2, q3, q4, q5, q6] [(0, w32 (s1 + s0)), (2, s2)] ds m Q) := P_nx k179_49 rfl
set_option maxRecDepth 20000 in
theorem k179_50 : mjCode 179 50 = some (.putfield 286, 3, 7, 49) := by decide +kernel
theorem p179_50 {s0 s1 : Int} {q0 q1 q2 q3 q4 q5 q6 : MV} {ds : Ds} {m : Mm} {Q : Ds → Mm → List MV → Prop} : WP 179 50 [q0, q1, q2, q3, q4, q5, q6] [(0, s0), (2, s1)] ds m Q = ((dk ds s1 = 7 ∧ WP 179 53 [q0, q1, q2, q3, q4, q5, q6] [] ds (up m s1 49 s0) Q)) := P_pf k179_50 rfl
set_option maxRecDepth 20000 in
theorem k179_53 : mjCode 179 53 = some (.aload_n 0, 1, 0, 0) := by decide +kernel
theorem p179_53 {l0 : Int} {q1 q2 q3 q4 q5 q6 : MV} {ds : Ds} {m : Mm} {Q : Ds → Mm → List MV → Prop} : WP 179 53 [(2, l0), q1, q2, q3, q4, q5, q6] [] ds m Q = (WP 179 54 [(2, l0), q1, q2, q3, q4, q5, q6] [(2, l0)] ds m Q) := P_nx k179_53 rfl
set_option maxRecDepth 20000 in
theorem k179_54 : mjCode 179 54 = some (.getfield 13, 3, 7, 1) := by decide +kernel
theorem p179_54 {s0 : Int} {q0 q1 q2 q3 q4 q5 q6 : MV} {ds : Ds} {m : Mm} {Q : Ds → Mm → List MV → Prop} : WP 179 54 [q0, q1, q2, q3, q4, q5, q6] [(2, s0)] ds m Q = ((dk ds s0 = 7 ∧ WP 179 57 [q0, q1, q2, q3, q4, q5, q6] [(2, m s0 1)] ds m Q)) := P_gd k179_54 rfl
set_option maxRecDepth 20000 in
theorem k179_57 : mjCode 179 57 = some (.iload_n 1, 1, 0, 0) := by decide +kernel
theorem p179_57 {l1 s0 : Int} {q0 q2 q3 q4 q5 q6 : MV} {ds : Ds} {m : Mm} {Q : Ds → Mm → List MV → Prop} : WP 179 57 [q0, (0, l1), q2, q3, q4, q5, q6] [(2, s0)] ds m Q = (WP 179 58 [q0, (0, l1), q2, q3, q4, q5, q6] [(0, l1), (2, s0)] ds m Q) := P_nx k179_57 rfl
set_option maxRecDepth 20000 in
theorem k179_58 : mjCode 179 58 = some (.iconst 0, 1, 0, 0) := by decide +kernel
theorem p179_58 {s0 s1 : Int} {q0 q1 q2 q3 q4 q5 q6 : MV} {ds : Ds} {m : Mm} {Q : Ds → Mm → List MV → Prop} : WP 179 58 [q0, q1, q2, q3, q4, q5, q6] [(0, s0), (2, s1)] ds m Q = (WP 179 59 [q0, q1, q2, q3, q4, q5, q6] [(0, 0), (0, s0), (2, s1)] ds m Q) := P_nx k179_58 rfl
set_option maxRecDepth 20000 in
theorem k179_59 : mjCode 179 59 = some (.iastore, 1, 0, 0) := by decide +kernel
theorem p179_59 {s0 s1 s2 : Int} {q0 q1 q2 q3 q4 q5 q6 : MV} {ds : Ds} {m : Mm} {Q : Ds → Mm → List MV → Prop} : WP 179 59 [q0, q1, q2, q3, q4, q5, q6] [(0, s0), (0, s1), (2, s2)] ds m Q = ((dk ds s2 = 10 ∧ 0 ≤ s1 ∧ s1 < dl ds s2 ∧ WP 179 60 [q0, q1, q2, q3, q4, q5, q6] [] ds (up m s2 s1 s0) Q)) := P_s3 k179_59 rfl
set_option maxRecDepth 20000 in
theorem k179_60 : mjCode 179 60 = some (.return_, 1, 0, 0) := by decide +kernel
theorem p179_60 {q0 q1 q2 q3 q4 q5 q6 : MV} {ds : Ds} {m : Mm} {Q : Ds → Mm → List MV → Prop} : WP 179 60 [q0, q1, q2, q3, q4, q5, q6] [] ds m Q = (Q ds m []) := P_rv k179_60 rk179
set_option maxRecDepth 20000 in
theorem k180_0 : mjCode 180 0 = some (.iload_n 1, 1, 0, 0) := by decide +kernel
theorem p180_0 {l1 : Int} {q0 q2 q3 q4 q5 q6 q7 q8 : MV} {ds : Ds} {m : Mm} {Q : Ds → Mm → List MV → Prop} : WP 180 0 [q0, (0, l1), q2, q3, q4, q5, q6, q7, q8] [] ds m Q = (WP 180 1 [q0, (0, l1), q2, q3, q4, q5, q6, q7, q8] [(0, l1)] ds m Q) := P_nx k180_0 rfl
set_option maxRecDepth 20000 in
theorem k180_1 : mjCode 180 1 = some (.invokestatic 152, 3, 123, 1) := by decide +kernel
theorem p180_1 {s0 : Int} {q0 q1 q2 q3 q4 q5 q6 q7 q8 : MV} {ds : Ds} {m : Mm} {Q : Ds → Mm → List MV → Prop} : WP 180 1 [q0, q1, q2, q3, q4, q5, q6, q7, q8] [(0, s0)] ds m Q = (WP 122 0 [(0, s0)] [] ds m (fun d2 m2 r2 => WP 180 4 [q0, q1, q2, q3, q4, q5, q6, q7, q8] (r2 ++ []) d2 m2 Q)) := P_cs k180_1 mx122 rfl rfl rfl rfl rfl rfl rfl
set_option maxRecDepth 20000 in
theorem k180_4 : mjCode 180 4 = some (.ifCond .ne 9, 3, 13, 0) := by decide +kernel
theorem p180_4 {s0 : Int} {q0 q1 q2 q3 q4 q5 q6 q7 q8 : MV} {ds : Ds} {m : Mm} {Q : Ds → Mm → List MV → Prop} : WP 180 4 [q0, q1, q2, q3, q4, q5, q6, q7, q8] [(0, s0)] ds m Q = (if s0 = 0 then WP 180 7 [q0, q1, q2, q3, q4, q5, q6, q7, q8] [] ds m Q else WP 180 13 [q0, q1, q2, q3, q4, q5, q6, q7, q8] [] ds m Q) := P_if k180_4 rfl
set_option maxRecDepth 20000 in
theorem k180_7 : mjCode 180 7 = some (.aload_n 0, 1, 0, 0) := by decide +kernel
theorem p180_7 {l0 : Int} {q1 q2 q3 q4 q5 q6 q7 q8 : MV} {ds : Ds} {m : Mm} {Q : Ds → Mm → List MV → Prop} : WP 180 7 [(2, l0), q1, q2, q3, q4, q5, q6, q7, q8] [] ds m Q = (WP 180 8 [(2, l0), q1, q2, q3, q4, q5, q6, q7, q8] [(2, l0)] ds m Q) := P_nx k180_7 rfl
set_option maxRecDepth 20000 in
theorem k180_8 : mjCode 180 8 = some (.iconst (-1), 1, 0, 0) := by decide +kernel
theorem p180_8 {s0 : Int} {q0 q1 q2 q3 q4 q5 q6 q7 q8 : MV} {ds : Ds} {m : Mm} {Q : Ds → Mm → List MV → Prop} : WP 180 8 [q0, q1, q2, q3, q4, q5, q6, q7, q8] [(2, s0)] ds m Q = (WP 180 9 [q0, q1, q2, q3, q4, q5, q6, q7, q8] [(0, (-1)), (2, s0)] ds m Q) := P_nx k180_8 rfl
set_option maxRecDepth 20000 in
theorem k180_9 : mjCode 180 9 = some (.invokevirtual 155, 3, 122, 2) := by decide +kernel
theorem p180_9 {s0 s1 : Int} {q0 q1 q2 q3 q4 q5 q6 q7 q8 : MV} {ds : Ds} {m : Mm} {Q : Ds → Mm → List MV → Prop} : WP 180 9 [q0, q1, q2, q3, q4, q5, q6, q7, q8] [(0, s0), (2, s1)] ds m Q = ((dk ds s1 = 7 ∧ WP 121 0 [(2, s1), (0, s0)] [] ds m (fun d2 m2 r2 => WP 180 12 [q0, q1, q2, q3, q4, q5, q6, q7, q8] (r2 ++ []) d2 m2 Q))) := P_cv k180_9 mx121 mo121 rfl rfl rfl rfl rfl rfl rfl rfl
set_option maxRecDepth 20000 in
theorem k180_12 : mjCode 180 12 = some (.ireturn, 1, 0, 0) := by decide +kernel
theorem p180_12 {s0 : Int} {q0 q1 q2 q3 q4 q5 q6 q7 q8 : MV} {ds : Ds} {m : Mm} {Q : Ds → Mm → List MV → Prop} : WP 180 12 [q0, q1, q2, q3, q4, q5, q6, q7, q8] [(0, s0)] ds m Q = (Q ds m [(0, s0)]) := P_ri k180_12 rk180
set_option maxRecDepth 20000 in
theorem k180_13 : mjCode 180 13 = some (.aload_n 0, 1, 0, 0) := by decide +kernel
theorem p180_13 {l0 : Int} {q1 q2 q3 q4 q5 q6 q7 q8 : MV} {ds : Ds} {m : Mm} {Q : Ds → Mm → List MV → Prop} : WP 180 13 [(2, l0), q1, q2, q3, q4, q5, q6, q7, q8] [] ds m Q = (WP 180 14 [(2, l0), q1, q2, q3, q4, q5, q6, q7, q8] [(2, l0)] ds m Q) := P_nx k180_13 rfl
set_option maxRecDepth 20000 in
theorem k180_14 : mjCode 180 14 = some (.iload_n 1, 1, 0, 0) := by decide +kernel
theorem p180_14 {l1 s0 : Int} {q0 q2 q3 q4 q5 q6 q7 q8 : MV} {ds : Ds} {m : Mm} {Q : Ds → Mm → List MV → Prop} : WP 180 14 [q0, (0, l1), q2, q3, q4, q5, q6, q7, q8] [(2, s0)] ds m Q = (WP 180 15 [q0, (0, l1), q2, q3, q4, q5, q6, q7, q8] [(0, l1), (2, s0)] ds m Q) := P_nx k180_14 rfl
set_option maxRecDepth 20000 in
theorem k180_15 : mjCode 180 15 = some (.invokevirtual 167, 3, 127, 2) := by decide +kernel
theorem p180_15 {s0 s1 : Int} {q0 q1 q2 q3 q4 q5 q6 q7 q8 : MV} {ds : Ds} {m : Mm} {Q : Ds → Mm → List MV → Prop} : WP 180 15 [q0, q1, q2, q3, q4, q5, q6, q7, q8] [(0, s0), (2, s1)] ds m Q = ((dk ds s1 = 7 ∧ WP 126 0 [(2, s1), (0, s0)] [] ds m (fun d2 m2 r2 => WP 180 18 [q0, q1, q2, q3, q4, q5, q6, q7, q8] (r2 ++ []) d2 m2 Q))) := P_cv k180_15 mx126 mo126 rfl rfl rfl rfl rfl rfl rfl rfl
set_option maxRecDepth 20000 in
theorem k180_18 : mjCode 180 18 = some (.ifCond .ne 10, 3, 28, 0) := by decide +kernel
theorem p180_18 {s0 : Int} {q0 q1 q2 q3 q4 q5 q6 q7 q8 : MV} {ds : Ds} {m : Mm} {Q : Ds → Mm → List MV → Prop} : WP 180 18 [q0, q1, q2, q3, q4, q5, q6, q7, q8] [(0, s0)] ds m Q = (if s0 = 0 then WP 180 21 [q0, q1, q2, q3, q4, q5, q6, q7, q8] [] ds m Q else WP 180 28 [q0, q1, q2, q3, q4, q5, q6, q7, q8] [] ds m Q) := P_if k180_18 rfl
set_option maxRecDepth 20000 in
theorem k180_21 : mjCode 180 21 = some (.aload_n 0, 1, 0, 0) := by decide +kernel
theorem p180_21 {l0 : Int} {q1 q2 q3 q4 q5 q6 q7 q8 : MV} {ds : Ds} {m : Mm} {Q : Ds → Mm → List MV → Prop} : WP 180 21 [(2, l0), q1, q2, q3, q4, q5, q6, q7, q8] [] ds m Q = (WP 180 22 [(2, l0), q1, q2, q3, q4, q5, q6, q7, q8] [(2, l0)] ds m Q) := P_nx k180_21 rfl
set_option maxRecDepth 20000 in
theorem k180_22 : mjCode 180 22 = some (.bipush (-6), 2, 0, 0) := by decide +kernel
theorem p180_22 {s0 : Int} {q0 q1 q2 q3 q4 q5 q6 q7 q8 : MV} {ds : Ds} {m : Mm} {Q : Ds → Mm → List MV → Prop} : WP 180 22 [q0, q1, q2, q3, q4, q5, q6, q7, q8] [(2, s0)] ds m Q = (WP 180 24 [q0, q1, q2, q3, q4, q5, q6, q7, q8] [(0, (-6)), (2, s0)] ds m Q) := P_nx k180_22 rfl
set_option maxRecDepth 20000 in
theorem k180_24 : mjCode 180 24 = some (.invokevirtual 155, 3, 122, 2) := by decide +kernel
theorem p180_24 {s0 s1 : Int} {q0 q1 q2 q3 q4 q5 q6 q7 q8 : MV} {ds : Ds} {m : Mm} {Q : Ds → Mm → List MV → Prop} : WP 180 24 [q0, q1, q2, q3, q4, q5, q6, q7, q8] [(0, s0), (2, s1)] ds m Q = ((dk ds s1 = 7 ∧ WP 121 0 [(2, s1), (0, s0)] [] ds m (fun d2 m2 r2 => WP 180 27 [q0, q1, q2, q3, q4, q5, q6, q7, q8] (r2 ++ []) d2 m2 Q))) := P_cv k180_24 mx121 mo121 rfl rfl rfl rfl rfl rfl rfl rfl
set_option maxRecDepth 20000 in
theorem k180_27 : mjCode 180 27 = some (.ireturn, 1, 0, 0) := by decide +kernel
theorem p180_27 {s0 : Int} {q0 q1 q2 q3 q4 q5 q6 q7 q8 : MV} {ds : Ds} {m : Mm} {Q : Ds → Mm → List MV → Prop} : WP 180 27 [q0, q1, q2, q3, q4, q5, q6, q7, q8] [(0, s0)] ds m Q = (Q ds m [(0, s0)]) := P_ri k180_27 rk180
set_option maxRecDepth 20000 in
theorem k180_28 : mjCode 180 28 = some (.aload_n 0, 1, 0, 0) := by decide +kernel
theorem p180_28 {l0 : Int} {q1 q2 q3 q4 q5 q6 q7 q8 : MV} {ds : Ds} {m : Mm} {Q : Ds → Mm → List MV → Prop} : WP 180 28 [(2, l0), q1, q2, q3, q4, q5, q6, q7, q8] [] ds m Q = (WP 180 29 [(2, l0), q1, q2, q3, q4, q5, q6, q7, q8] [(2, l0)] ds m Q) := P_nx k180_28 rfl
set_option maxRecDepth 20000 in
theorem k180_29 : mjCode 180 29 = some (.iconst 0, 1, 0, 0) := by decide +kernel
theorem p180_29 {s0 : Int} {q0 q1 q2 q3 q4 q5 q6 q7 q8 : MV} {ds : Ds} {m : Mm} {Q : Ds → Mm → List MV → Prop} : WP 180 29 [q0, q1, q2, q3, q4, q5, q6, q7, q8] [(2, s0)] ds m Q = (WP 180 30 [q0, q1, q2, q3, q4, q5, q6, q7, q8] [(0, 0), (2, s0)] ds m Q) := P_nx k180_29 rfl
set_option maxRecDepth 20000 in
theorem k180_30 : mjCode 180 30 = some (.putfield 286, 3, 7, 49) := by decide +kernel
theorem p180_30 {s0 s1 : Int} {q0 q1 q2 q3 q4 q5 q6 q7 q8 : MV} {ds : Ds} {m : Mm} {Q : Ds → Mm → List MV → Prop} : WP 180 30 [q0, q1, q2, q3, q4, q5, q6, q7, q8] [(0, s0), (2, s1)] ds m Q = ((dk ds s1 = 7 ∧ WP 180 33 [q0, q1, q2, q3, q4, q5, q6, q7, q8] [] ds (up m s1 49 s0) Q)) := P_pf k180_30 rfl
set_option maxRecDepth 20000 in
theorem k180_33 : mjCode 180 33 = some (.iconst 1, 1, 0, 0) := by decide +kernel
theorem p180_33 {q0 q1 q2 q3 q4 q5 q6 q7 q8 : MV} {ds : Ds} {m : Mm} {Q : Ds → Mm → List MV → Prop} : WP 180 33 [q0, q1, q2, q3, q4, q5, q6, q7, q8] [] ds m Q = (WP 180 34 [q0, q1, q2, q3, q4, q5, q6, q7, q8] [(0, 1)] ds m Q) := P_nx k180_33 rfl
set_option maxRecDepth 20000 in
theorem k180_34 : mjCode 180 34 = some (.istore 4, 2, 0, 0) := by decide +kernel
theorem p180_34 {l3 s0 : Int} {q0 q1 q2 q4 q5 q6 q7 q8 : MV} {ds : Ds} {m : Mm} {Q : Ds → Mm → List MV → Prop} : WP 180 34 [q0, q1, q2, (0, l3), q4, q5, q6, q7, q8] [(0, s0)] ds m Q = (WP 180 36 [q0, q1, q2, (0, l3), (0, s0), q5, q6, q7, q8] [] ds m Q) := P_nx k180_34 rfl
set_option maxRecDepth 20000 in
theorem k180_36 : mjCode 180 36 = some (.iload 4, 2, 0, 0) := by decide +kernel
theorem p180_36 {l4 : Int} {q0 q1 q2 q3 q5 q6 q7 q8 : MV} {ds : Ds} {m : Mm} {Q : Ds → Mm → List MV → Prop} : WP 180 36 [q0, q1, q2, q3, (0, l4), q5, q6, q7, q8] [] ds m Q = (WP 180 38 [q0, q1, q2, q3, (0, l4), q5, q6, q7, q8] [(0, l4)] ds m Q) := P_nx k180_36 rfl
set_option maxRecDepth 20000 in
theorem k180_38 : mjCode 180 38 = some (.bipush 9, 2, 0, 0) := by decide +kernel
theorem p180_38 {s0 : Int} {q0 q1 q2 q3 q4 q5 q6 q7 q8 : MV} {ds : Ds} {m : Mm} {Q : Ds → Mm → List MV → Prop} : WP 180 38 [q0, q1, q2, q3, q4, q5, q6, q7, q8] [(0, s0)] ds m Q = (WP 180 40 [q0, q1, q2, q3, q4, q5, q6, q7, q8] [(0, 9), (0, s0)] ds m Q) := P_nx k180_38 rfl
set_option maxRecDepth 20000 in
theorem k180_40 : mjCode 180 40 = some (.if_icmp .gt 161, 3, 201, 0) := by decide +kernel
theorem p180_40 {s0 s1 : Int} {q0 q1 q2 q3 q4 q5 q6 q7 q8 : MV} {ds : Ds} {m : Mm} {Q : Ds → Mm → List MV → Prop} : WP 180 40 [q0, q1, q2, q3, q4, q5, q6, q7, q8] [(0, s0), (0, s1)] ds m Q = (if s0 < s1 then WP 180 201 [q0, q1, q2, q3, q4, q5, q6, q7, q8] [] ds m Q else WP 180 43 [q0, q1, q2, q3, q4, q5, q6, q7, q8] [] ds m Q) := P_if k180_40 rfl
set_option maxRecDepth 20000 in
theorem k180_43 : mjCode 180 43 = some (.aload_n 0, 1, 0, 0) := by decide +kernel
theorem p180_43 {l0 : Int} {q1 q2 q3 q4 q5 q6 q7 q8 : MV} {ds : Ds} {m : Mm} {Q : Ds → Mm → List MV → Prop} : WP 180 43 [(2, l0), q1, q2, q3, q4, q5, q6, q7, q8] [] ds m Q = (WP 180 44 [(2, l0), q1, q2, q3, q4, q5, q6, q7, q8] [(2, l0)] ds m Q) := P_nx k180_43 rfl
set_option maxRecDepth 20000 in
theorem k180_44 : mjCode 180 44 = some (.iload_n 2, 1, 0, 0) := by decide +kernel
theorem p180_44 {l2 s0 : Int} {q0 q1 q3 q4 q5 q6 q7 q8 : MV} {ds : Ds} {m : Mm} {Q : Ds → Mm → List MV → Prop} : WP 180 44 [q0, q1, (0, l2), q3, q4, q5, q6, q7, q8] [(2, s0)] ds m Q = (WP 180 45 [q0, q1, (0, l2), q3, q4, q5, q6, q7, q8] [(0, l2), (2, s0)] ds m Q) := P_nx k180_44 rfl
set_option maxRecDepth 20000 in
theorem k180_45 : mjCode 180 45 = some (.invokevirtual 266, 3, 174, 2) := by decide +kernel
theorem p180_45 {s0 s1 : Int} {q0 q1 q2 q3 q4 q5 q6 q7 q8 : MV} {ds : Ds} {m : Mm} {Q : Ds → Mm → List MV → Prop} : WP 180 45 [q0, q1, q2, q3, q4, q5, q6, q7, q8] [(0, s0), (2, s1)] ds m Q = ((dk ds s1 = 7 ∧ WP 173 0 [(2, s1), (0, s0)] [] ds m (fun d2 m2 r2 => WP 180 48 [q0, q1, q2, q3, q4, q5, q6, q7, q8] (r2 ++ []) d2 m2 Q))) := P_cv k180_45 mx173 mo173 rfl rfl rfl rfl rfl rfl rfl rfl
set_option maxRecDepth 20000 in
theorem k180_48 : mjCode 180 48 = some (.ifCond .eq 153, 3, 201, 0) := by decide +kernel
theorem p180_48 {s0 : Int} {q0 q1 q2 q3 q4 q5 q6 q7 q8 : MV} {ds : Ds} {m : Mm} {Q : Ds → Mm → List MV → Prop} : WP 180 48 [q0, q1, q2, q3, q4, q5, q6, q7, q8] [(0, s0)] ds m Q = (if s0 = 0 then WP 180 201 [q0, q1, q2, q3, q4, q5, q6, q7, q8] [] ds m Q else WP 180 51 [q0, q1, q2, q3, q4, q5, q6, q7, q8] [] ds m Q) := P_if k180_48 rfl
set_option maxRecDepth 20000 in
theorem k180_51 : mjCode 180 51 = some (.iload 4, 2, 0, 0) := by decide +kernel
theorem p180_51 {l4 : Int} {q0 q1 q2 q3 q5 q6 q7 q8 : MV} {ds : Ds} {m : Mm} {Q : Ds → Mm → List MV → Prop} : WP 180 51 [q0, q1, q2, q3, (0, l4), q5, q6, q7, q8] [] ds m Q = (WP 180 53 [q0, q1, q2, q3, (0, l4), q5, q6, q7, q8] [(0, l4)] ds m Q) := P_nx k180_51 rfl
set_option maxRecDepth 20000 in
theorem k180_53 : mjCode 180 53 = some (.iconst 1, 1, 0, 0) := by decide +kernel
theorem p180_53 {s0 : Int} {q0 q1 q2 q3 q4 q5 q6 q7 q8 : MV} {ds : Ds} {m : Mm} {Q : Ds → Mm → List MV → Prop} : WP 180 53 [q0, q1, q2, q3, q4, q5, q6, q7, q8] [(0, s0)] ds m Q = (WP 180 54 [q0, q1, q2, q3, q4, q5, q6, q7, q8] [(0, 1), (0, s0)] ds m Q) := P_nx k180_53 rfl
set_option maxRecDepth 20000 in
theorem k180_54 : mjCode 180 54 = some (.if_icmp .ne 7, 3, 61, 0) := by decide +kernel
theorem p180_54 {s0 s1 : Int} {q0 q1 q2 q3 q4 q5 q6 q7 q8 : MV} {ds : Ds} {m : Mm} {Q : Ds → Mm → List MV → Prop} : WP 180 54 [q0, q1, q2, q3, q4, q5, q6, q7, q8] [(0, s0), (0, s1)] ds m Q = (if s1 = s0 then WP 180 57 [q0, q1, q2, q3, q4, q5, q6, q7, q8] [] ds m Q else WP 180 61 [q0, q1, q2, q3, q4, q5, q6, q7, q8] [] ds m Q) := P_if k180_54 rfl
set_option maxRecDepth 20000 in
theorem k180_57 : mjCode 180 57 = some (.iconst 1, 1, 0, 0) := by decide +kernel
theorem p180_57 {q0 q1 q2 q3 q4 q5 q6 q7 q8 : MV} {ds : Ds} {m : Mm} {Q : Ds → Mm → List MV → Prop} : WP 180 57 [q0, q1, q2, q3, q4, q5, q6, q7, q8] [] ds m Q = (WP 180 58 [q0, q1, q2, q3, q4, q5, q6, q7, q8] [(0, 1)] ds m Q) := P_nx k180_57 rfl
set_option maxRecDepth 20000 in
theorem k180_58 : mjCode 180 58 = some (.goto 28, 3, 86, 0) := by decide +kernel
theorem p180_58 {s0 : Int} {q0 q1 q2 q3 q4 q5 q6 q7 q8 : MV} {ds : Ds} {m : Mm} {Q : Ds → Mm → List MV → Prop} : WP 180 58 [q0, q1, q2, q3, q4, q5, q6, q7, q8] [(0, s0)] ds m Q = (WP 180 86 [q0, q1, q2, q3, q4, q5, q6, q7, q8] [(0, s0)] ds m Q) := P_nx k180_58 rfl
set_option maxRecDepth 20000 in
theorem k180_61 : mjCode 180 61 = some (.iload 4, 2, 0, 0) := by decide +kernel
theorem p180_61 {l4 : Int} {q0 q1 q2 q3 q5 q6 q7 q8 : MV} {ds : Ds} {m : Mm} {Q : Ds → Mm → List MV → Prop} : WP 180 61 [q0, q1, q2, q3, (0, l4), q5, q6, q7, q8] [] ds m Q = (WP 180 63 [q0, q1, q2, q3, (0, l4), q5, q6, q7, q8] [(0, l4)] ds m Q) := P_nx k180_61 rfl
set_option maxRecDepth 20000 in
theorem k180_63 : mjCode 180 63 = some (.invokestatic 145, 3, 125, 1) := by decide +kernel
theorem p180_63 {s0 : Int} {q0 q1 q2 q3 q4 q5 q6 q7 q8 : MV} {ds : Ds} {m : Mm} {Q : Ds → Mm → List MV → Prop} : WP 180 63 [q0, q1, q2, q3, q4, q5, q6, q7, q8] [(0, s0)] ds m Q = (WP 124 0 [(0, s0)] [] ds m (fun d2 m2 r2 => WP 180 66 [q0, q1, q2, q3, q4, q5, q6, q7, q8] (r2 ++ []) d2 m2 Q)) := P_cs k180_63 mx124 rfl rfl rfl rfl rfl rfl rfl
set_option maxRecDepth 20000 in
theorem k180_66 : mjCode 180 66 = some (.ifCond .eq 7, 3, 73, 0) := by decide +kernel
theorem p180_66 {s0 : Int} {q0 q1 q2 q3 q4 q5 q6 q7 q8 : MV} {ds : Ds} {m : Mm} {Q : Ds → Mm → List MV → Prop} : WP 180 66 [q0, q1, q2, q3, q4, q5, q6, q7, q8] [(0, s0)] ds m Q = (if s0 = 0 then WP 180 73 [q0, q1, q2, q3, q4, q5, q6, q7, q8] [] ds m Q else WP 180 69 [q0, q1, q2, q3, q4, q5, q6, q7, q8] [] ds m Q) := P_if k180_66 rfl
set_option maxRecDepth 20000 in
theorem k180_69 : mjCode 180 69 = some (.iconst 3, 1, 0, 0) := by decide +kernel
theorem p180_69 {q0 q1 q2 q3 q4 q5 q6 q7 q8 : MV} {ds : Ds} {m : Mm} {Q : Ds → Mm → List MV → Prop} : WP 180 69 [q0, q1, q2, q3, q4, q5, q6, q7, q8] [] ds m Q = (WP 180 70 [q0, q1, q2, q3, q4, q5, q6, q7, q8] [(0, 3)] ds m Q) := P_nx k180_69 rfl
set_option maxRecDepth 20000 in
theorem k180_70 : mjCode 180 70 = some (.goto 16, 3, 86, 0) := by decide +kernel
theorem p180_70 {s0 : Int} {q0 q1 q2 q3 q4 q5 q6 q7 q8 : MV} {ds : Ds} {m : Mm} {Q : Ds → Mm → List MV → Prop} : WP 180 70 [q0, q1, q2, q3, q4, q5, q6, q7, q8] [(0, s0)] ds m Q = (WP 180 86 [q0, q1, q2, q3, q4, q5, q6, q7, q8] [(0, s0)] ds m Q) := P_nx k180_70 rfl
set_option maxRecDepth 20000 in
theorem k180_73 : mjCode 180 73 = some (.iload 4, 2, 0, 0) := by decide +kernel
theorem p180_73 {l4 : Int} {q0 q1 q2 q3 q5 q6 q7 q8 : MV} {ds : Ds} {m : Mm} {Q : Ds → Mm → List MV → Prop} : WP 180 73 [q0, q1, q2, q3, (0, l4), q5, q6, q7, q8] [] ds m Q = (WP 180 75 [q0, q1, q2, q3, (0, l4), q5, q6, q7, q8] [(0, l4)] ds m Q) := P_nx k180_73 rfl
set_option maxRecDepth 20000 in
theorem k180_75 : mjCode 180 75 = some (.bipush 9, 2, 0, 0) := by decide +kernel
theorem p180_75 {s0 : Int} {q0 q1 q2 q3 q4 q5 q6 q7 q8 : MV} {ds : Ds} {m : Mm} {Q : Ds → Mm → List MV → Prop} : WP 180 75 [q0, q1, q2, q3, q4, q5, q6, q7, q8] [(0, s0)] ds m Q = (WP 180 77 [q0, q1, q2, q3, q4, q5, q6, q7, q8] [(0, 9), (0, s0)] ds m Q) := P_nx k180_75 rfl
set_option maxRecDepth 20000 in
theorem k180_77 : mjCode 180 77 = some (.if_icmp .ne 8, 3, 85, 0) := by decide +kernel
theorem p180_77 {s0 s1 : Int} {q0 q1 q2 q3 q4 q5 q6 q7 q8 : MV} {ds : Ds} {m : Mm} {Q : Ds → Mm → List MV → Prop} : WP 180 77 [q0, q1, q2, q3, q4, q5, q6, q7, q8] [(0, s0), (0, s1)] ds m Q = (if s1 = s0 then WP 180 80 [q0, q1, q2, q3, q4, q5, q6, q7, q8] [] ds m Q else WP 180 85 [q0, q1, q2, q3, q4, q5, q6, q7, q8] [] ds m Q) := P_if k180_77 rfl
set_option maxRecDepth 20000 in
theorem k180_80 : mjCode 180 80 = some (.bipush 12, 2, 0, 0) := by decide +kernel
theorem p180_80 {q0 q1 q2 q3 q4 q5 q6 q7 q8 : MV} {ds : Ds} {m : Mm} {Q : Ds → Mm → List MV → Prop} : WP 180 80 [q0, q1, q2, q3, q4, q5, q6, q7, q8] [] ds m Q = (WP 180 82 [q0, q1, q2, q3, q4, q5, q6, q7, q8] [(0, 12)] ds m Q) := P_nx k180_80 rfl
set_option maxRecDepth 20000 in
theorem k180_82 : mjCode 180 82 = some (.goto 4, 3, 86, 0) := by decide +kernel
theorem p180_82 {s0 : Int} {q0 q1 q2 q3 q4 q5 q6 q7 q8 : MV} {ds : Ds} {m : Mm} {Q : Ds → Mm → List MV → Prop} : WP 180 82 [q0, q1, q2, q3, q4, q5, q6, q7, q8] [(0, s0)] ds m Q = (WP 180 86 [q0, q1, q2, q3, q4, q5, q6, q7, q8] [(0, s0)] ds m Q) := P_nx k180_82 rfl
set_option maxRecDepth 20000 in
theorem k180_85 : mjCode 180 85 = some (.iconst 0, 1, 0, 0) := by decide +kernel
theorem p180_85 {q0 q1 q2 q3 q4 q5 q6 q7 q8 : MV} {ds : Ds} {m : Mm} {Q : Ds → Mm → List MV → Prop} : WP 180 85 [q0, q1, q2, q3, q4, q5, q6, q7, q8] [] ds m Q = (WP 180 86 [q0, q1, q2, q3, q4, q5, q6, q7, q8] [(0, 0)] ds m Q) := P_nx k180_85 rfl
set_option maxRecDepth 20000 in
theorem k180_86 : mjCode 180 86 = some (.istore 5, 2, 0, 0) := by decide +kernel
theorem p180_86 {l4 s0 : Int} {q0 q1 q2 q3 q5 q6 q7 q8 : MV} {ds : Ds} {m : Mm} {Q : Ds → Mm → List MV → Prop} : WP 180 86 [q0, q1, q2, q3, (0, l4), q5, q6, q7, q8] [(0, s0)] ds m Q = (WP 180 88 [q0, q1, q2, q3, (0, l4), (0, s0), q6, q7, q8] [] ds m Q) := P_nx k180_86 rfl
set_option maxRecDepth 20000 in
theorem k180_88 : mjCode 180 88 = some (.iload 4, 2, 0, 0) := by decide +kernel
theorem p180_88 {l4 : Int} {q0 q1 q2 q3 q5 q6 q7 q8 : MV} {ds : Ds} {m : Mm} {Q : Ds → Mm → List MV → Prop} : WP 180 88 [q0, q1, q2, q3, (0, l4), q5, q6, q7, q8] [] ds m Q = (WP 180 90 [q0, q1, q2, q3, (0, l4), q5, q6, q7, q8] [(0, l4)] ds m Q) := P_nx k180_88 rfl
set_option maxRecDepth 20000 in
theorem k180_90 : mjCode 180 90 = some (.iconst 4, 1, 0, 0) := by decide +kernel
theorem p180_90 {s0 : Int} {q0 q1 q2 q3 q4 q5 q6 q7 q8 : MV} {ds : Ds} {m : Mm} {Q : Ds → Mm → List MV → Prop} : WP 180 90 [q0, q1, q2, q3, q4, q5, q6, q7, q8] [(0, s0)] ds m Q = (WP 180 91 [q0, q1, q2, q3, q4, q5, q6, q7, q8] [(0, 4), (0, s0)] ds m Q) := P_nx k180_90 rfl
set_option maxRecDepth 20000 in
theorem k180_91 : mjCode 180 91 = some (.if_icmp .ne 8, 3, 99, 0) := by decide +kernel
theorem p180_91 {s0 s1 : Int} {q0 q1 q2 q3 q4 q5 q6 q7 q8 : MV} {ds : Ds} {m : Mm} {Q : Ds → Mm → List MV → Prop} : WP 180 91 [q0, q1, q2, q3, q4, q5, q6, q7, q8] [(0, s0), (0, s1)] ds m Q = (if s1 = s0 then WP 180 94 [q0, q1, q2, q3, q4, q5, q6, q7, q8] [] ds m Q else WP 180 99 [q0, q1, q2, q3, q4, q5, q6, q7, q8] [] ds m Q) := P_if k180_91 rfl
set_option maxRecDepth 20000 in
theorem k180_94 : mjCode 180 94 = some (.bipush 9, 2, 0, 0) := by decide +kernel
theorem p180_94 {q0 q1 q2 q3 q4 q5 q6 q7 q8 : MV} {ds : Ds} {m : Mm} {Q : Ds → Mm → List MV → Prop} : WP 180 94 [q0, q1, q2, q3, q4, q5, q6, q7, q8] [] ds m Q = (WP 180 96 [q0, q1, q2, q3, q4, q5, q6, q7, q8] [(0, 9)] ds m Q) := P_nx k180_94 rfl
set_option maxRecDepth 20000 in
theorem k180_96 : mjCode 180 96 = some (.goto 15, 3, 111, 0) := by decide +kernel
theorem p180_96 {s0 : Int} {q0 q1 q2 q3 q4 q5 q6 q7 q8 : MV} {ds : Ds} {m : Mm} {Q : Ds → Mm → List MV → Prop} : WP 180 96 [q0, q1, q2, q3, q4, q5, q6, q7, q8] [(0, s0)] ds m Q = (WP 180 111 [q0, q1, q2, q3, q4, q5, q6, q7, q8] [(0, s0)] ds m Q) := P_nx k180_96 rfl
set_option maxRecDepth 20000 in
theorem k180_99 : mjCode 180 99 = some (.iload 4, 2, 0, 0) := by decide +kernel
theorem p180_99 {l4 : Int} {q0 q1 q2 q3 q5 q6 q7 q8 : MV} {ds : Ds} {m : Mm} {Q : Ds → Mm → List MV → Prop} : WP 180 99 [q0, q1, q2, q3, (0, l4), q5, q6, q7, q8] [] ds m Q = (WP 180 101 [q0, q1, q2, q3, (0, l4), q5, q6, q7, q8] [(0, l4)] ds m Q) := P_nx k180_99 rfl
set_option maxRecDepth 20000 in
theorem k180_101 : mjCode 180 101 = some (.bipush 6, 2, 0, 0) := by decide +kernel
theorem p180_101 {s0 : Int} {q0 q1 q2 q3 q4 q5 q6 q7 q8 : MV} {ds : Ds} {m : Mm} {Q : Ds → Mm → List MV → Prop} : WP 180 101 [q0, q1, q2, q3, q4, q5, q6, q7, q8] [(0, s0)] ds m Q = (WP 180 103 [q0, q1, q2, q3, q4, q5, q6, q7, q8] [(0, 6), (0, s0)] ds m Q) := P_nx k180_101 rfl
set_option maxRecDepth 20000 in
theorem k180_103 : mjCode 180 103 = some (.if_icmp .ne 7, 3, 110, 0) := by decide +kernel
theorem p180_103 {s0 s1 : Int} {q0 q1 q2 q3 q4 q5 q6 q7 q8 : MV} {ds : Ds} {m : Mm} {Q : Ds → Mm → List MV → Prop} : WP 180 103 [q0, q1, q2, q3, q4, q5, q6, q7, q8] [(0, s0), (0, s1)] ds m Q = (if s1 = s0 then WP 180 106 [q0, q1, q2, q3, q4, q5, q6, q7, q8] [] ds m Q else WP 180 110 [q0, q1, q2, q3, q4, q5, q6, q7, q8] [] ds m Q) := P_if k180_103 rfl
set_option maxRecDepth 20000 in
theorem k180_106 : mjCode 180 106 = some (.iconst 3, 1, 0, 0) := by decide +kernel
theorem p180_106 {q0 q1 q2 q3 q4 q5 q6 q7 q8 : MV} {ds : Ds} {m : Mm} {Q : Ds → Mm → List MV → Prop} : WP 180 106 [q0, q1, q2, q3, q4, q5, q6, q7, q8] [] ds m Q = (WP 180 107 [q0, q1, q2, q3, q4, q5, q6, q7, q8] [(0, 3)] ds m Q) := P_nx k180_106 rfl
set_option maxRecDepth 20000 in
theorem k180_107 : mjCode 180 107 = some (.goto 4, 3, 111, 0) := by decide +kernel
theorem p180_107 {s0 : Int} {q0 q1 q2 q3 q4 q5 q6 q7 q8 : MV} {ds : Ds} {m : Mm} {Q : Ds → Mm → List MV → Prop} : WP 180 107 [q0, q1, q2, q3, q4, q5, q6, q7, q8] [(0, s0)] ds m Q = (WP 180 111 [q0, q1, q2, q3, q4, q5, q6, q7, q8] [(0, s0)] ds m Q) := P_nx k180_107 rfl
set_option maxRecDepth 20000 in
theorem k180_110 : mjCode 180 110 = some (.iconst 0, 1, 0, 0) := by decide +kernel
theorem p180_110 {q0 q1 q2 q3 q4 q5 q6 q7 q8 : MV} {ds : Ds} {m : Mm} {Q : Ds → Mm → List MV → Prop} : WP 180 110 [q0, q1, q2, q3, q4, q5, q6, q7, q8] [] ds m Q = (WP 180 111 [q0, q1, q2, q3, q4, q5, q6, q7, q8] [(0, 0)] ds m Q) := P_nx k180_110 rfl
set_option maxRecDepth 20000 in
theorem k180_111 : mjCode 180 111 = some (.istore 6, 2, 0, 0) := by decide +kernel
theorem p180_111 {l5 s0 : Int} {q0 q1 q2 q3 q4 q6 q7 q8 : MV} {ds : Ds} {m : Mm} {Q : Ds → Mm → List MV → Prop} : WP 180 111 [q0, q1, q2, q3, q4, (0, l5), q6, q7, q8] [(0, s0)] ds m Q = (WP 180 113 [q0, q1, q2, q3, q4, (0, l5), (0, s0), q7, q8] [] ds m Q) := P_nx k180_111 rfl
set_option maxRecDepth 20000 in
theorem k180_113 : mjCode 180 113 = some (.iconst 0, 1, 0, 0) := by decide +kernel
theorem p180_113 {q0 q1 q2 q3 q4 q5 q6 q7 q8 : MV} {ds : Ds} {m : Mm} {Q : Ds → Mm → List MV → Prop} : WP 180 113 [q0, q1, q2, q3, q4, q5, q6, q7, q8] [] ds m Q = (WP 180 114 [q0, q1, q2, q3, q4, q5, q6, q7, q8] [(0, 0)] ds m Q) := P_nx k180_113 rfl
set_option maxRecDepth 20000 in
theorem k180_114 : mjCode 180 114 = some (.istore 7, 2, 0, 0) := by decide +kernel
theorem p180_114 {l6 s0 : Int} {q0 q1 q2 q3 q4 q5 q7 q8 : MV} {ds : Ds} {m : Mm} {Q : Ds → Mm → List MV → Prop} : WP 180 114 [q0, q1, q2, q3, q4, q5, (0, l6), q7, q8] [(0, s0)] ds m Q = (WP 180 116 [q0, q1, q2, q3, q4, q5, (0, l6), (0, s0), q8] [] ds m Q) := P_nx k180_114 rfl
set_option maxRecDepth 20000 in
theorem k180_116 : mjCode 180 116 = some (.iload 7, 2, 0, 0) := by decide +kernel
theorem p180_116 {l7 : Int} {q0 q1 q2 q3 q4 q5 q6 q8 : MV} {ds : Ds} {m : Mm} {Q : Ds → Mm → List MV → Prop} : WP 180 116 [q0, q1, q2, q3, q4, q5, q6, (0, l7), q8] [] ds m Q = (WP 180 118 [q0, q1, q2, q3, q4, q5, q6, (0, l7), q8] [(0, l7)] ds m Q) := P_nx k180_116 rfl
set_option maxRecDepth 20000 in
theorem k180_118 : mjCode 180 118 = some (.iload 5, 2, 0, 0) := by decide +kernel
theorem p180_118 {l5 s0 : Int} {q0 q1 q2 q3 q4 q6 q7 q8 : MV} {ds : Ds} {m : Mm} {Q : Ds → Mm → List MV → Prop} : WP 180 118 [q0, q1, q2, q3, q4, (0, l5), q6, q7, q8] [(0, s0)] ds m Q = (WP 180 120 [q0, q1, q2, q3, q4, (0, l5), q6, q7, q8] [(0, l5), (0, s0)] ds m Q) := P_nx k180_118 rfl
set_option maxRecDepth 20000 in
theorem k180_120 : mjCode 180 120 = some (.if_icmp .gt 75, 3, 195, 0) := by decide +kernel
theorem p180_120 {s0 s1 : Int} {q0 q1 q2 q3 q4 q5 q6 q7 q8 : MV} {ds : Ds} {m : Mm} {Q : Ds → Mm → List MV → Prop} : WP 180 120 [q0, q1, q2, q3, q4, q5, q6, q7, q8] [(0, s0), (0, s1)] ds m Q = (if s0 < s1 then WP 180 195 [q0, q1, q2, q3, q4, q5, q6, q7, q8] [] ds m Q else WP 180 123 [q0, q1, q2, q3, q4, q5, q6, q7, q8] [] ds m Q) := P_if k180_120 rfl
set_option maxRecDepth 20000 in
theorem k180_123 : mjCode 180 123 = some (.iload 4, 2, 0, 0) := by decide +kernel
theorem p180_123 {l4 : Int} {q0 q1 q2 q3 q5 q6 q7 q8 : MV} {ds : Ds} {m : Mm} {Q : Ds → Mm → List MV → Prop} : WP 180 123 [q0, q1, q2, q3, (0, l4), q5, q6, q7, q8] [] ds m Q = (WP 180 125 [q0, q1, q2, q3, (0, l4), q5, q6, q7, q8] [(0, l4)] ds m Q) := P_nx k180_123 rfl
set_option maxRecDepth 20000 in
theorem k180_125 : mjCode 180 125 = some (.iconst 3, 1, 0, 0) := by decide +kernel
theorem p180_125 {s0 : Int} {q0 q1 q2 q3 q4 q5 q6 q7 q8 : MV} {ds : Ds} {m : Mm} {Q : Ds → Mm → List MV → Prop} : WP 180 125 [q0, q1, q2, q3, q4, q5, q6, q7, q8] [(0, s0)] ds m Q = (WP 180 126 [q0, q1, q2, q3, q4, q5, q6, q7, q8] [(0, 3), (0, s0)] ds m Q) := P_nx k180_125 rfl
set_option maxRecDepth 20000 in
theorem k180_126 : mjCode 180 126 = some (.if_icmp .eq 69, 3, 195, 0) := by decide +kernel
theorem p180_126 {s0 s1 : Int} {q0 q1 q2 q3 q4 q5 q6 q7 q8 : MV} {ds : Ds} {m : Mm} {Q : Ds → Mm → List MV → Prop} : WP 180 126 [q0, q1, q2, q3, q4, q5, q6, q7, q8] [(0, s0), (0, s1)] ds m Q = (if s1 = s0 then WP 180 195 [q0, q1, q2, q3, q4, q5, q6, q7, q8] [] ds m Q else WP 180 129 [q0, q1, q2, q3, q4, q5, q6, q7, q8] [] ds m Q) := P_if k180_126 rfl
set_option maxRecDepth 20000 in
theorem k180_129 : mjCode 180 129 = some (.iload 4, 2, 0, 0) := by decide +kernel
theorem p180_129 {l4 : Int} {q0 q1 q2 q3 q5 q6 q7 q8 : MV} {ds : Ds} {m : Mm} {Q : Ds → Mm → List MV → Prop} : WP 180 129 [q0, q1, q2, q3, (0, l4), q5, q6, q7, q8] [] ds m Q = (WP 180 131 [q0, q1, q2, q3, (0, l4), q5, q6, q7, q8] [(0, l4)] ds m Q) := P_nx k180_129 rfl
set_option maxRecDepth 20000 in
theorem k180_131 : mjCode 180 131 = some (.bipush 8, 2, 0, 0) := by decide +kernel
theorem p180_131 {s0 : Int} {q0 q1 q2 q3 q4 q5 q6 q7 q8 : MV} {ds : Ds} {m : Mm} {Q : Ds → Mm → List MV → Prop} : WP 180 131 [q0, q1, q2, q3, q4, q5, q6, q7, q8] [(0, s0)] ds m Q = (WP 180 133 [q0, q1, q2, q3, q4, q5, q6, q7, q8] [(0, 8), (0, s0)] ds m Q) := P_nx k180_131 rfl
set_option maxRecDepth 20000 in
theorem k180_133 : mjCode 180 133 = some (.if_icmp .eq 62, 3, 195, 0) := by decide +kernel
theorem p180_133 {s0 s1 : Int} {q0 q1 q2 q3 q4 q5 q6 q7 q8 : MV} {ds : Ds} {m : Mm} {Q : Ds → Mm → List MV → Prop} : WP 180 133 [q0, q1, q2, q3, q4, q5, q6, q7, q8] [(0, s0), (0, s1)] ds m Q = (if s1 = s0 then WP 180 195 [q0, q1, q2, q3, q4, q5, q6, q7, q8] [] ds m Q else WP 180 136 [q0, q1, q2, q3, q4, q5, q6, q7, q8] [] ds m Q) := P_if k180_133 rfl
set_option maxRecDepth 20000 in
theorem k180_136 : mjCode 180 136 = some (.iload 6, 2, 0, 0) := by decide +kernel
theorem p180_136 {l6 : Int} {q0 q1 q2 q3 q4 q5 q7 q8 : MV} {ds : Ds} {m : Mm} {Q : Ds → Mm → List MV → Prop} : WP 180 136 [q0, q1, q2, q3, q4, q5, (0, l6), q7, q8] [] ds m Q = (WP 180 138 [q0, q1, q2, q3, q4, q5, (0, l6), q7, q8] [(0, l6)] ds m Q) := P_nx k180_136 rfl
set_option maxRecDepth 20000 in
theorem k180_138 : mjCode 180 138 = some (.ifCond .le 7, 3, 145, 0) := by decide +kernel
theorem p180_138 {s0 : Int} {q0 q1 q2 q3 q4 q5 q6 q7 q8 : MV} {ds : Ds} {m : Mm} {Q : Ds → Mm → List MV → Prop} : WP 180 138 [q0, q1, q2, q3, q4, q5, q6, q7, q8] [(0, s0)] ds m Q = (if 0 < s0 then WP 180 141 [q0, q1, q2, q3, q4, q5, q6, q7, q8] [] ds m Q else WP 180 145 [q0, q1, q2, q3, q4, q5, q6, q7, q8] [] ds m Q) := P_if k180_138 rfl
set_option maxRecDepth 20000 in
theorem k180_141 : mjCode 180 141 = some (.iconst 1, 1, 0, 0) := by decide +kernel
theorem p180_141 {q0 q1 q2 q3 q4 q5 q6 q7 q8 : MV} {ds : Ds} {m : Mm} {Q : Ds → Mm → List MV → Prop} : WP 180 141 [q0, q1, q2, q3, q4, q5, q6, q7, q8] [] ds m Q = (WP 180 142 [q0, q1, q2, q3, q4, q5, q6, q7, q8] [(0, 1)] ds m Q) := P_nx k180_141 rfl
set_option maxRecDepth 20000 in
theorem k180_142 : mjCode 180 142 = some (.goto 4, 3, 146, 0) := by decide +kernel
theorem p180_142 {s0 : Int} {q0 q1 q2 q3 q4 q5 q6 q7 q8 : MV} {ds : Ds} {m : Mm} {Q : Ds → Mm → List MV → Prop} : WP 180 142 [q0, q1, q2, q3, q4, q5, q6, q7, q8] [(0, s0)] ds m Q = (WP 180 146 [q0, q1, q2, q3, q4, q5, q6, q7, q8] [(0, s0)] ds m Q) := P_nx k180_142 rfl
set_option maxRecDepth 20000 in
theorem k180_145 : mjCode 180 145 = some (.iconst 0, 1, 0, 0) := by decide +kernel
theorem p180_145 {q0 q1 q2 q3 q4 q5 q6 q7 q8 : MV} {ds : Ds} {m : Mm} {Q : Ds → Mm → List MV → Prop} : WP 180 145 [q0, q1, q2, q3, q4, q5, q6, q7, q8] [] ds m Q = (WP 180 146 [q0, q1, q2, q3, q4, q5, q6, q7, q8] [(0, 0)] ds m Q) := P_nx k180_145 rfl
set_option maxRecDepth 20000 in
theorem k180_146 : mjCode 180 146 = some (.istore 8, 2, 0, 0) := by decide +kernel
theorem p180_146 {l7 s0 : Int} {q0 q1 q2 q3 q4 q5 q6 q8 : MV} {ds : Ds} {m : Mm} {Q : Ds → Mm → List MV → Prop} : WP 180 146 [q0, q1, q2, q3, q4, q5, q6, (0, l7), q8] [(0, s0)] ds m Q = (WP 180 148 [q0, q1, q2, q3, q4, q5, q6, (0, l7), (0, s0)] [] ds m Q) := P_nx k180_146 rfl
set_option maxRecDepth 20000 in
theorem k180_148 : mjCode 180 148 = some (.iload 8, 2, 0, 0) := by decide +kernel
theorem p180_148 {l8 : Int} {q0 q1 q2 q3 q4 q5 q6 q7 : MV} {ds : Ds} {m : Mm} {Q : Ds → Mm → List MV → Prop} : WP 180 148 [q0, q1, q2, q3, q4, q5, q6, q7, (0, l8)] [] ds m Q = (WP 180 150 [q0, q1, q2, q3, q4, q5, q6, q7, (0, l8)] [(0, l8)] ds m Q) := P_nx k180_148 rfl
set_option maxRecDepth 20000 in
theorem k180_150 : mjCode 180 150 = some (.iload 6, 2, 0, 0) := by decide +kernel
theorem p180_150 {l6 s0 : Int} {q0 q1 q2 q3 q4 q5 q7 q8 : MV} {ds : Ds} {m : Mm} {Q : Ds → Mm → List MV → Prop} : WP 180 150 [q0, q1, q2, q3, q4, q5, (0, l6), q7, q8] [(0, s0)] ds m Q = (WP 180 152 [q0, q1, q2, q3, q4, q5, (0, l6), q7, q8] [(0, l6), (0, s0)] ds m Q) := P_nx k180_150 rfl
set_option maxRecDepth 20000 in
theorem k180_152 : mjCode 180 152 = some (.if_icmp .gt 37, 3, 189, 0) := by decide +kernel
theorem p180_152 {s0 s1 : Int} {q0 q1 q2 q3 q4 q5 q6 q7 q8 : MV} {ds : Ds} {m : Mm} {Q : Ds → Mm → List MV → Prop} : WP 180 152 [q0, q1, q2, q3, q4, q5, q6, q7, q8] [(0, s0), (0, s1)] ds m Q = (if s0 < s1 then WP 180 189 [q0, q1, q2, q3, q4, q5, q6, q7, q8] [] ds m Q else WP 180 155 [q0, q1, q2, q3, q4, q5, q6, q7, q8] [] ds m Q) := P_if k180_152 rfl
set_option maxRecDepth 20000 in
theorem k180_155 : mjCode 180 155 = some (.iload 4, 2, 0, 0) := by decide +kernel
theorem p180_155 {l4 : Int} {q0 q1 q2 q3 q5 q6 q7 q8 : MV} {ds : Ds} {m : Mm} {Q : Ds → Mm → List MV → Prop} : WP 180 155 [q0, q1, q2, q3, (0, l4), q5, q6, q7, q8] [] ds m Q = (WP 180 157 [q0, q1, q2, q3, (0, l4), q5, q6, q7, q8] [(0, l4)] ds m Q) := P_nx k180_155 rfl
set_option maxRecDepth 20000 in
theorem k180_157 : mjCode 180 157 = some (.bipush 9, 2, 0, 0) := by decide +kernel
theorem p180_157 {s0 : Int} {q0 q1 q2 q3 q4 q5 q6 q7 q8 : MV} {ds : Ds} {m : Mm} {Q : Ds → Mm → List MV → Prop} : WP 180 157 [q0, q1, q2, q3, q4, q5, q6, q7, q8] [(0, s0)] ds m Q = (WP 180 159 [q0, q1, q2, q3, q4, q5, q6, q7, q8] [(0, 9), (0, s0)] ds m Q) := P_nx k180_157 rfl
set_option maxRecDepth 20000 in
theorem k180_159 : mjCode 180 159 = some (.if_icmp .ne 11, 3, 170, 0) := by decide +kernel
theorem p180_159 {s0 s1 : Int} {q0 q1 q2 q3 q4 q5 q6 q7 q8 : MV} {ds : Ds} {m : Mm} {Q : Ds → Mm → List MV → Prop} : WP 180 159 [q0, q1, q2, q3, q4, q5, q6, q7, q8] [(0, s0), (0, s1)] ds m Q = (if s1 = s0 then WP 180 162 [q0, q1, q2, q3, q4, q5, q6, q7, q8] [] ds m Q else WP 180 170 [q0, q1, q2, q3, q4, q5, q6, q7, q8] [] ds m Q) := P_if k180_159 rfl
set_option maxRecDepth 20000 in
theorem k180_162 : mjCode 180 162 = some (.iload 7, 2, 0, 0) := by decide +kernel
theorem p180_162 {l7 : Int} {q0 q1 q2 q3 q4 q5 q6 q8 : MV} {ds : Ds} {m : Mm} {Q : Ds → Mm → List MV → Prop} : WP 180 162 [q0, q1, q2, q3, q4, q5, q6, (0, l7), q8] [] ds m Q = (WP 180 164 [q0, q1, q2, q3, q4, q5, q6, (0, l7), q8] [(0, l7)] ds m Q) := P_nx k180_162 rfl
set_option maxRecDepth 20000 in
theorem k180_164 : mjCode 180 164 = some (.invokestatic 149, 3, 126, 1) := by decide +kernel
theorem p180_164 {s0 : Int} {q0 q1 q2 q3 q4 q5 q6 q7 q8 : MV} {ds : Ds} {m : Mm} {Q : Ds → Mm → List MV → Prop} : WP 180 164 [q0, q1, q2, q3, q4, q5, q6, q7, q8] [(0, s0)] ds m Q = (WP 125 0 [(0, s0)] [] ds m (fun d2 m2 r2 => WP 180 167 [q0, q1, q2, q3, q4, q5, q6, q7, q8] (r2 ++ []) d2 m2 Q)) := P_cs k180_164 mx125 rfl rfl rfl rfl rfl rfl rfl
set_option maxRecDepth 20000 in
theorem k180_167 : mjCode 180 167 = some (.ifCond .eq 16, 3, 183, 0) := by decide +kernel
theorem p180_167 {s0 : Int} {q0 q1 q2 q3 q4 q5 q6 q7 q8 : MV} {ds : Ds} {m : Mm} {Q : Ds → Mm → List MV → Prop} : WP 180 167 [q0, q1, q2, q3, q4, q5, q6, q7, q8] [(0, s0)] ds m Q = (if s0 = 0 then WP 180 183 [q0, q1, q2, q3, q4, q5, q6, q7, q8] [] ds m Q else WP 180 170 [q0, q1, q2, q3, q4, q5, q6, q7, q8] [] ds m Q) := P_if k180_167 rfl
set_option maxRecDepth 20000 in
theorem k180_170 : mjCode 180 170 = some (.aload_n 0, 1, 0, 0) := by decide +kernel
theorem p180_170 {l0 : Int} {q1 q2 q3 q4 q5 q6 q7 q8 : MV} {ds : Ds} {m : Mm} {Q : Ds → Mm → List MV → Prop} : WP 180 170 [(2, l0), q1, q2, q3, q4, q5, q6, q7, q8] [] ds m Q = (WP 180 171 [(2, l0), q1, q2, q3, q4, q5, q6, q7, q8] [(2, l0)] ds m Q) := P_nx k180_170 rfl
set_option maxRecDepth 20000 in
theorem k180_171 : mjCode 180 171 = some (.iload_n 1, 1, 0, 0) := by decide +kernel
theorem p180_171 {l1 s0 : Int} {q0 q2 q3 q4 q5 q6 q7 q8 : MV} {ds : Ds} {m : Mm} {Q : Ds → Mm → List MV → Prop} : WP 180 171 [q0, (0, l1), q2, q3, q4, q5, q6, q7, q8] [(2, s0)] ds m Q = (WP 180 172 [q0, (0, l1), q2, q3, q4, q5, q6, q7, q8] [(0, l1), (2, s0)] ds m Q) := P_nx k180_171 rfl
set_option maxRecDepth 20000 in
theorem k180_172 : mjCode 180 172 = some (.iload 4, 2, 0, 0) := by decide +kernel
theorem p180_172 {l4 s0 s1 : Int} {q0 q1 q2 q3 q5 q6 q7 q8 : MV} {ds : Ds} {m : Mm} {Q : Ds → Mm → List MV → Prop} : WP 180 172 [q0, q1, q2, q3, (0, l4), q5, q6, q7, q8] [(0, s0), (2, s1)] ds m Q = (WP 180 174 [q0, q1, q2, q3, (0, l4), q5, q6, q7, q8] [(0, l4), (0, s0), (2, s1)] ds m Q) := P_nx k180_172 rfl
set_option maxRecDepth 20000 in
theorem k180_174 : mjCode 180 174 = some (.iload 7, 2, 0, 0) := by decide +kernel
theorem p180_174 {l7 s0 s1 s2 : Int} {q0 q1 q2 q3 q4 q5 q6 q8 : MV} {ds : Ds} {m : Mm} {Q : Ds → Mm → List MV → Prop} : WP 180 174 [q0, q1, q2, q3, q4, q5, q6, (0, l7), q8] [(0, s0), (0, s1), (2, s2)] ds m Q = (WP 180 176 [q0, q1, q2, q3, q4, q5, q6, (0, l7), q8] [(0, l7), (0, s0), (0, s1), (2, s2)] ds m Q) := P_nx k180_174 rfl
set_option maxRecDepth 20000 in
theorem k180_176 : mjCode 180 176 = some (.iload 8, 2, 0, 0) := by decide +kernel
theorem p180_176 {l8 s0 s1 s2 s3 : Int} {q0 q1 q2 q3 q4 q5 q6 q7 : MV} {ds : Ds} {m : Mm} {Q : Ds → Mm → List MV → Prop} : WP 180 176 [q0, q1, q2, q3, q4, q5, q6, q7, (0, l8)] [(0, s0), (0, s1), (0, s2), (2, s3)] ds m Q = (WP 180 178 [q0, q1, q2, q3, q4, q5, q6, q7, (0, l8)] [(0, l8), (0, s0), (0, s1), (0, s2), (2, s3)] ds m Q) := P_nx k180_176 rfl
set_option maxRecDepth 20000 in
theorem k180_178 : mjCode 180 178 = some (.iload_n 2, 1, 0, 0) := by decide +kernel
theorem p180_178 {l2 s0 s1 s2 s3 s4 : Int} {q0 q1 q3 q4 q5 q6 q7 q8 : MV} {ds : Ds} {m : Mm} {Q : Ds → Mm → List MV → Prop} : WP 180 178 [q0, q1, (0, l2), q3, q4, q5, q6, q7, q8] [(0, s0), (0, s1), (0, s2), (0, s3), (2, s4)] ds m Q = (WP 180 179 [q0, q1, (0, l2), q3, q4, q5, q6, q7, q8] [(0, l2), (0, s0), (0, s1), (0, s2), (0, s3), (2, s4)] ds m Q) := P_nx k180_178 rfl
set_option maxRecDepth 20000 in
theorem k180_179 : mjCode 180 179 = some (.iload_n 3, 1, 0, 0) := by decide +kernel
theorem p180_179 {l3 s0 s1 s2 s3 s4 s5 : Int} {q0 q1 q2 q4 q5 q6 q7 q8 : MV} {ds : Ds} {m : Mm} {Q : Ds → Mm → List MV → Prop} : WP 180 179 [q0, q1, q2, (0, l3), q4, q5, q6, q7, q8] [(0, s0), (0, s1), (0, s2), (0, s3), (0, s4), (2, s5)] ds m Q = (WP 180 180 [q0, q1, q2, (0, l3), q4, q5, q6, q7, q8] [(0, l3), (0, s0), (0, s1), (0, s2), (0, s3), (0, s4), (2, s5)] ds m Q) := P_nx k180_179 rfl
set_option maxRecDepth 20000 in
theorem k180_180 : mjCode 180 180 = some (.invokevirtual 289, 3, 180, 7) := by decide +kernel
theorem p180_180 {s0 s1 s2 s3 s4 s5 s6 : Int} {q0 q1 q2 q3 q4 q5 q6 q7 q8 : MV} {ds : Ds} {m : Mm} {Q : Ds → Mm → List MV → Prop} : WP 180 180 [q0, q1, q2, q3, q4, q5, q6, q7, q8] [(0, s0), (0, s1), (0, s2), (0, s3), (0, s4), (0, s5), (2, s6)] ds m Q = ((dk ds s6 = 7 ∧ WP 179 0 [(2, s6), (0, s5), (0, s4), (0, s3), (0, s2), (0, s1), (0, s0)] [] ds m (fun d2 m2 r2 => WP 180 183 [q0, q1, q2, q3, q4, q5, q6, q7, q8] (r2 ++ []) d2 m2 Q))) := P_cv k180_180 mx179 mo179 rfl rfl rfl rfl rfl rfl rfl rfl
set_option maxRecDepth 20000 in
theorem k180_183 : mjCode 180 183 = some (.iinc 8 1, 3, 0, 0) := by decide +kernel
theorem p180_183 {l8 : Int} {q0 q1 q2 q3 q4 q5 q6 q7 : MV} {ds : Ds} {m : Mm} {Q : Ds → Mm → List MV → Prop} : WP 180 183 [q0, q1, q2, q3, q4, q5, q6, q7, (0, l8)] [] ds m Q = (WP 180 186 [q0, q1, q2, q3, q4, q5, q6, q7, (0, w32 (l8 + 1))] [] ds m Q) := P_nx k180_183 rfl
set_option maxRecDepth 20000 in
theorem k180_186 : mjCode 180 186 = some (.goto (-38), 3, 148, 0) := by decide +kernel
theorem p180_186 {q0 q1 q2 q3 q4 q5 q6 q7 q8 : MV} {ds : Ds} {m : Mm} {Q : Ds → Mm → List MV → Prop} : WP 180 186 [q0, q1, q2, q3, q4, q5, q6, q7, q8] [] ds m Q = (WP 180 148 [q0, q1, q2, q3, q4, q5, q6, q7, q8] [] ds m Q) := P_nx k180_186 rfl
set_option maxRecDepth 20000 in
theorem k180_189 : mjCode 180 189 = some (.iinc 7 1, 3, 0, 0) := by decide +kernel
theorem p180_189 {l7 : Int} {q0 q1 q2 q3 q4 q5 q6 q8 : MV} {ds : Ds} {m : Mm} {Q : Ds → Mm → List MV → Prop} : WP 180 189 [q0, q1, q2, q3, q4, q5, q6, (0, l7), q8] [] ds m Q = (WP 180 192 [q0, q1, q2, q3, q4, q5, q6, (0, w32 (l7 + 1)), q8] [] ds m Q) := P_nx k180_189 rfl
set_option maxRecDepth 20000 in
theorem k180_192 : mjCode 180 192 = some (.goto (-76), 3, 116, 0) := by decide +kernel
theorem p180_192 {q0 q1 q2 q3 q4 q5 q6 q7 q8 : MV} {ds : Ds} {m : Mm} {Q : Ds → Mm → List MV → Prop} : WP 180 192 [q0, q1, q2, q3, q4, q5, q6, q7, q8] [] ds m Q = (WP 180 116 [q0, q1, q2, q3, q4, q5, q6, q7, q8] [] ds m Q) := P_nx k180_192 rfl
set_option maxRecDepth 20000 in
theorem k180_195 : mjCode 180 195 = some (.iinc 4 1, 3, 0, 0) := by decide +kernel
theorem p180_195 {l4 : Int} {q0 q1 q2 q3 q5 q6 q7 q8 : MV} {ds : Ds} {m : Mm} {Q : Ds → Mm → List MV → Prop} : WP 180 195 [q0, q1, q2, q3, (0, l4), q5, q6, q7, q8] [] ds m Q = (WP 180 198 [q0, q1, q2, q3, (0, w32 (l4 + 1)), q5, q6, q7, q8] [] ds m Q) := P_nx k180_195 rfl
set_option maxRecDepth 20000 in
theorem k180_198 : mjCode 180 198 = some (.goto (-162), 3, 36, 0) := by decide +kernel
theorem p180_198 {q0 q1 q2 q3 q4 q5 q6 q7 q8 : MV} {ds : Ds} {m : Mm} {Q : Ds → Mm → List MV → Prop} : WP 180 198 [q0, q1, q2, q3, q4, q5, q6, q7, q8] [] ds m Q = (WP 180 36 [q0, q1, q2, q3, q4, q5, q6, q7, q8] [] ds m Q) := P_nx k180_198 rfl
set_option maxRecDepth 20000 in
theorem k180_201 : mjCode 180 201 = some (.aload_n 0, 1, 0, 0) := by decide +kernel
theorem p180_201 {l0 : Int} {q1 q2 q3 q4 q5 q6 q7 q8 : MV} {ds : Ds} {m : Mm} {Q : Ds → Mm → List MV → Prop} : WP 180 201 [(2, l0), q1, q2, q3, q4, q5, q6, q7, q8] [] ds m Q = (WP 180 202 [(2, l0), q1, q2, q3, q4, q5, q6, q7, q8] [(2, l0)] ds m Q) := P_nx k180_201 rfl
set_option maxRecDepth 20000 in
theorem k180_202 : mjCode 180 202 = some (.getfield 286, 3, 7, 49) := by decide +kernel
theorem p180_202 {s0 : Int} {q0 q1 q2 q3 q4 q5 q6 q7 q8 : MV} {ds : Ds} {m : Mm} {Q : Ds → Mm → List MV → Prop} : WP 180 202 [q0, q1, q2, q3, q4, q5, q6, q7, q8] [(2, s0)] ds m Q = ((dk ds s0 = 7 ∧ WP 180 205 [q0, q1, q2, q3, q4, q5, q6, q7, q8] [(0, m s0 49)] ds m Q)) := P_gd k180_202 rfl
set_option maxRecDepth 20000 in
theorem k180_205 : mjCode 180 205 = some (.ireturn, 1, 0, 0) := by decide +kernel
theorem p180_205 {s0 : Int} {q0 q1 q2 q3 q4 q5 q6 q7 q8 : MV} {ds : Ds} {m : Mm} {Q : Ds → Mm → List MV → Prop} : WP 180 205 [q0, q1, q2, q3, q4, q5, q6, q7, q8] [(0, s0)] ds m Q = (Q ds m [(0, s0)]) := P_ri k180_205 rk180
set_option maxRecDepth 20000 in
theorem k181_0 : mjCode 181 0 = some (.iload_n 1, 1, 0, 0) := by decide +kernel
theorem p181_0 {l1 : Int} {q0 : MV} {ds : Ds} {m : Mm} {Q : Ds → Mm → List MV → Prop} : WP 181 0 [q0, (0, l1)] [] ds m Q = (WP 181 1 [q0, (0, l1)] [(0, l1)] ds m Q) := P_nx k181_0 rfl
set_option maxRecDepth 20000 in
theorem k181_1 : mjCode 181 1 = some (.iconst 0, 1, 0, 0) := by decide +kernel
theorem p181_1 {s0 : Int} {q0 q1 : MV} {ds : Ds} {m : Mm} {Q : Ds → Mm → List MV → Prop} : WP 181 1 [q0, q1] [(0, s0)] ds m Q = (WP 181 2 [q0, q1] [(0, 0), (0, s0)] ds m Q) := P_nx k181_1 rfl
set_option maxRecDepth 20000 in
theorem k181_2 : mjCode 181 2 = some (.aload_n 0, 1, 0, 0) := by decide +kernel
theorem p181_2 {l0 s0 s1 : Int} {q1 : MV} {ds : Ds} {m : Mm} {Q : Ds → Mm → List MV → Prop} : WP 181 2 [(2, l0), q1] [(0, s0), (0, s1)] ds m Q = (WP 181 3 [(2, l0), q1] [(2, l0), (0, s0), (0, s1)] ds m Q) := P_nx k181_2 rfl
set_option maxRecDepth 20000 in
theorem k181_3 : mjCode 181 3 = some (.getfield 286, 3, 7, 49) := by decide +kernel
theorem p181_3 {s0 s1 s2 : Int} {q0 q1 : MV} {ds : Ds} {m : Mm} {Q : Ds → Mm → List MV → Prop} : WP 181 3 [q0, q1] [(2, s0), (0, s1), (0, s2)] ds m Q = ((dk ds s0 = 7 ∧ WP 181 6 [q0, q1] [(0, m s0 49), (0, s1), (0, s2)] ds m Q)) := P_gd k181_3 rfl
set_option maxRecDepth 20000 in
theorem k181_6 : mjCode 181 6 = some (.iconst 1, 1, 0, 0) := by decide +kernel
theorem p181_6 {s0 s1 s2 : Int} {q0 q1 : MV} {ds : Ds} {m : Mm} {Q : Ds → Mm → List MV → Prop} : WP 181 6 [q0, q1] [(0, s0), (0, s1), (0, s2)] ds m Q = (WP 181 7 [q0, q1] [(0, 1), (0, s0), (0, s1), (0, s2)] ds m Q) := P_nx k181_6 rfl
set_option maxRecDepth 20000 in
theorem k181_7 : mjCode 181 7 = some (.isub, 1, 0, 0) := by decide +kernel
theorem p181_7 {s0 s1 s2 s3 : Int} {q0 q1 : MV} {ds : Ds} {m : Mm} {Q : Ds → Mm → List MV → Prop} : WP 181 7 [q0, q1] [(0, s0), (0, s1), (0, s2), (0, s3)] ds m Q = (WP 181 8 [q0, q1] [(0, w32 (s1 - s0)), (0, s2), (0, s3)] ds m Q) := P_nx k181_7 rfl
set_option maxRecDepth 20000 in
theorem k181_8 : mjCode 181 8 = some (.invokestatic 141, 3, 121, 3) := by decide +kernel
theorem p181_8 {s0 s1 s2 : Int} {q0 q1 : MV} {ds : Ds} {m : Mm} {Q : Ds → Mm → List MV → Prop} : WP 181 8 [q0, q1] [(0, s0), (0, s1), (0, s2)] ds m Q = (WP 120 0 [(0, s2), (0, s1), (0, s0)] [] ds m (fun d2 m2 r2 => WP 181 11 [q0, q1] (r2 ++ []) d2 m2 Q)) := P_cs k181_8 mx120 rfl rfl rfl rfl rfl rfl rfl
set_option maxRecDepth 20000 in
theorem k181_11 : mjCode 181 11 = some (.ifCond .eq 12, 3, 23, 0) := by decide +kernel
theorem p181_11 {s0 : Int} {q0 q1 : MV} {ds : Ds} {m : Mm} {Q : Ds → Mm → List MV → Prop} : WP 181 11 [q0, q1] [(0, s0)] ds m Q = (if s0 = 0 then WP 181 23 [q0, q1] [] ds m Q else WP 181 14 [q0, q1] [] ds m Q) := P_if k181_11 rfl
set_option maxRecDepth 20000 in
theorem k181_14 : mjCode 181 14 = some (.aload_n 0, 1, 0, 0) := by decide +kernel
theorem p181_14 {l0 : Int} {q1 : MV} {ds : Ds} {m : Mm} {Q : Ds → Mm → List MV → Prop} : WP 181 14 [(2, l0), q1] [] ds m Q = (WP 181 15 [(2, l0), q1] [(2, l0)] ds m Q) := P_nx k181_14 rfl
set_option maxRecDepth 20000 in
theorem k181_15 : mjCode 181 15 = some (.getfield 132, 3, 7, 48) := by decide +kernel
theorem p181_15 {s0 : Int} {q0 q1 : MV} {ds : Ds} {m : Mm} {Q : Ds → Mm → List MV → Prop} : WP 181 15 [q0, q1] [(2, s0)] ds m Q = ((dk ds s0 = 7 ∧ WP 181 18 [q0, q1] [(2, m s0 48)] ds m Q)) := P_gd k181_15 rfl
set_option maxRecDepth 20000 in
theorem k181_18 : mjCode 181 18 = some (.iload_n 1, 1, 0, 0) := by decide +kernel
theorem p181_18 {l1 s0 : Int} {q0 : MV} {ds : Ds} {m : Mm} {Q : Ds → Mm → List MV → Prop} : WP 181 18 [q0, (0, l1)] [(2, s0)] ds m Q = (WP 181 19 [q0, (0, l1)] [(0, l1), (2, s0)] ds m Q) := P_nx k181_18 rfl
set_option maxRecDepth 20000 in
theorem k181_19 : mjCode 181 19 = some (.iaload, 1, 0, 0) := by decide +kernel
theorem p181_19 {s0 s1 : Int} {q0 q1 : MV} {ds : Ds} {m : Mm} {Q : Ds → Mm → List MV → Prop} : WP 181 19 [q0, q1] [(0, s0), (2, s1)] ds m Q = ((dk ds s1 = 10 ∧ 0 ≤ s0 ∧ s0 < dl ds s1 ∧ WP 181 20 [q0, q1] [(0, m s1 s0)] ds m Q)) := P_g3 k181_19 rfl
set_option maxRecDepth 20000 in
theorem k181_20 : mjCode 181 20 = some (.goto 4, 3, 24, 0) := by decide +kernel
theorem p181_20 {s0 : Int} {q0 q1 : MV} {ds : Ds} {m : Mm} {Q : Ds → Mm → List MV → Prop} : WP 181 20 [q0, q1] [(0, s0)] ds m Q = (WP 181 24 [q0, q1] [(0, s0)] ds m Q) := P_nx k181_20 rfl
set_option maxRecDepth 20000 in
theorem k181_23 : mjCode 181 23 = some (.iconst (-1), 1, 0, 0) := by decide +kernel
theorem p181_23 {q0 q1 : MV} {ds : Ds} {m : Mm} {Q : Ds → Mm → List MV → Prop} : WP 181 23 [q0, q1] [] ds m Q = (WP 181 24 [q0, q1] [(0, (-1))] ds m Q) := P_nx k181_23 rfl
set_option maxRecDepth 20000 in
theorem k181_24 : mjCode 181 24 = some (.ireturn, 1, 0, 0) := by decide +kernel
theorem p181_24 {s0 : Int} {q0 q1 : MV} {ds : Ds} {m : Mm} {Q : Ds → Mm → List MV → Prop} : WP 181 24 [q0, q1] [(0, s0)] ds m Q = (Q ds m [(0, s0)]) := P_ri k181_24 rk181
set_option maxRecDepth 20000 in
theorem k182_0 : mjCode 182 0 = some (.iload_n 2, 1, 0, 0) := by decide +kernel
theorem p182_0 {l2 : Int} {q0 q1 q3 q4 : MV} {ds : Ds} {m : Mm} {Q : Ds → Mm → List MV → Prop} : WP 182 0 [q0, q1, (0, l2), q3, q4] [] ds m Q = (WP 182 1 [q0, q1, (0, l2), q3, q4] [(0, l2)] ds m Q) := P_nx k182_0 rfl
set_option maxRecDepth 20000 in
theorem k182_1 : mjCode 182 1 = some (.iconst 2, 1, 0, 0) := by decide +kernel
theorem p182_1 {s0 : Int} {q0 q1 q2 q3 q4 : MV} {ds : Ds} {m : Mm} {Q : Ds → Mm → List MV → Prop} : WP 182 1 [q0, q1, q2, q3, q4] [(0, s0)] ds m Q = (WP 182 2 [q0, q1, q2, q3, q4] [(0, 2), (0, s0)] ds m Q) := P_nx k182_1 rfl
set_option maxRecDepth 20000 in
theorem k182_2 : mjCode 182 2 = some (.if_icmp .ge 7, 3, 9, 0) := by decide +kernel
theorem p182_2 {s0 s1 : Int} {q0 q1 q2 q3 q4 : MV} {ds : Ds} {m : Mm} {Q : Ds → Mm → List MV → Prop} : WP 182 2 [q0, q1, q2, q3, q4] [(0, s0), (0, s1)] ds m Q = (if s1 < s0 then WP 182 5 [q0, q1, q2, q3, q4] [] ds m Q else WP 182 9 [q0, q1, q2, q3, q4] [] ds m Q) := P_if k182_2 rfl
set_option maxRecDepth 20000 in
theorem k182_5 : mjCode 182 5 = some (.iconst 1, 1, 0, 0) := by decide +kernel
theorem p182_5 {q0 q1 q2 q3 q4 : MV} {ds : Ds} {m : Mm} {Q : Ds → Mm → List MV → Prop} : WP 182 5 [q0, q1, q2, q3, q4] [] ds m Q = (WP 182 6 [q0, q1, q2, q3, q4] [(0, 1)] ds m Q) := P_nx k182_5 rfl
set_option maxRecDepth 20000 in
theorem k182_6 : mjCode 182 6 = some (.goto 4, 3, 10, 0) := by decide +kernel
theorem p182_6 {s0 : Int} {q0 q1 q2 q3 q4 : MV} {ds : Ds} {m : Mm} {Q : Ds → Mm → List MV → Prop} : WP 182 6 [q0, q1, q2, q3, q4] [(0, s0)] ds m Q = (WP 182 10 [q0, q1, q2, q3, q4] [(0, s0)] ds m Q) := P_nx k182_6 rfl
set_option maxRecDepth 20000 in
theorem k182_9 : mjCode 182 9 = some (.iconst 2, 1, 0, 0) := by decide +kernel
theorem p182_9 {q0 q1 q2 q3 q4 : MV} {ds : Ds} {m : Mm} {Q : Ds → Mm → List MV → Prop} : WP 182 9 [q0, q1, q2, q3, q4] [] ds m Q = (WP 182 10 [q0, q1, q2, q3, q4] [(0, 2)] ds m Q) := P_nx k182_9 rfl
set_option maxRecDepth 20000 in
theorem k182_10 : mjCode 182 10 = some (.istore_n 3, 1, 0, 0) := by decide +kernel
theorem p182_10 {l2 s0 : Int} {q0 q1 q3 q4 : MV} {ds : Ds} {m : Mm} {Q : Ds → Mm → List MV → Prop} : WP 182 10 [q0, q1, (0, l2), q3, q4] [(0, s0)] ds m Q = (WP 182 11 [q0, q1, (0, l2), (0, s0), q4] [] ds m Q) := P_nx k182_10 rfl
set_option maxRecDepth 20000 in
theorem k182_11 : mjCode 182 11 = some (.iload_n 2, 1, 0, 0) := by decide +kernel
theorem p182_11 {l2 : Int} {q0 q1 q3 q4 : MV} {ds : Ds} {m : Mm} {Q : Ds → Mm → List MV → Prop} : WP 182 11 [q0, q1, (0, l2), q3, q4] [] ds m Q = (WP 182 12 [q0, q1, (0, l2), q3, q4] [(0, l2)] ds m Q) := P_nx k182_11 rfl
set_option maxRecDepth 20000 in
theorem k182_12 : mjCode 182 12 = some (.iconst 2, 1, 0, 0) := by decide +kernel
theorem p182_12 {s0 : Int} {q0 q1 q2 q3 q4 : MV} {ds : Ds} {m : Mm} {Q : Ds → Mm → List MV → Prop} : WP 182 12 [q0, q1, q2, q3, q4] [(0, s0)] ds m Q = (WP 182 13 [q0, q1, q2, q3, q4] [(0, 2), (0, s0)] ds m Q) := P_nx k182_12 rfl
set_option maxRecDepth 20000 in
theorem k182_13 : mjCode 182 13 = some (.if_icmp .ge 7, 3, 20, 0) := by decide +kernel
theorem p182_13 {s0 s1 : Int} {q0 q1 q2 q3 q4 : MV} {ds : Ds} {m : Mm} {Q : Ds → Mm → List MV → Prop} : WP 182 13 [q0, q1, q2, q3, q4] [(0, s0), (0, s1)] ds m Q = (if s1 < s0 then WP 182 16 [q0, q1, q2, q3, q4] [] ds m Q else WP 182 20 [q0, q1, q2, q3, q4] [] ds m Q) := P_if k182_13 rfl
set_option maxRecDepth 20000 in
theorem k182_16 : mjCode 182 16 = some (.iload_n 2, 1, 0, 0) := by decide +kernel
theorem p182_16 {l2 : Int} {q0 q1 q3 q4 : MV} {ds : Ds} {m : Mm} {Q : Ds → Mm → List MV → Prop} : WP 182 16 [q0, q1, (0, l2), q3, q4] [] ds m Q = (WP 182 17 [q0, q1, (0, l2), q3, q4] [(0, l2)] ds m Q) := P_nx k182_16 rfl
set_option maxRecDepth 20000 in
theorem k182_17 : mjCode 182 17 = some (.goto 6, 3, 23, 0) := by decide +kernel
theorem p182_17 {s0 : Int} {q0 q1 q2 q3 q4 : MV} {ds : Ds} {m : Mm} {Q : Ds → Mm → List MV → Prop} : WP 182 17 [q0, q1, q2, q3, q4] [(0, s0)] ds m Q = (WP 182 23 [q0, q1, q2, q3, q4] [(0, s0)] ds m Q) := P_nx k182_17 rfl
set_option maxRecDepth 20000 in
theorem k182_20 : mjCode 182 20 = some (.iload_n 2, 1, 0, 0) := by decide +kernel
theorem p182_20 {l2 : Int} {q0 q1 q3 q4 : MV} {ds : Ds} {m : Mm} {Q : Ds → Mm → List MV → Prop} : WP 182 20 [q0, q1, (0, l2), q3, q4] [] ds m Q = (WP 182 21 [q0, q1, (0, l2), q3, q4] [(0, l2)] ds m Q) := P_nx k182_20 rfl
set_option maxRecDepth 20000 in
theorem k182_21 : mjCode 182 21 = some (.iconst 2, 1, 0, 0) := by decide +kernel
theorem p182_21 {s0 : Int} {q0 q1 q2 q3 q4 : MV} {ds : Ds} {m : Mm} {Q : Ds → Mm → List MV → Prop} : WP 182 21 [q0, q1, q2, q3, q4] [(0, s0)] ds m Q = (WP 182 22 [q0, q1, q2, q3, q4] [(0, 2), (0, s0)] ds m Q) := P_nx k182_21 rfl
set_option maxRecDepth 20000 in
theorem k182_22 : mjCode 182 22 = some (.isub, 1, 0, 0) := by decide +kernel
theorem p182_22 {s0 s1 : Int} {q0 q1 q2 q3 q4 : MV} {ds : Ds} {m : Mm} {Q : Ds → Mm → List MV → Prop} : WP 182 22 [q0, q1, q2, q3, q4] [(0, s0), (0, s1)] ds m Q = (WP 182 23 [q0, q1, q2, q3, q4] [(0, w32 (s1 - s0))] ds m Q) := P_nx k182_22 rfl
set_option maxRecDepth 20000 in
theorem k182_23 : mjCode 182 23 = some (.istore 4, 2, 0, 0) := by decide +kernel
theorem p182_23 {l3 s0 : Int} {q0 q1 q2 q4 : MV} {ds : Ds} {m : Mm} {Q : Ds → Mm → List MV → Prop} : WP 182 23 [q0, q1, q2, (0, l3), q4] [(0, s0)] ds m Q = (WP 182 25 [q0, q1, q2, (0, l3), (0, s0)] [] ds m Q) := P_nx k182_23 rfl
set_option maxRecDepth 20000 in
theorem k182_25 : mjCode 182 25 = some (.aload_n 0, 1, 0, 0) := by decide +kernel
theorem p182_25 {l0 : Int} {q1 q2 q3 q4 : MV} {ds : Ds} {m : Mm} {Q : Ds → Mm → List MV → Prop} : WP 182 25 [(2, l0), q1, q2, q3, q4] [] ds m Q = (WP 182 26 [(2, l0), q1, q2, q3, q4] [(2, l0)] ds m Q) := P_nx k182_25 rfl
set_option maxRecDepth 20000 in
theorem k182_26 : mjCode 182 26 = some (.iload_n 1, 1, 0, 0) := by decide +kernel
theorem p182_26 {l1 s0 : Int} {q0 q2 q3 q4 : MV} {ds : Ds} {m : Mm} {Q : Ds → Mm → List MV → Prop} : WP 182 26 [q0, (0, l1), q2, q3, q4] [(2, s0)] ds m Q = (WP 182 27 [q0, (0, l1), q2, q3, q4] [(0, l1), (2, s0)] ds m Q) := P_nx k182_26 rfl
set_option maxRecDepth 20000 in
theorem k182_27 : mjCode 182 27 = some (.iload_n 3, 1, 0, 0) := by decide +kernel
theorem p182_27 {l3 s0 s1 : Int} {q0 q1 q2 q4 : MV} {ds : Ds} {m : Mm} {Q : Ds → Mm → List MV → Prop} : WP 182 27 [q0, q1, q2, (0, l3), q4] [(0, s0), (2, s1)] ds m Q = (WP 182 28 [q0, q1, q2, (0, l3), q4] [(0, l3), (0, s0), (2, s1)] ds m Q) := P_nx k182_27 rfl
set_option maxRecDepth 20000 in
theorem k182_28 : mjCode 182 28 = some (.iload 4, 2, 0, 0) := by decide +kernel
theorem p182_28 {l4 s0 s1 s2 : Int} {q0 q1 q2 q3 : MV} {ds : Ds} {m : Mm} {Q : Ds → Mm → List MV → Prop} : WP 182 28 [q0, q1, q2, q3, (0, l4)] [(0, s0), (0, s1), (2, s2)] ds m Q = (WP 182 30 [q0, q1, q2, q3, (0, l4)] [(0, l4), (0, s0), (0, s1), (2, s2)] ds m Q) := P_nx k182_28 rfl
set_option maxRecDepth 20000 in
theorem k182_30 : mjCode 182 30 = some (.iconst 0, 1, 0, 0) := by decide +kernel
theorem p182_30 {s0 s1 s2 s3 : Int} {q0 q1 q2 q3 q4 : MV} {ds : Ds} {m : Mm} {Q : Ds → Mm → List MV → Prop} : WP 182 30 [q0, q1, q2, q3, q4] [(0, s0), (0, s1), (0, s2), (2, s3)] ds m Q = (WP 182 31 [q0, q1, q2, q3, q4] [(0, 0), (0, s0), (0, s1), (0, s2), (2, s3)] ds m Q) := P_nx k182_30 rfl
set_option maxRecDepth 20000 in
theorem k182_31 : mjCode 182 31 = some (.invokevirtual 163, 3, 129, 5) := by decide +kernel
theorem p182_31 {s0 s1 s2 s3 s4 : Int} {q0 q1 q2 q3 q4 : MV} {ds : Ds} {m : Mm} {Q : Ds → Mm → List MV → Prop} : WP 182 31 [q0, q1, q2, q3, q4] [(0, s0), (0, s1), (0, s2), (0, s3), (2, s4)] ds m Q = ((dk ds s4 = 7 ∧ WP 128 0 [(2, s4), (0, s3), (0, s2), (0, s1), (0, s0)] [] ds m (fun d2 m2 r2 => WP 182 34 [q0, q1, q2, q3, q4] (r2 ++ []) d2 m2 Q))) := P_cv k182_31 mx128 mo128 rfl rfl rfl rfl rfl rfl rfl rfl
set_option maxRecDepth 20000 in
theorem k182_34 : mjCode 182 34 = some (.bipush 100, 2, 0, 0) := by decide +kernel
theorem p182_34 {q0 q1 q2 q3 q4 : MV} {ds : Ds} {m : Mm} {Q : Ds → Mm → List MV → Prop} : WP 182 34 [q0, q1, q2, q3, q4] [] ds m Q = (WP 182 36 [q0, q1, q2, q3, q4] [(0, 100)] ds m Q) := P_nx k182_34 rfl
set_option maxRecDepth 20000 in
theorem k182_36 : mjCode 182 36 = some (.iload_n 1, 1, 0, 0) := by decide +kernel
theorem p182_36 {l1 s0 : Int} {q0 q2 q3 q4 : MV} {ds : Ds} {m : Mm} {Q : Ds → Mm → List MV → Prop} : WP 182 36 [q0, (0, l1), q2, q3, q4] [(0, s0)] ds m Q = (WP 182 37 [q0, (0, l1), q2, q3, q4] [(0, l1), (0, s0)] ds m Q) := P_nx k182_36 rfl
set_option maxRecDepth 20000 in
theorem k182_37 : mjCode 182 37 = some (.imul, 1, 0, 0) := by decide +kernel
theorem p182_37 {s0 s1 : Int} {q0 q1 q2 q3 q4 : MV} {ds : Ds} {m : Mm} {Q : Ds → Mm → List MV → Prop} : WP 182 37 [q0, q1, q2, q3, q4] [(0, s0), (0, s1)] ds m Q = (WP 182 38 [q0, q1, q2, q3, q4] [(0, w32 (s1 * s0))] ds m Q) := P_nx k182_37 rfl
set_option maxRecDepth 20000 in
theorem k182_38 : mjCode 182 38 = some (.bipush 10, 2, 0, 0) := by decide +kernel
theorem p182_38 {s0 : Int} {q0 q1 q2 q3 q4 : MV} {ds : Ds} {m : Mm} {Q : Ds → Mm → List MV → Prop} : WP 182 38 [q0, q1, q2, q3, q4] [(0, s0)] ds m Q = (WP 182 40 [q0, q1, q2, q3, q4] [(0, 10), (0, s0)] ds m Q) := P_nx k182_38 rfl
set_option maxRecDepth 20000 in
theorem k182_40 : mjCode 182 40 = some (.iload_n 3, 1, 0, 0) := by decide +kernel
theorem p182_40 {l3 s0 s1 : Int} {q0 q1 q2 q4 : MV} {ds : Ds} {m : Mm} {Q : Ds → Mm → List MV → Prop} : WP 182 40 [q0, q1, q2, (0, l3), q4] [(0, s0), (0, s1)] ds m Q = (WP 182 41 [q0, q1, q2, (0, l3), q4] [(0, l3), (0, s0), (0, s1)] ds m Q) := P_nx k182_40 rfl
set_option maxRecDepth 20000 in
theorem k182_41 : mjCode 182 41 = some (.imul, 1, 0, 0) := by decide +kernel
theorem p182_41 {s0 s1 s2 : Int} {q0 q1 q2 q3 q4 : MV} {ds : Ds} {m : Mm} {Q : Ds → Mm → List MV → Prop} : WP 182 41 [q0, q1, q2, q3, q4] [(0, s0), (0, s1), (0, s2)] ds m Q = (WP 182 42 [q0, q1, q2, q3, q4] [(0, w32 (s1 * s0)), (0, s2)] ds m Q) := P_nx k182_41 rfl
set_option maxRecDepth 20000 in
theorem k182_42 : mjCode 182 42 = some (.iadd, 1, 0, 0) := by decide +kernel
theorem p182_42 {s0 s1 : Int} {q0 q1 q2 q3 q4 : MV} {ds : Ds} {m : Mm} {Q : Ds → Mm → List MV → Prop} : WP 182 42 [q0, q1, q2, q3, q4] [(0, s0), (0, s1)] ds m Q = (WP 182 43 [q0, q1, q2, q3, q4] [(0, w32 (s1 + s0))] ds m Q) := P_nx k182_42 rfl
set_option maxRecDepth 20000 in
theorem k182_43 : mjCode 182 43 = some (.iload 4, 2, 0, 0) := by decide +kernel
theorem p182_43 {l4 s0 : Int} {q0 q1 q2 q3 : MV} {ds : Ds} {m : Mm} {Q : Ds → Mm → List MV → Prop} : WP 182 43 [q0, q1, q2, q3, (0, l4)] [(0, s0)] ds m Q = (WP 182 45 [q0, q1, q2, q3, (0, l4)] [(0, l4), (0, s0)] ds m Q) := P_nx k182_43 rfl
set_option maxRecDepth 20000 in
theorem k182_45 : mjCode 182 45 = some (.iadd, 1, 0, 0) := by decide +kernel
theorem p182_45 {s0 s1 : Int} {q0 q1 q2 q3 q4 : MV} {ds : Ds} {m : Mm} {Q : Ds → Mm → List MV → Prop} : WP 182 45 [q0, q1, q2, q3, q4] [(0, s0), (0, s1)] ds m Q = (WP 182 46 [q0, q1, q2, q3, q4] [(0, w32 (s1 + s0))] ds m Q) := P_nx k182_45 rfl
set_option maxRecDepth 20000 in
theorem k182_46 : mjCode 182 46 = some (.ireturn, 1, 0, 0) := by decide +kernel
theorem p182_46 {s0 : Int} {q0 q1 q2 q3 q4 : MV} {ds : Ds} {m : Mm} {Q : Ds → Mm → List MV → Prop} : WP 182 46 [q0, q1, q2, q3, q4] [(0, s0)] ds m Q = (Q ds m [(0, s0)]) := P_ri k182_46 rk182
set_option maxRecDepth 20000 in
theorem k183_0 : mjCode 183 0 = some (.iconst 0, 1, 0, 0) := by decide +kernel
theorem p183_0 {q0 q1 q2 q3 q4 q5 q6 q7 q8 : MV} {ds : Ds} {m : Mm} {Q : Ds → Mm → List MV → Prop} : WP 183 0 [q0, q1, q2, q3, q4, q5, q6, q7, q8] [] ds m Q = (WP 183 1 [q0, q1, q2, q3, q4, q5, q6, q7, q8] [(0, 0)] ds m Q) := P_nx k183_0 rfl
set_option maxRecDepth 20000 in
theorem k183_1 : mjCode 183 1 = some (.istore 5, 2, 0, 0) := by decide +kernel
theorem p183_1 {l4 s0 : Int} {q0 q1 q2 q3 q5 q6 q7 q8 : MV} {ds : Ds} {m : Mm} {Q : Ds → Mm → List MV → Prop} : WP 183 1 [q0, q1, q2, q3, (0, l4), q5, q6, q7, q8] [(0, s0)] ds m Q = (WP 183 3 [q0, q1, q2, q3, (0, l4), (0, s0), q6, q7, q8] [] ds m Q) := P_nx k183_1 rfl
set_option maxRecDepth 20000 in
theorem k183_3 : mjCode 183 3 = some (.iload 5, 2, 0, 0) := by decide +kernel
theorem p183_3 {l5 : Int} {q0 q1 q2 q3 q4 q6 q7 q8 : MV} {ds : Ds} {m : Mm} {Q : Ds → Mm → List MV → Prop} : WP 183 3 [q0, q1, q2, q3, q4, (0, l5), q6, q7, q8] [] ds m Q = (WP 183 5 [q0, q1, q2, q3, q4, (0, l5), q6, q7, q8] [(0, l5)] ds m Q) := P_nx k183_3 rfl
set_option maxRecDepth 20000 in
theorem k183_5 : mjCode 183 5 = some (.bipush 96, 2, 0, 0) := by decide +kernel
theorem p183_5 {s0 : Int} {q0 q1 q2 q3 q4 q5 q6 q7 q8 : MV} {ds : Ds} {m : Mm} {Q : Ds → Mm → List MV → Prop} : WP 183 5 [q0, q1, q2, q3, q4, q5, q6, q7, q8] [(0, s0)] ds m Q = (WP 183 7 [q0, q1, q2, q3, q4, q5, q6, q7, q8] [(0, 96), (0, s0)] ds m Q) := P_nx k183_5 rfl
set_option maxRecDepth 20000 in
theorem k183_7 : mjCode 183 7 = some (.if_icmp .ge 94, 3, 101, 0) := by decide +kernel
theorem p183_7 {s0 s1 : Int} {q0 q1 q2 q3 q4 q5 q6 q7 q8 : MV} {ds : Ds} {m : Mm} {Q : Ds → Mm → List MV → Prop} : WP 183 7 [q0, q1, q2, q3, q4, q5, q6, q7, q8] [(0, s0), (0, s1)] ds m Q = (if s1 < s0 then WP 183 10 [q0, q1, q2, q3, q4, q5, q6, q7, q8] [] ds m Q else WP 183 101 [q0, q1, q2, q3, q4, q5, q6, q7, q8] [] ds m Q) := P_if k183_7 rfl
set_option maxRecDepth 20000 in
theorem k183_10 : mjCode 183 10 = some (.iconst 0, 1, 0, 0) := by decide +kernel
theorem p183_10 {q0 q1 q2 q3 q4 q5 q6 q7 q8 : MV} {ds : Ds} {m : Mm} {Q : Ds → Mm → List MV → Prop} : WP 183 10 [q0, q1, q2, q3, q4, q5, q6, q7, q8] [] ds m Q = (WP 183 11 [q0, q1, q2, q3, q4, q5, q6, q7, q8] [(0, 0)] ds m Q) := P_nx k183_10 rfl
set_option maxRecDepth 20000 in
theorem k183_11 : mjCode 183 11 = some (.istore 6, 2, 0, 0) := by decide +kernel
theorem p183_11 {l5 s0 : Int} {q0 q1 q2 q3 q4 q6 q7 q8 : MV} {ds : Ds} {m : Mm} {Q : Ds → Mm → List MV → Prop} : WP 183 11 [q0, q1, q2, q3, q4, (0, l5), q6, q7, q8] [(0, s0)] ds m Q = (WP 183 13 [q0, q1, q2, q3, q4, (0, l5), (0, s0), q7, q8] [] ds m Q) := P_nx k183_11 rfl
set_option maxRecDepth 20000 in
theorem k183_13 : mjCode 183 13 = some (.iload 6, 2, 0, 0) := by decide +kernel
theorem p183_13 {l6 : Int} {q0 q1 q2 q3 q4 q5 q7 q8 : MV} {ds : Ds} {m : Mm} {Q : Ds → Mm → List MV → Prop} : WP 183 13 [q0, q1, q2, q3, q4, q5, (0, l6), q7, q8] [] ds m Q = (WP 183 15 [q0, q1, q2, q3, q4, q5, (0, l6), q7, q8] [(0, l6)] ds m Q) := P_nx k183_13 rfl
set_option maxRecDepth 20000 in
theorem k183_15 : mjCode 183 15 = some (.bipush 6, 2, 0, 0) := by decide +kernel
theorem p183_15 {s0 : Int} {q0 q1 q2 q3 q4 q5 q6 q7 q8 : MV} {ds : Ds} {m : Mm} {Q : Ds → Mm → List MV → Prop} : WP 183 15 [q0, q1, q2, q3, q4, q5, q6, q7, q8] [(0, s0)] ds m Q = (WP 183 17 [q0, q1, q2, q3, q4, q5, q6, q7, q8] [(0, 6), (0, s0)] ds m Q) := P_nx k183_15 rfl
set_option maxRecDepth 20000 in
theorem k183_17 : mjCode 183 17 = some (.if_icmp .ge 78, 3, 95, 0) := by decide +kernel
theorem p183_17 {s0 s1 : Int} {q0 q1 q2 q3 q4 q5 q6 q7 q8 : MV} {ds : Ds} {m : Mm} {Q : Ds → Mm → List MV → Prop} : WP 183 17 [q0, q1, q2, q3, q4, q5, q6, q7, q8] [(0, s0), (0, s1)] ds m Q = (if s1 < s0 then WP 183 20 [q0, q1, q2, q3, q4, q5, q6, q7, q8] [] ds m Q else WP 183 95 [q0, q1, q2, q3, q4, q5, q6, q7, q8] [] ds m Q) := P_if k183_17 rfl
set_option maxRecDepth 20000 in
theorem k183_20 : mjCode 183 20 = some (.aload_n 0, 1, 0, 0) := by decide +kernel
theorem p183_20 {l0 : Int} {q1 q2 q3 q4 q5 q6 q7 q8 : MV} {ds : Ds} {m : Mm} {Q : Ds → Mm → List MV → Prop} : WP 183 20 [(2, l0), q1, q2, q3, q4, q5, q6, q7, q8] [] ds m Q = (WP 183 21 [(2, l0), q1, q2, q3, q4, q5, q6, q7, q8] [(2, l0)] ds m Q) := P_nx k183_20 rfl
set_option maxRecDepth 20000 in
theorem k183_21 : mjCode 183 21 = some (.getfield 126, 3, 7, 44) := by decide +kernel
theorem p183_21 {s0 : Int} {q0 q1 q2 q3 q4 q5 q6 q7 q8 : MV} {ds : Ds} {m : Mm} {Q : Ds → Mm → List MV → Prop} : WP 183 21 [q0, q1, q2, q3, q4, q5, q6, q7, q8] [(2, s0)] ds m Q = ((dk ds s0 = 7 ∧ WP 183 24 [q0, q1, q2, q3, q4, q5, q6, q7, q8] [(2, m s0 44)] ds m Q)) := P_gd k183_21 rfl
set_option maxRecDepth 20000 in
theorem k183_24 : mjCode 183 24 = some (.bipush 96, 2, 0, 0) := by decide +kernel
theorem p183_24 {s0 : Int} {q0 q1 q2 q3 q4 q5 q6 q7 q8 : MV} {ds : Ds} {m : Mm} {Q : Ds → Mm → List MV → Prop} : WP 183 24 [q0, q1, q2, q3, q4, q5, q6, q7, q8] [(2, s0)] ds m Q = (WP 183 26 [q0, q1, q2, q3, q4, q5, q6, q7, q8] [(0, 96), (2, s0)] ds m Q) := P_nx k183_24 rfl
set_option maxRecDepth 20000 in
theorem k183_26 : mjCode 183 26 = some (.iload_n 3, 1, 0, 0) := by decide +kernel
theorem p183_26 {l3 s0 s1 : Int} {q0 q1 q2 q4 q5 q6 q7 q8 : MV} {ds : Ds} {m : Mm} {Q : Ds → Mm → List MV → Prop} : WP 183 26 [q0, q1, q2, (0, l3), q4, q5, q6, q7, q8] [(0, s0), (2, s1)] ds m Q = (WP 183 27 [q0, q1, q2, (0, l3), q4, q5, q6, q7, q8] [(0, l3), (0, s0), (2, s1)] ds m Q) := P_nx k183_26 rfl
set_option maxRecDepth 20000 in
theorem k183_27 : mjCode 183 27 = some (.imul, 1, 0, 0) := by decide +kernel
theorem p183_27 {s0 s1 s2 : Int} {q0 q1 q2 q3 q4 q5 q6 q7 q8 : MV} {ds : Ds} {m : Mm} {Q : Ds → Mm → List MV → Prop} : WP 183 27 [q0, q1, q2, q3, q4, q5, q6, q7, q8] [(0, s0), (0, s1), (2, s2)] ds m Q = (WP 183 28 [q0, q1, q2, q3, q4, q5, q6, q7, q8] [(0, w32 (s1 * s0)), (2, s2)] ds m Q) := P_nx k183_27 rfl
set_option maxRecDepth 20000 in
theorem k183_28 : mjCode 183 28 = some (.iload 5, 2, 0, 0) := by decide +kernel
theorem p183_28 {l5 s0 s1 : Int} {q0 q1 q2 q3 q4 q6 q7 q8 : MV} {ds : Ds} {m : Mm} {Q : Ds → Mm → List MV → Prop} : WP 183 28 [q0, q1, q2, q3, q4, (0, l5), q6, q7, q8] [(0, s0), (2, s1)] ds m Q = (WP 183 30 [q0, q1, q2, q3, q4, (0, l5), q6, q7, q8] [(0, l5), (0, s0), (2, s1)] ds m Q) := P_nx k183_28 rfl
set_option maxRecDepth 20000 in
theorem k183_30 : mjCode 183 30 = some (.iadd, 1, 0, 0) := by decide +kernel
theorem p183_30 {s0 s1 s2 : Int} {q0 q1 q2 q3 q4 q5 q6 q7 q8 : MV} {ds : Ds} {m : Mm} {Q : Ds → Mm → List MV → Prop} : WP 183 30 [q0, q1, q2, q3, q4, q5, q6, q7, q8] [(0, s0), (0, s1), (2, s2)] ds m Q = (WP 183 31 [q0, q1, q2, q3, q4, q5, q6, q7, q8] [(0, w32 (s1 + s0)), (2, s2)] ds m Q) := P_nx k183_30 rfl
set_option maxRecDepth 20000 in
theorem k183_31 : mjCode 183 31 = some (.baload, 1, 0, 0) := by decide +kernel
theorem p183_31 {s0 s1 : Int} {q0 q1 q2 q3 q4 q5 q6 q7 q8 : MV} {ds : Ds} {m : Mm} {Q : Ds → Mm → List MV → Prop} : WP 183 31 [q0, q1, q2, q3, q4, q5, q6, q7, q8] [(0, s0), (2, s1)] ds m Q = ((dk ds s1 = 11 ∧ 0 ≤ s0 ∧ s0 < dl ds s1 ∧ WP 183 32 [q0, q1, q2, q3, q4, q5, q6, q7, q8] [(0, m s1 s0)] ds m Q)) := P_g3 k183_31 rfl
set_option maxRecDepth 20000 in
theorem k183_32 : mjCode 183 32 = some (.ifCond .eq 57, 3, 89, 0) := by decide +kernel
theorem p183_32 {s0 : Int} {q0 q1 q2 q3 q4 q5 q6 q7 q8 : MV} {ds : Ds} {m : Mm} {Q : Ds → Mm → List MV → Prop} : WP 183 32 [q0, q1, q2, q3, q4, q5, q6, q7, q8] [(0, s0)] ds m Q = (if s0 = 0 then WP 183 89 [q0, q1, q2, q3, q4, q5, q6, q7, q8] [] ds m Q else WP 183 35 [q0, q1, q2, q3, q4, q5, q6, q7, q8] [] ds m Q) := P_if k183_32 rfl
set_option maxRecDepth 20000 in
theorem k183_35 : mjCode 183 35 = some (.aload_n 0, 1, 0, 0) := by decide +kernel
theorem p183_35 {l0 : Int} {q1 q2 q3 q4 q5 q6 q7 q8 : MV} {ds : Ds} {m : Mm} {Q : Ds → Mm → List MV → Prop} : WP 183 35 [(2, l0), q1, q2, q3, q4, q5, q6, q7, q8] [] ds m Q = (WP 183 36 [(2, l0), q1, q2, q3, q4, q5, q6, q7, q8] [(2, l0)] ds m Q) := P_nx k183_35 rfl
set_option maxRecDepth 20000 in
theorem k183_36 : mjCode 183 36 = some (.iload 5, 2, 0, 0) := by decide +kernel
theorem p183_36 {l5 s0 : Int} {q0 q1 q2 q3 q4 q6 q7 q8 : MV} {ds : Ds} {m : Mm} {Q : Ds → Mm → List MV → Prop} : WP 183 36 [q0, q1, q2, q3, q4, (0, l5), q6, q7, q8] [(2, s0)] ds m Q = (WP 183 38 [q0, q1, q2, q3, q4, (0, l5), q6, q7, q8] [(0, l5), (2, s0)] ds m Q) := P_nx k183_36 rfl
set_option maxRecDepth 20000 in
theorem k183_38 : mjCode 183 38 = some (.invokevirtual 167, 3, 127, 2) := by decide +kernel
theorem p183_38 {s0 s1 : Int} {q0 q1 q2 q3 q4 q5 q6 q7 q8 : MV} {ds : Ds} {m : Mm} {Q : Ds → Mm → List MV → Prop} : WP 183 38 [q0, q1, q2, q3, q4, q5, q6, q7, q8] [(0, s0), (2, s1)] ds m Q = ((dk ds s1 = 7 ∧ WP 126 0 [(2, s1), (0, s0)] [] ds m (fun d2 m2 r2 => WP 183 41 [q0, q1, q2, q3, q4, q5, q6, q7, q8] (r2 ++ []) d2 m2 Q))) := P_cv k183_38 mx126 mo126 rfl rfl rfl rfl rfl rfl rfl rfl
set_option maxRecDepth 20000 in
theorem k183_41 : mjCode 183 41 = some (.ifCond .eq 48, 3, 89, 0) := by decide +kernel
theorem p183_41 {s0 : Int} {q0 q1 q2 q3 q4 q5 q6 q7 q8 : MV} {ds : Ds} {m : Mm} {Q : Ds → Mm → List MV → Prop} : WP 183 41 [q0, q1, q2, q3, q4, q5, q6, q7, q8] [(0, s0)] ds m Q = (if s0 = 0 then WP 183 89 [q0, q1, q2, q3, q4, q5, q6, q7, q8] [] ds m Q else WP 183 44 [q0, q1, q2, q3, q4, q5, q6, q7, q8] [] ds m Q) := P_if k183_41 rfl
set_option maxRecDepth 20000 in
theorem k183_44 : mjCode 183 44 = some (.aload_n 0, 1, 0, 0) := by decide +kernel
theorem p183_44 {l0 : Int} {q1 q2 q3 q4 q5 q6 q7 q8 : MV} {ds : Ds} {m : Mm} {Q : Ds → Mm → List MV → Prop} : WP 183 44 [(2, l0), q1, q2, q3, q4, q5, q6, q7, q8] [] ds m Q = (WP 183 45 [(2, l0), q1, q2, q3, q4, q5, q6, q7, q8] [(2, l0)] ds m Q) := P_nx k183_44 rfl
set_option maxRecDepth 20000 in
theorem k183_45 : mjCode 183 45 = some (.iload 5, 2, 0, 0) := by decide +kernel
theorem p183_45 {l5 s0 : Int} {q0 q1 q2 q3 q4 q6 q7 q8 : MV} {ds : Ds} {m : Mm} {Q : Ds → Mm → List MV → Prop} : WP 183 45 [q0, q1, q2, q3, q4, (0, l5), q6, q7, q8] [(2, s0)] ds m Q = (WP 183 47 [q0, q1, q2, q3, q4, (0, l5), q6, q7, q8] [(0, l5), (2, s0)] ds m Q) := P_nx k183_45 rfl
set_option maxRecDepth 20000 in
theorem k183_47 : mjCode 183 47 = some (.iload 6, 2, 0, 0) := by decide +kernel
theorem p183_47 {l6 s0 s1 : Int} {q0 q1 q2 q3 q4 q5 q7 q8 : MV} {ds : Ds} {m : Mm} {Q : Ds → Mm → List MV → Prop} : WP 183 47 [q0, q1, q2, q3, q4, q5, (0, l6), q7, q8] [(0, s0), (2, s1)] ds m Q = (WP 183 49 [q0, q1, q2, q3, q4, q5, (0, l6), q7, q8] [(0, l6), (0, s0), (2, s1)] ds m Q) := P_nx k183_47 rfl
set_option maxRecDepth 20000 in
theorem k183_49 : mjCode 183 49 = some (.invokevirtual 293, 3, 183, 3) := by decide +kernel
theorem p183_49 {s0 s1 s2 : Int} {q0 q1 q2 q3 q4 q5 q6 q7 q8 : MV} {ds : Ds} {m : Mm} {Q : Ds → Mm → List MV → Prop} : WP 183 49 [q0, q1, q2, q3, q4, q5, q6, q7, q8] [(0, s0), (0, s1), (2, s2)] ds m Q = ((dk ds s2 = 7 ∧ WP 182 0 [(2, s2), (0, s1), (0, s0), (3, 0), (3, 0)] [] ds m (fun d2 m2 r2 => WP 183 52 [q0, q1, q2, q3, q4, q5, q6, q7, q8] (r2 ++ []) d2 m2 Q))) := P_cv k183_49 mx182 mo182 rfl rfl rfl rfl rfl rfl rfl rfl
set_option maxRecDepth 20000 in
theorem k183_52 : mjCode 183 52 = some (.istore 7, 2, 0, 0) := by decide +kernel
theorem p183_52 {l6 s0 : Int} {q0 q1 q2 q3 q4 q5 q7 q8 : MV} {ds : Ds} {m : Mm} {Q : Ds → Mm → List MV → Prop} : WP 183 52 [q0, q1, q2, q3, q4, q5, (0, l6), q7, q8] [(0, s0)] ds m Q = (WP 183 54 [q0, q1, q2, q3, q4, q5, (0, l6), (0, s0), q8] [] ds m Q) := P_nx k183_52 rfl
set_option maxRecDepth 20000 in
theorem k183_54 : mjCode 183 54 = some (.aload_n 0, 1, 0, 0) := by decide +kernel
theorem p183_54 {l0 : Int} {q1 q2 q3 q4 q5 q6 q7 q8 : MV} {ds : Ds} {m : Mm} {Q : Ds → Mm → List MV → Prop} : WP 183 54 [(2, l0), q1, q2, q3, q4, q5, q6, q7, q8] [] ds m Q = (WP 183 55 [(2, l0), q1, q2, q3, q4, q5, q6, q7, q8] [(2, l0)] ds m Q) := P_nx k183_54 rfl
set_option maxRecDepth 20000 in
theorem k183_55 : mjCode 183 55 = some (.iload_n 3, 1, 0, 0) := by decide +kernel
theorem p183_55 {l3 s0 : Int} {q0 q1 q2 q4 q5 q6 q7 q8 : MV} {ds : Ds} {m : Mm} {Q : Ds → Mm → List MV → Prop} : WP 183 55 [q0, q1, q2, (0, l3), q4, q5, q6, q7, q8] [(2, s0)] ds m Q = (WP 183 56 [q0, q1, q2, (0, l3), q4, q5, q6, q7, q8] [(0, l3), (2, s0)] ds m Q) := P_nx k183_55 rfl
set_option maxRecDepth 20000 in
theorem k183_56 : mjCode 183 56 = some (.iconst 1, 1, 0, 0) := by decide +kernel
theorem p183_56 {s0 s1 : Int} {q0 q1 q2 q3 q4 q5 q6 q7 q8 : MV} {ds : Ds} {m : Mm} {Q : Ds → Mm → List MV → Prop} : WP 183 56 [q0, q1, q2, q3, q4, q5, q6, q7, q8] [(0, s0), (2, s1)] ds m Q = (WP 183 57 [q0, q1, q2, q3, q4, q5, q6, q7, q8] [(0, 1), (0, s0), (2, s1)] ds m Q) := P_nx k183_56 rfl
set_option maxRecDepth 20000 in
theorem k183_57 : mjCode 183 57 = some (.iadd, 1, 0, 0) := by decide +kernel
theorem p183_57 {s0 s1 s2 : Int} {q0 q1 q2 q3 q4 q5 q6 q7 q8 : MV} {ds : Ds} {m : Mm} {Q : Ds → Mm → List MV → Prop} : WP 183 57 [q0, q1, q2, q3, q4, q5, q6, q7, q8] [(0, s0), (0, s1), (2, s2)] ds m Q = (WP 183 58 [q0, q1, q2, q3, q4, q5, q6, q7, q8] [(0, w32 (s1 + s0)), (2, s2)] ds m Q) := P_nx k183_57 rfl
set_option maxRecDepth 20000 in
theorem k183_58 : mjCode 183 58 = some (.iload_n 1, 1, 0, 0) := by decide +kernel
theorem p183_58 {l1 s0 s1 : Int} {q0 q2 q3 q4 q5 q6 q7 q8 : MV} {ds : Ds} {m : Mm} {Q : Ds → Mm → List MV → Prop} : WP 183 58 [q0, (0, l1), q2, q3, q4, q5, q6, q7, q8] [(0, s0), (2, s1)] ds m Q = (WP 183 59 [q0, (0, l1), q2, q3, q4, q5, q6, q7, q8] [(0, l1), (0, s0), (2, s1)] ds m Q) := P_nx k183_58 rfl
set_option maxRecDepth 20000 in
theorem k183_59 : mjCode 183 59 = some (.iload_n 2, 1, 0, 0) := by decide +kernel
theorem p183_59 {l2 s0 s1 s2 : Int} {q0 q1 q3 q4 q5 q6 q7 q8 : MV} {ds : Ds} {m : Mm} {Q : Ds → Mm → List MV → Prop} : WP 183 59 [q0, q1, (0, l2), q3, q4, q5, q6, q7, q8] [(0, s0), (0, s1), (2, s2)] ds m Q = (WP 183 60 [q0, q1, (0, l2), q3, q4, q5, q6, q7, q8] [(0, l2), (0, s0), (0, s1), (2, s2)] ds m Q) := P_nx k183_59 rfl
set_option maxRecDepth 20000 in
theorem k183_60 : mjCode 183 60 = some (.invokevirtual 269, 3, 173, 4) := by decide +kernel
theorem p183_60 {s0 s1 s2 s3 : Int} {q0 q1 q2 q3 q4 q5 q6 q7 q8 : MV} {ds : Ds} {m : Mm} {Q : Ds → Mm → List MV → Prop} : WP 183 60 [q0, q1, q2, q3, q4, q5, q6, q7, q8] [(0, s0), (0, s1), (0, s2), (2, s3)] ds m Q = ((dk ds s3 = 7 ∧ WP 172 0 [(2, s3), (0, s2), (0, s1), (0, s0), (3, 0)] [] ds m (fun d2 m2 r2 => WP 183 63 [q0, q1, q2, q3, q4, q5, q6, q7, q8] (r2 ++ []) d2 m2 Q))) := P_cv k183_60 mx172 mo172 rfl rfl rfl rfl rfl rfl rfl rfl
set_option maxRecDepth 20000 in
theorem k183_63 : mjCode 183 63 = some (.istore 8, 2, 0, 0) := by decide +kernel
theorem p183_63 {l7 s0 : Int} {q0 q1 q2 q3 q4 q5 q6 q8 : MV} {ds : Ds} {m : Mm} {Q : Ds → Mm → List MV → Prop} : WP 183 63 [q0, q1, q2, q3, q4, q5, q6, (0, l7), q8] [(0, s0)] ds m Q = (WP 183 65 [q0, q1, q2, q3, q4, q5, q6, (0, l7), (0, s0)] [] ds m Q) := P_nx k183_63 rfl
set_option maxRecDepth 20000 in
theorem k183_65 : mjCode 183 65 = some (.aload_n 0, 1, 0, 0) := by decide +kernel
theorem p183_65 {l0 : Int} {q1 q2 q3 q4 q5 q6 q7 q8 : MV} {ds : Ds} {m : Mm} {Q : Ds → Mm → List MV → Prop} : WP 183 65 [(2, l0), q1, q2, q3, q4, q5, q6, q7, q8] [] ds m Q = (WP 183 66 [(2, l0), q1, q2, q3, q4, q5, q6, q7, q8] [(2, l0)] ds m Q) := P_nx k183_65 rfl
set_option maxRecDepth 20000 in
theorem k183_66 : mjCode 183 66 = some (.getfield 13, 3, 7, 1) := by decide +kernel
theorem p183_66 {s0 : Int} {q0 q1 q2 q3 q4 q5 q6 q7 q8 : MV} {ds : Ds} {m : Mm} {Q : Ds → Mm → List MV → Prop} : WP 183 66 [q0, q1, q2, q3, q4, q5, q6, q7, q8] [(2, s0)] ds m Q = ((dk ds s0 = 7 ∧ WP 183 69 [q0, q1, q2, q3, q4, q5, q6, q7, q8] [(2, m s0 1)] ds m Q)) := P_gd k183_66 rfl
set_option maxRecDepth 20000 in
theorem k183_69 : mjCode 183 69 = some (.iload 5, 2, 0, 0) := by decide +kernel
theorem p183_69 {l5 s0 : Int} {q0 q1 q2 q3 q4 q6 q7 q8 : MV} {ds : Ds} {m : Mm} {Q : Ds → Mm → List MV → Prop} : WP 183 69 [q0, q1, q2, q3, q4, (0, l5), q6, q7, q8] [(2, s0)] ds m Q = (WP 183 71 [q0, q1, q2, q3, q4, (0, l5), q6, q7, q8] [(0, l5), (2, s0)] ds m Q) := P_nx k183_69 rfl
set_option maxRecDepth 20000 in
theorem k183_71 : mjCode 183 71 = some (.iconst 0, 1, 0, 0) := by decide +kernel
theorem p183_71 {s0 s1 : Int} {q0 q1 q2 q3 q4 q5 q6 q7 q8 : MV} {ds : Ds} {m : Mm} {Q : Ds → Mm → List MV → Prop} : WP 183 71 [q0, q1, q2, q3, q4, q5, q6, q7, q8] [(0, s0), (2, s1)] ds m Q = (WP 183 72 [q0, q1, q2, q3, q4, q5, q6, q7, q8] [(0, 0), (0, s0), (2, s1)] ds m Q) := P_nx k183_71 rfl
set_option maxRecDepth 20000 in
theorem k183_72 : mjCode 183 72 = some (.iastore, 1, 0, 0) := by decide +kernel
theorem p183_72 {s0 s1 s2 : Int} {q0 q1 q2 q3 q4 q5 q6 q7 q8 : MV} {ds : Ds} {m : Mm} {Q : Ds → Mm → List MV → Prop} : WP 183 72 [q0, q1, q2, q3, q4, q5, q6, q7, q8] [(0, s0), (0, s1), (2, s2)] ds m Q = ((dk ds s2 = 10 ∧ 0 ≤ s1 ∧ s1 < dl ds s2 ∧ WP 183 73 [q0, q1, q2, q3, q4, q5, q6, q7, q8] [] ds (up m s2 s1 s0) Q)) := P_s3 k183_72 rfl
set_option maxRecDepth 20000 in
theorem k183_73 : mjCode 183 73 = some (.iload 8, 2, 0, 0) := by decide +kernel
theorem p183_73 {l8 : Int} {q0 q1 q2 q3 q4 q5 q6 q7 : MV} {ds : Ds} {m : Mm} {Q : Ds → Mm → List MV → Prop} : WP 183 73 [q0, q1, q2, q3, q4, q5, q6, q7, (0, l8)] [] ds m Q = (WP 183 75 [q0, q1, q2, q3, q4, q5, q6, q7, (0, l8)] [(0, l8)] ds m Q) := P_nx k183_73 rfl
set_option maxRecDepth 20000 in
theorem k183_75 : mjCode 183 75 = some (.ifCond .eq 14, 3, 89, 0) := by decide +kernel
theorem p183_75 {s0 : Int} {q0 q1 q2 q3 q4 q5 q6 q7 q8 : MV} {ds : Ds} {m : Mm} {Q : Ds → Mm → List MV → Prop} : WP 183 75 [q0, q1, q2, q3, q4, q5, q6, q7, q8] [(0, s0)] ds m Q = (if s0 = 0 then WP 183 89 [q0, q1, q2, q3, q4, q5, q6, q7, q8] [] ds m Q else WP 183 78 [q0, q1, q2, q3, q4, q5, q6, q7, q8] [] ds m Q) := P_if k183_75 rfl
set_option maxRecDepth 20000 in
theorem k183_78 : mjCode 183 78 = some (.aload_n 0, 1, 0, 0) := by decide +kernel
theorem p183_78 {l0 : Int} {q1 q2 q3 q4 q5 q6 q7 q8 : MV} {ds : Ds} {m : Mm} {Q : Ds → Mm → List MV → Prop} : WP 183 78 [(2, l0), q1, q2, q3, q4, q5, q6, q7, q8] [] ds m Q = (WP 183 79 [(2, l0), q1, q2, q3, q4, q5, q6, q7, q8] [(2, l0)] ds m Q) := P_nx k183_78 rfl
set_option maxRecDepth 20000 in
theorem k183_79 : mjCode 183 79 = some (.getfield 135, 3, 7, 50) := by decide +kernel
theorem p183_79 {s0 : Int} {q0 q1 q2 q3 q4 q5 q6 q7 q8 : MV} {ds : Ds} {m : Mm} {Q : Ds → Mm → List MV → Prop} : WP 183 79 [q0, q1, q2, q3, q4, q5, q6, q7, q8] [(2, s0)] ds m Q = ((dk ds s0 = 7 ∧ WP 183 82 [q0, q1, q2, q3, q4, q5, q6, q7, q8] [(2, m s0 50)] ds m Q)) := P_gd k183_79 rfl
set_option maxRecDepth 20000 in
theorem k183_82 : mjCode 183 82 = some (.iload 4, 2, 0, 0) := by decide +kernel
theorem p183_82 {l4 s0 : Int} {q0 q1 q2 q3 q5 q6 q7 q8 : MV} {ds : Ds} {m : Mm} {Q : Ds → Mm → List MV → Prop} : WP 183 82 [q0, q1, q2, q3, (0, l4), q5, q6, q7, q8] [(2, s0)] ds m Q = (WP 183 84 [q0, q1, q2, q3, (0, l4), q5, q6, q7, q8] [(0, l4), (2, s0)] ds m Q) := P_nx k183_82 rfl
set_option maxRecDepth 20000 in
theorem k183_84 : mjCode 183 84 = some (.iload 7, 2, 0, 0) := by decide +kernel
theorem p183_84 {l7 s0 s1 : Int} {q0 q1 q2 q3 q4 q5 q6 q8 : MV} {ds : Ds} {m : Mm} {Q : Ds → Mm → List MV → Prop} : WP 183 84 [q0, q1, q2, q3, q4, q5, q6, (0, l7), q8] [(0, s0), (2, s1)] ds m Q = (WP 183 86 [q0, q1, q2, q3, q4, q5, q6, (0, l7), q8] [(0, l7), (0, s0), (2, s1)] ds m Q) := P_nx k183_84 rfl
set_option maxRecDepth 20000 in
theorem k183_86 : mjCode 183 86 = some (.iastore, 1, 0, 0) := by decide +kernel
theorem p183_86 {s0 s1 s2 : Int} {q0 q1 q2 q3 q4 q5 q6 q7 q8 : MV} {ds : Ds} {m : Mm} {Q : Ds → Mm → List MV → Prop} : WP 183 86 [q0, q1, q2, q3, q4, q5, q6, q7, q8] [(0, s0), (0, s1), (2, s2)] ds m Q = ((dk ds s2 = 10 ∧ 0 ≤ s1 ∧ s1 < dl ds s2 ∧ WP 183 87 [q0, q1, q2, q3, q4, q5, q6, q7, q8] [] ds (up m s2 s1 s0) Q)) := P_s3 k183_86 rfl
set_option maxRecDepth 20000 in
theorem k183_87 : mjCode 183 87 = some (.iconst 1, 1, 0, 0) := by decide +kernel
theorem p183_87 {q0 q1 q2 q3 q4 q5 q6 q7 q8 : MV} {ds : Ds} {m : Mm} {Q : Ds → Mm → List MV → Prop} : WP 183 87 [q0, q1, q2, q3, q4, q5, q6, q7, q8] [] ds m Q = (WP 183 88 [q0, q1, q2, q3, q4, q5, q6, q7, q8] [(0, 1)] ds m Q) := P_nx k183_87 rfl
set_option maxRecDepth 20000 in
theorem k183_88 : mjCode 183 88 = some (.ireturn, 1, 0, 0) := by decide +kernel
theorem p183_88 {s0 : Int} {q0 q1 q2 q3 q4 q5 q6 q7 q8 : MV} {ds : Ds} {m : Mm} {Q : Ds → Mm → List MV → Prop} : WP 183 88 [q0, q1, q2, q3, q4, q5, q6, q7, q8] [(0, s0)] ds m Q = (((s0 = 0 ∨ s0 = 1) ∧ Q ds m [(0, s0)])) := P_rb k183_88 rk183
set_option maxRecDepth 20000 in
theorem k183_89 : mjCode 183 89 = some (.iinc 6 1, 3, 0, 0) := by decide +kernel
theorem p183_89 {l6 : Int} {q0 q1 q2 q3 q4 q5 q7 q8 : MV} {ds : Ds} {m : Mm} {Q : Ds → Mm → List MV → Prop} : WP 183 89 [q0, q1, q2, q3, q4, q5, (0, l6), q7, q8] [] ds m Q = (WP 183 92 [q0, q1, q2, q3, q4, q5, (0, w32 (l6 + 1)), q7, q8] [] ds m Q) := P_nx k183_89 rfl
set_option maxRecDepth 20000 in
theorem k183_92 : mjCode 183 92 = some (.goto (-79), 3, 13, 0) := by decide +kernel
theorem p183_92 {q0 q1 q2 q3 q4 q5 q6 q7 q8 : MV} {ds : Ds} {m : Mm} {Q : Ds → Mm → List MV → Prop} : WP 183 92 [q0, q1, q2, q3, q4, q5, q6, q7, q8] [] ds m Q = (WP 183 13 [q0, q1, q2, q3, q4, q5, q6, q7, q8] [] ds m Q) := P_nx k183_92 rfl
set_option maxRecDepth 20000 in
theorem k183_95 : mjCode 183 95 = some (.iinc 5 1, 3, 0, 0) := by decide +kernel
theorem p183_95 {l5 : Int} {q0 q1 q2 q3 q4 q6 q7 q8 : MV} {ds : Ds} {m : Mm} {Q : Ds → Mm → List MV → Prop} : WP 183 95 [q0, q1, q2, q3, q4, (0, l5), q6, q7, q8] [] ds m Q = (WP 183 98 [q0, q1, q2, q3, q4, (0, w32 (l5 + 1)), q6, q7, q8] [] ds m Q) := P_nx k183_95 rfl
set_option maxRecDepth 20000 in
theorem k183_98 : mjCode 183 98 = some (.goto (-95), 3, 3, 0) := by decide +kernel
theorem p183_98 {q0 q1 q2 q3 q4 q5 q6 q7 q8 : MV} {ds : Ds} {m : Mm} {Q : Ds → Mm → List MV → Prop} : WP 183 98 [q0, q1, q2, q3, q4, q5, q6, q7, q8] [] ds m Q = (WP 183 3 [q0, q1, q2, q3, q4, q5, q6, q7, q8] [] ds m Q) := P_nx k183_98 rfl
set_option maxRecDepth 20000 in
theorem k183_101 : mjCode 183 101 = some (.iconst 0, 1, 0, 0) := by decide +kernel
theorem p183_101 {q0 q1 q2 q3 q4 q5 q6 q7 q8 : MV} {ds : Ds} {m : Mm} {Q : Ds → Mm → List MV → Prop} : WP 183 101 [q0, q1, q2, q3, q4, q5, q6, q7, q8] [] ds m Q = (WP 183 102 [q0, q1, q2, q3, q4, q5, q6, q7, q8] [(0, 0)] ds m Q) := P_nx k183_101 rfl
set_option maxRecDepth 20000 in
theorem k183_102 : mjCode 183 102 = some (.ireturn, 1, 0, 0) := by decide +kernel
theorem p183_102 {s0 : Int} {q0 q1 q2 q3 q4 q5 q6 q7 q8 : MV} {ds : Ds} {m : Mm} {Q : Ds → Mm → List MV → Prop} : WP 183 102 [q0, q1, q2, q3, q4, q5, q6, q7, q8] [(0, s0)] ds m Q = (((s0 = 0 ∨ s0 = 1) ∧ Q ds m [(0, s0)])) := P_rb k183_102 rk183
set_option maxRecDepth 20000 in
theorem k184_0 : mjCode 184 0 = some (.iconst 0, 1, 0, 0) := by decide +kernel
theorem p184_0 {q0 q1 q2 q3 q4 q5 : MV} {ds : Ds} {m : Mm} {Q : Ds → Mm → List MV → Prop} : WP 184 0 [q0, q1, q2, q3, q4, q5] [] ds m Q = (WP 184 1 [q0, q1, q2, q3, q4, q5] [(0, 0)] ds m Q) := P_nx k184_0 rfl
set_option maxRecDepth 20000 in
theorem k184_1 : mjCode 184 1 = some (.istore_n 3, 1, 0, 0) := by decide +kernel
theorem p184_1 {l2 s0 : Int} {q0 q1 q3 q4 q5 : MV} {ds : Ds} {m : Mm} {Q : Ds → Mm → List MV → Prop} : WP 184 1 [q0, q1, (0, l2), q3, q4, q5] [(0, s0)] ds m Q = (WP 184 2 [q0, q1, (0, l2), (0, s0), q4, q5] [] ds m Q) := P_nx k184_1 rfl
set_option maxRecDepth 20000 in
theorem k184_2 : mjCode 184 2 = some (.iload_n 3, 1, 0, 0) := by decide +kernel
theorem p184_2 {l3 : Int} {q0 q1 q2 q4 q5 : MV} {ds : Ds} {m : Mm} {Q : Ds → Mm → List MV → Prop} : WP 184 2 [q0, q1, q2, (0, l3), q4, q5] [] ds m Q = (WP 184 3 [q0, q1, q2, (0, l3), q4, q5] [(0, l3)] ds m Q) := P_nx k184_2 rfl
set_option maxRecDepth 20000 in
theorem k184_3 : mjCode 184 3 = some (.bipush 96, 2, 0, 0) := by decide +kernel
theorem p184_3 {s0 : Int} {q0 q1 q2 q3 q4 q5 : MV} {ds : Ds} {m : Mm} {Q : Ds → Mm → List MV → Prop} : WP 184 3 [q0, q1, q2, q3, q4, q5] [(0, s0)] ds m Q = (WP 184 5 [q0, q1, q2, q3, q4, q5] [(0, 96), (0, s0)] ds m Q) := P_nx k184_3 rfl
set_option maxRecDepth 20000 in
theorem k184_5 : mjCode 184 5 = some (.if_icmp .ge 24, 3, 29, 0) := by decide +kernel
theorem p184_5 {s0 s1 : Int} {q0 q1 q2 q3 q4 q5 : MV} {ds : Ds} {m : Mm} {Q : Ds → Mm → List MV → Prop} : WP 184 5 [q0, q1, q2, q3, q4, q5] [(0, s0), (0, s1)] ds m Q = (if s1 < s0 then WP 184 8 [q0, q1, q2, q3, q4, q5] [] ds m Q else WP 184 29 [q0, q1, q2, q3, q4, q5] [] ds m Q) := P_if k184_5 rfl
set_option maxRecDepth 20000 in
theorem k184_8 : mjCode 184 8 = some (.aload_n 0, 1, 0, 0) := by decide +kernel
theorem p184_8 {l0 : Int} {q1 q2 q3 q4 q5 : MV} {ds : Ds} {m : Mm} {Q : Ds → Mm → List MV → Prop} : WP 184 8 [(2, l0), q1, q2, q3, q4, q5] [] ds m Q = (WP 184 9 [(2, l0), q1, q2, q3, q4, q5] [(2, l0)] ds m Q) := P_nx k184_8 rfl
set_option maxRecDepth 20000 in
theorem k184_9 : mjCode 184 9 = some (.getfield 138, 3, 7, 52) := by decide +kernel
theorem p184_9 {s0 : Int} {q0 q1 q2 q3 q4 q5 : MV} {ds : Ds} {m : Mm} {Q : Ds → Mm → List MV → Prop} : WP 184 9 [q0, q1, q2, q3, q4, q5] [(2, s0)] ds m Q = ((dk ds s0 = 7 ∧ WP 184 12 [q0, q1, q2, q3, q4, q5] [(2, m s0 52)] ds m Q)) := P_gd k184_9 rfl
set_option maxRecDepth 20000 in
theorem k184_12 : mjCode 184 12 = some (.iload_n 3, 1, 0, 0) := by decide +kernel
theorem p184_12 {l3 s0 : Int} {q0 q1 q2 q4 q5 : MV} {ds : Ds} {m : Mm} {Q : Ds → Mm → List MV → Prop} : WP 184 12 [q0, q1, q2, (0, l3), q4, q5] [(2, s0)] ds m Q = (WP 184 13 [q0, q1, q2, (0, l3), q4, q5] [(0, l3), (2, s0)] ds m Q) := P_nx k184_12 rfl
set_option maxRecDepth 20000 in
theorem k184_13 : mjCode 184 13 = some (.aload_n 0, 1, 0, 0) := by decide +kernel
theorem p184_13 {l0 s0 s1 : Int} {q1 q2 q3 q4 q5 : MV} {ds : Ds} {m : Mm} {Q : Ds → Mm → List MV → Prop} : WP 184 13 [(2, l0), q1, q2, q3, q4, q5] [(0, s0), (2, s1)] ds m Q = (WP 184 14 [(2, l0), q1, q2, q3, q4, q5] [(2, l0), (0, s0), (2, s1)] ds m Q) := P_nx k184_13 rfl
set_option maxRecDepth 20000 in
theorem k184_14 : mjCode 184 14 = some (.getfield 126, 3, 7, 44) := by decide +kernel
theorem p184_14 {s0 s1 s2 : Int} {q0 q1 q2 q3 q4 q5 : MV} {ds : Ds} {m : Mm} {Q : Ds → Mm → List MV → Prop} : WP 184 14 [q0, q1, q2, q3, q4, q5] [(2, s0), (0, s1), (2, s2)] ds m Q = ((dk ds s0 = 7 ∧ WP 184 17 [q0, q1, q2, q3, q4, q5] [(2, m s0 44), (0, s1), (2, s2)] ds m Q)) := P_gd k184_14 rfl
set_option maxRecDepth 20000 in
theorem k184_17 : mjCode 184 17 = some (.bipush 96, 2, 0, 0) := by decide +kernel
theorem p184_17 {s0 s1 s2 : Int} {q0 q1 q2 q3 q4 q5 : MV} {ds : Ds} {m : Mm} {Q : Ds → Mm → List MV → Prop} : WP 184 17 [q0, q1, q2, q3, q4, q5] [(2, s0), (0, s1), (2, s2)] ds m Q = (WP 184 19 [q0, q1, q2, q3, q4, q5] [(0, 96), (2, s0), (0, s1), (2, s2)] ds m Q) := P_nx k184_17 rfl
set_option maxRecDepth 20000 in
theorem k184_19 : mjCode 184 19 = some (.iload_n 3, 1, 0, 0) := by decide +kernel
theorem p184_19 {l3 s0 s1 s2 s3 : Int} {q0 q1 q2 q4 q5 : MV} {ds : Ds} {m : Mm} {Q : Ds → Mm → List MV → Prop} : WP 184 19 [q0, q1, q2, (0, l3), q4, q5] [(0, s0), (2, s1), (0, s2), (2, s3)] ds m Q = (WP 184 20 [q0, q1, q2, (0, l3), q4, q5] [(0, l3), (0, s0), (2, s1), (0, s2), (2, s3)] ds m Q) := P_nx k184_19 rfl
set_option maxRecDepth 20000 in
theorem k184_20 : mjCode 184 20 = some (.iadd, 1, 0, 0) := by decide +kernel
theorem p184_20 {s0 s1 s2 s3 s4 : Int} {q0 q1 q2 q3 q4 q5 : MV} {ds : Ds} {m : Mm} {Q : Ds → Mm → List MV → Prop} : WP 184 20 [q0, q1, q2, q3, q4, q5] [(0, s0), (0, s1), (2, s2), (0, s3), (2, s4)] ds m Q = (WP 184 21 [q0, q1, q2, q3, q4, q5] [(0, w32 (s1 + s0)), (2, s2), (0, s3), (2, s4)] ds m Q) := P_nx k184_20 rfl
set_option maxRecDepth 20000 in
theorem k184_21 : mjCode 184 21 = some (.baload, 1, 0, 0) := by decide +kernel
theorem p184_21 {s0 s1 s2 s3 : Int} {q0 q1 q2 q3 q4 q5 : MV} {ds : Ds} {m : Mm} {Q : Ds → Mm → List MV → Prop} : WP 184 21 [q0, q1, q2, q3, q4, q5] [(0, s0), (2, s1), (0, s2), (2, s3)] ds m Q = ((dk ds s1 = 11 ∧ 0 ≤ s0 ∧ s0 < dl ds s1 ∧ WP 184 22 [q0, q1, q2, q3, q4, q5] [(0, m s1 s0), (0, s2), (2, s3)] ds m Q)) := P_g3 k184_21 rfl
set_option maxRecDepth 20000 in
theorem k184_22 : mjCode 184 22 = some (.bastore, 1, 0, 0) := by decide +kernel
theorem p184_22 {s0 s1 s2 : Int} {q0 q1 q2 q3 q4 q5 : MV} {ds : Ds} {m : Mm} {Q : Ds → Mm → List MV → Prop} : WP 184 22 [q0, q1, q2, q3, q4, q5] [(0, s0), (0, s1), (2, s2)] ds m Q = (((s0 = 0 ∨ s0 = 1) ∧ dk ds s2 = 11 ∧ 0 ≤ s1 ∧ s1 < dl ds s2 ∧ WP 184 23 [q0, q1, q2, q3, q4, q5] [] ds (up m s2 s1 s0) Q)) := P_s4 k184_22 rfl
set_option maxRecDepth 20000 in
theorem k184_23 : mjCode 184 23 = some (.iinc 3 1, 3, 0, 0) := by decide +kernel
theorem p184_23 {l3 : Int} {q0 q1 q2 q4 q5 : MV} {ds : Ds} {m : Mm} {Q : Ds → Mm → List MV → Prop} : WP 184 23 [q0, q1, q2, (0, l3), q4, q5] [] ds m Q = (WP 184 26 [q0, q1, q2, (0, w32 (l3 + 1)), q4, q5] [] ds m Q) := P_nx k184_23 rfl
set_option maxRecDepth 20000 in
theorem k184_26 : mjCode 184 26 = some (.goto (-24), 3, 2, 0) := by decide +kernel
theorem p184_26 {q0 q1 q2 q3 q4 q5 : MV} {ds : Ds} {m : Mm} {Q : Ds → Mm → List MV → Prop} : WP 184 26 [q0, q1, q2, q3, q4, q5] [] ds m Q = (WP 184 2 [q0, q1, q2, q3, q4, q5] [] ds m Q) := P_nx k184_26 rfl
set_option maxRecDepth 20000 in
theorem k184_29 : mjCode 184 29 = some (.iconst 0, 1, 0, 0) := by decide +kernel
theorem p184_29 {q0 q1 q2 q3 q4 q5 : MV} {ds : Ds} {m : Mm} {Q : Ds → Mm → List MV → Prop} : WP 184 29 [q0, q1, q2, q3, q4, q5] [] ds m Q = (WP 184 30 [q0, q1, q2, q3, q4, q5] [(0, 0)] ds m Q) := P_nx k184_29 rfl
set_option maxRecDepth 20000 in
theorem k184_30 : mjCode 184 30 = some (.istore_n 3, 1, 0, 0) := by decide +kernel
theorem p184_30 {l2 s0 : Int} {q0 q1 q3 q4 q5 : MV} {ds : Ds} {m : Mm} {Q : Ds → Mm → List MV → Prop} : WP 184 30 [q0, q1, (0, l2), q3, q4, q5] [(0, s0)] ds m Q = (WP 184 31 [q0, q1, (0, l2), (0, s0), q4, q5] [] ds m Q) := P_nx k184_30 rfl
set_option maxRecDepth 20000 in
theorem k184_31 : mjCode 184 31 = some (.iload_n 3, 1, 0, 0) := by decide +kernel
theorem p184_31 {l3 : Int} {q0 q1 q2 q4 q5 : MV} {ds : Ds} {m : Mm} {Q : Ds → Mm → List MV → Prop} : WP 184 31 [q0, q1, q2, (0, l3), q4, q5] [] ds m Q = (WP 184 32 [q0, q1, q2, (0, l3), q4, q5] [(0, l3)] ds m Q) := P_nx k184_31 rfl
set_option maxRecDepth 20000 in
theorem k184_32 : mjCode 184 32 = some (.bipush 96, 2, 0, 0) := by decide +kernel
theorem p184_32 {s0 : Int} {q0 q1 q2 q3 q4 q5 : MV} {ds : Ds} {m : Mm} {Q : Ds → Mm → List MV → Prop} : WP 184 32 [q0, q1, q2, q3, q4, q5] [(0, s0)] ds m Q = (WP 184 34 [q0, q1, q2, q3, q4, q5] [(0, 96), (0, s0)] ds m Q) := P_nx k184_32 rfl
set_option maxRecDepth 20000 in
theorem k184_34 : mjCode 184 34 = some (.if_icmp .ge 84, 3, 118, 0) := by decide +kernel
theorem p184_34 {s0 s1 : Int} {q0 q1 q2 q3 q4 q5 : MV} {ds : Ds} {m : Mm} {Q : Ds → Mm → List MV → Prop} : WP 184 34 [q0, q1, q2, q3, q4, q5] [(0, s0), (0, s1)] ds m Q = (if s1 < s0 then WP 184 37 [q0, q1, q2, q3, q4, q5] [] ds m Q else WP 184 118 [q0, q1, q2, q3, q4, q5] [] ds m Q) := P_if k184_34 rfl
set_option maxRecDepth 20000 in
theorem k184_37 : mjCode 184 37 = some (.iconst 0, 1, 0, 0) := by decide +kernel
theorem p184_37 {q0 q1 q2 q3 q4 q5 : MV} {ds : Ds} {m : Mm} {Q : Ds → Mm → List MV → Prop} : WP 184 37 [q0, q1, q2, q3, q4, q5] [] ds m Q = (WP 184 38 [q0, q1, q2, q3, q4, q5] [(0, 0)] ds m Q) := P_nx k184_37 rfl
set_option maxRecDepth 20000 in
theorem k184_38 : mjCode 184 38 = some (.istore 4, 2, 0, 0) := by decide +kernel
theorem p184_38 {l3 s0 : Int} {q0 q1 q2 q4 q5 : MV} {ds : Ds} {m : Mm} {Q : Ds → Mm → List MV → Prop} : WP 184 38 [q0, q1, q2, (0, l3), q4, q5] [(0, s0)] ds m Q = (WP 184 40 [q0, q1, q2, (0, l3), (0, s0), q5] [] ds m Q) := P_nx k184_38 rfl
set_option maxRecDepth 20000 in
theorem k184_40 : mjCode 184 40 = some (.iload 4, 2, 0, 0) := by decide +kernel
theorem p184_40 {l4 : Int} {q0 q1 q2 q3 q5 : MV} {ds : Ds} {m : Mm} {Q : Ds → Mm → List MV → Prop} : WP 184 40 [q0, q1, q2, q3, (0, l4), q5] [] ds m Q = (WP 184 42 [q0, q1, q2, q3, (0, l4), q5] [(0, l4)] ds m Q) := P_nx k184_40 rfl
set_option maxRecDepth 20000 in
theorem k184_42 : mjCode 184 42 = some (.bipush 6, 2, 0, 0) := by decide +kernel
theorem p184_42 {s0 : Int} {q0 q1 q2 q3 q4 q5 : MV} {ds : Ds} {m : Mm} {Q : Ds → Mm → List MV → Prop} : WP 184 42 [q0, q1, q2, q3, q4, q5] [(0, s0)] ds m Q = (WP 184 44 [q0, q1, q2, q3, q4, q5] [(0, 6), (0, s0)] ds m Q) := P_nx k184_42 rfl
set_option maxRecDepth 20000 in
theorem k184_44 : mjCode 184 44 = some (.if_icmp .ge 68, 3, 112, 0) := by decide +kernel
theorem p184_44 {s0 s1 : Int} {q0 q1 q2 q3 q4 q5 : MV} {ds : Ds} {m : Mm} {Q : Ds → Mm → List MV → Prop} : WP 184 44 [q0, q1, q2, q3, q4, q5] [(0, s0), (0, s1)] ds m Q = (if s1 < s0 then WP 184 47 [q0, q1, q2, q3, q4, q5] [] ds m Q else WP 184 112 [q0, q1, q2, q3, q4, q5] [] ds m Q) := P_if k184_44 rfl
set_option maxRecDepth 20000 in
theorem k184_47 : mjCode 184 47 = some (.aload_n 0, 1, 0, 0) := by decide +kernel
theorem p184_47 {l0 : Int} {q1 q2 q3 q4 q5 : MV} {ds : Ds} {m : Mm} {Q : Ds → Mm → List MV → Prop} : WP 184 47 [(2, l0), q1, q2, q3, q4, q5] [] ds m Q = (WP 184 48 [(2, l0), q1, q2, q3, q4, q5] [(2, l0)] ds m Q) := P_nx k184_47 rfl
set_option maxRecDepth 20000 in
theorem k184_48 : mjCode 184 48 = some (.getfield 138, 3, 7, 52) := by decide +kernel
theorem p184_48 {s0 : Int} {q0 q1 q2 q3 q4 q5 : MV} {ds : Ds} {m : Mm} {Q : Ds → Mm → List MV → Prop} : WP 184 48 [q0, q1, q2, q3, q4, q5] [(2, s0)] ds m Q = ((dk ds s0 = 7 ∧ WP 184 51 [q0, q1, q2, q3, q4, q5] [(2, m s0 52)] ds m Q)) := P_gd k184_48 rfl
set_option maxRecDepth 20000 in
theorem k184_51 : mjCode 184 51 = some (.iload_n 3, 1, 0, 0) := by decide +kernel
theorem p184_51 {l3 s0 : Int} {q0 q1 q2 q4 q5 : MV} {ds : Ds} {m : Mm} {Q : Ds → Mm → List MV → Prop} : WP 184 51 [q0, q1, q2, (0, l3), q4, q5] [(2, s0)] ds m Q = (WP 184 52 [q0, q1, q2, (0, l3), q4, q5] [(0, l3), (2, s0)] ds m Q) := P_nx k184_51 rfl
set_option maxRecDepth 20000 in
theorem k184_52 : mjCode 184 52 = some (.baload, 1, 0, 0) := by decide +kernel
theorem p184_52 {s0 s1 : Int} {q0 q1 q2 q3 q4 q5 : MV} {ds : Ds} {m : Mm} {Q : Ds → Mm → List MV → Prop} : WP 184 52 [q0, q1, q2, q3, q4, q5] [(0, s0), (2, s1)] ds m Q = ((dk ds s1 = 11 ∧ 0 ≤ s0 ∧ s0 < dl ds s1 ∧ WP 184 53 [q0, q1, q2, q3, q4, q5] [(0, m s1 s0)] ds m Q)) := P_g3 k184_52 rfl
set_option maxRecDepth 20000 in
theorem k184_53 : mjCode 184 53 = some (.ifCond .eq 53, 3, 106, 0) := by decide +kernel
theorem p184_53 {s0 : Int} {q0 q1 q2 q3 q4 q5 : MV} {ds : Ds} {m : Mm} {Q : Ds → Mm → List MV → Prop} : WP 184 53 [q0, q1, q2, q3, q4, q5] [(0, s0)] ds m Q = (if s0 = 0 then WP 184 106 [q0, q1, q2, q3, q4, q5] [] ds m Q else WP 184 56 [q0, q1, q2, q3, q4, q5] [] ds m Q) := P_if k184_53 rfl
set_option maxRecDepth 20000 in
theorem k184_56 : mjCode 184 56 = some (.aload_n 0, 1, 0, 0) := by decide +kernel
theorem p184_56 {l0 : Int} {q1 q2 q3 q4 q5 : MV} {ds : Ds} {m : Mm} {Q : Ds → Mm → List MV → Prop} : WP 184 56 [(2, l0), q1, q2, q3, q4, q5] [] ds m Q = (WP 184 57 [(2, l0), q1, q2, q3, q4, q5] [(2, l0)] ds m Q) := P_nx k184_56 rfl
set_option maxRecDepth 20000 in
theorem k184_57 : mjCode 184 57 = some (.iload_n 3, 1, 0, 0) := by decide +kernel
theorem p184_57 {l3 s0 : Int} {q0 q1 q2 q4 q5 : MV} {ds : Ds} {m : Mm} {Q : Ds → Mm → List MV → Prop} : WP 184 57 [q0, q1, q2, (0, l3), q4, q5] [(2, s0)] ds m Q = (WP 184 58 [q0, q1, q2, (0, l3), q4, q5] [(0, l3), (2, s0)] ds m Q) := P_nx k184_57 rfl
set_option maxRecDepth 20000 in
theorem k184_58 : mjCode 184 58 = some (.invokevirtual 167, 3, 127, 2) := by decide +kernel
theorem p184_58 {s0 s1 : Int} {q0 q1 q2 q3 q4 q5 : MV} {ds : Ds} {m : Mm} {Q : Ds → Mm → List MV → Prop} : WP 184 58 [q0, q1, q2, q3, q4, q5] [(0, s0), (2, s1)] ds m Q = ((dk ds s1 = 7 ∧ WP 126 0 [(2, s1), (0, s0)] [] ds m (fun d2 m2 r2 => WP 184 61 [q0, q1, q2, q3, q4, q5] (r2 ++ []) d2 m2 Q))) := P_cv k184_58 mx126 mo126 rfl rfl rfl rfl rfl rfl rfl rfl
set_option maxRecDepth 20000 in
theorem k184_61 : mjCode 184 61 = some (.ifCond .eq 45, 3, 106, 0) := by decide +kernel
theorem p184_61 {s0 : Int} {q0 q1 q2 q3 q4 q5 : MV} {ds : Ds} {m : Mm} {Q : Ds → Mm → List MV → Prop} : WP 184 61 [q0, q1, q2, q3, q4, q5] [(0, s0)] ds m Q = (if s0 = 0 then WP 184 106 [q0, q1, q2, q3, q4, q5] [] ds m Q else WP 184 64 [q0, q1, q2, q3, q4, q5] [] ds m Q) := P_if k184_61 rfl
set_option maxRecDepth 20000 in
theorem k184_64 : mjCode 184 64 = some (.aload_n 0, 1, 0, 0) := by decide +kernel
theorem p184_64 {l0 : Int} {q1 q2 q3 q4 q5 : MV} {ds : Ds} {m : Mm} {Q : Ds → Mm → List MV → Prop} : WP 184 64 [(2, l0), q1, q2, q3, q4, q5] [] ds m Q = (WP 184 65 [(2, l0), q1, q2, q3, q4, q5] [(2, l0)] ds m Q) := P_nx k184_64 rfl
set_option maxRecDepth 20000 in
theorem k184_65 : mjCode 184 65 = some (.getfield 135, 3, 7, 50) := by decide +kernel
theorem p184_65 {s0 : Int} {q0 q1 q2 q3 q4 q5 : MV} {ds : Ds} {m : Mm} {Q : Ds → Mm → List MV → Prop} : WP 184 65 [q0, q1, q2, q3, q4, q5] [(2, s0)] ds m Q = ((dk ds s0 = 7 ∧ WP 184 68 [q0, q1, q2, q3, q4, q5] [(2, m s0 50)] ds m Q)) := P_gd k184_65 rfl
set_option maxRecDepth 20000 in
theorem k184_68 : mjCode 184 68 = some (.iconst 0, 1, 0, 0) := by decide +kernel
theorem p184_68 {s0 : Int} {q0 q1 q2 q3 q4 q5 : MV} {ds : Ds} {m : Mm} {Q : Ds → Mm → List MV → Prop} : WP 184 68 [q0, q1, q2, q3, q4, q5] [(2, s0)] ds m Q = (WP 184 69 [q0, q1, q2, q3, q4, q5] [(0, 0), (2, s0)] ds m Q) := P_nx k184_68 rfl
set_option maxRecDepth 20000 in
theorem k184_69 : mjCode 184 69 = some (.aload_n 0, 1, 0, 0) := by decide +kernel
theorem p184_69 {l0 s0 s1 : Int} {q1 q2 q3 q4 q5 : MV} {ds : Ds} {m : Mm} {Q : Ds → Mm → List MV → Prop} : WP 184 69 [(2, l0), q1, q2, q3, q4, q5] [(0, s0), (2, s1)] ds m Q = (WP 184 70 [(2, l0), q1, q2, q3, q4, q5] [(2, l0), (0, s0), (2, s1)] ds m Q) := P_nx k184_69 rfl
set_option maxRecDepth 20000 in
theorem k184_70 : mjCode 184 70 = some (.iload_n 3, 1, 0, 0) := by decide +kernel
theorem p184_70 {l3 s0 s1 s2 : Int} {q0 q1 q2 q4 q5 : MV} {ds : Ds} {m : Mm} {Q : Ds → Mm → List MV → Prop} : WP 184 70 [q0, q1, q2, (0, l3), q4, q5] [(2, s0), (0, s1), (2, s2)] ds m Q = (WP 184 71 [q0, q1, q2, (0, l3), q4, q5] [(0, l3), (2, s0), (0, s1), (2, s2)] ds m Q) := P_nx k184_70 rfl
set_option maxRecDepth 20000 in
theorem k184_71 : mjCode 184 71 = some (.iload 4, 2, 0, 0) := by decide +kernel
theorem p184_71 {l4 s0 s1 s2 s3 : Int} {q0 q1 q2 q3 q5 : MV} {ds : Ds} {m : Mm} {Q : Ds → Mm → List MV → Prop} : WP 184 71 [q0, q1, q2, q3, (0, l4), q5] [(0, s0), (2, s1), (0, s2), (2, s3)] ds m Q = (WP 184 73 [q0, q1, q2, q3, (0, l4), q5] [(0, l4), (0, s0), (2, s1), (0, s2), (2, s3)] ds m Q) := P_nx k184_71 rfl
set_option maxRecDepth 20000 in
theorem k184_73 : mjCode 184 73 = some (.invokevirtual 293, 3, 183, 3) := by decide +kernel
theorem p184_73 {s0 s1 s2 s3 s4 : Int} {q0 q1 q2 q3 q4 q5 : MV} {ds : Ds} {m : Mm} {Q : Ds → Mm → List MV → Prop} : WP 184 73 [q0, q1, q2, q3, q4, q5] [(0, s0), (0, s1), (2, s2), (0, s3), (2, s4)] ds m Q = ((dk ds s2 = 7 ∧ WP 182 0 [(2, s2), (0, s1), (0, s0), (3, 0), (3, 0)] [] ds m (fun d2 m2 r2 => WP 184 76 [q0, q1, q2, q3, q4, q5] (r2 ++ [(0, s3), (2, s4)]) d2 m2 Q))) := P_cv k184_73 mx182 mo182 rfl rfl rfl rfl rfl rfl rfl rfl
set_option maxRecDepth 20000 in
theorem k184_76 : mjCode 184 76 = some (.iastore, 1, 0, 0) := by decide +kernel
theorem p184_76 {s0 s1 s2 : Int} {q0 q1 q2 q3 q4 q5 : MV} {ds : Ds} {m : Mm} {Q : Ds → Mm → List MV → Prop} : WP 184 76 [q0, q1, q2, q3, q4, q5] [(0, s0), (0, s1), (2, s2)] ds m Q = ((dk ds s2 = 10 ∧ 0 ≤ s1 ∧ s1 < dl ds s2 ∧ WP 184 77 [q0, q1, q2, q3, q4, q5] [] ds (up m s2 s1 s0) Q)) := P_s3 k184_76 rfl
set_option maxRecDepth 20000 in
theorem k184_77 : mjCode 184 77 = some (.aload_n 0, 1, 0, 0) := by decide +kernel
theorem p184_77 {l0 : Int} {q1 q2 q3 q4 q5 : MV} {ds : Ds} {m : Mm} {Q : Ds → Mm → List MV → Prop} : WP 184 77 [(2, l0), q1, q2, q3, q4, q5] [] ds m Q = (WP 184 78 [(2, l0), q1, q2, q3, q4, q5] [(2, l0)] ds m Q) := P_nx k184_77 rfl
set_option maxRecDepth 20000 in
theorem k184_78 : mjCode 184 78 = some (.iconst 1, 1, 0, 0) := by decide +kernel
theorem p184_78 {s0 : Int} {q0 q1 q2 q3 q4 q5 : MV} {ds : Ds} {m : Mm} {Q : Ds → Mm → List MV → Prop} : WP 184 78 [q0, q1, q2, q3, q4, q5] [(2, s0)] ds m Q = (WP 184 79 [q0, q1, q2, q3, q4, q5] [(0, 1), (2, s0)] ds m Q) := P_nx k184_78 rfl
set_option maxRecDepth 20000 in
theorem k184_79 : mjCode 184 79 = some (.invokevirtual 261, 3, 167, 2) := by decide +kernel
theorem p184_79 {s0 s1 : Int} {q0 q1 q2 q3 q4 q5 : MV} {ds : Ds} {m : Mm} {Q : Ds → Mm → List MV → Prop} : WP 184 79 [q0, q1, q2, q3, q4, q5] [(0, s0), (2, s1)] ds m Q = ((dk ds s1 = 7 ∧ WP 166 0 [(2, s1), (0, s0), (3, 0), (3, 0), (3, 0)] [] ds m (fun d2 m2 r2 => WP 184 82 [q0, q1, q2, q3, q4, q5] (r2 ++ []) d2 m2 Q))) := P_cv k184_79 mx166 mo166 rfl rfl rfl rfl rfl rfl rfl rfl
set_option maxRecDepth 20000 in
theorem k184_82 : mjCode 184 82 = some (.aload_n 0, 1, 0, 0) := by decide +kernel
theorem p184_82 {l0 : Int} {q1 q2 q3 q4 q5 : MV} {ds : Ds} {m : Mm} {Q : Ds → Mm → List MV → Prop} : WP 184 82 [(2, l0), q1, q2, q3, q4, q5] [] ds m Q = (WP 184 83 [(2, l0), q1, q2, q3, q4, q5] [(2, l0)] ds m Q) := P_nx k184_82 rfl
set_option maxRecDepth 20000 in
theorem k184_83 : mjCode 184 83 = some (.iload_n 1, 1, 0, 0) := by decide +kernel
theorem p184_83 {l1 s0 : Int} {q0 q2 q3 q4 q5 : MV} {ds : Ds} {m : Mm} {Q : Ds → Mm → List MV → Prop} : WP 184 83 [q0, (0, l1), q2, q3, q4, q5] [(2, s0)] ds m Q = (WP 184 84 [q0, (0, l1), q2, q3, q4, q5] [(0, l1), (2, s0)] ds m Q) := P_nx k184_83 rfl
set_option maxRecDepth 20000 in
theorem k184_84 : mjCode 184 84 = some (.iload_n 2, 1, 0, 0) := by decide +kernel
theorem p184_84 {l2 s0 s1 : Int} {q0 q1 q3 q4 q5 : MV} {ds : Ds} {m : Mm} {Q : Ds → Mm → List MV → Prop} : WP 184 84 [q0, q1, (0, l2), q3, q4, q5] [(0, s0), (2, s1)] ds m Q = (WP 184 85 [q0, q1, (0, l2), q3, q4, q5] [(0, l2), (0, s0), (2, s1)] ds m Q) := P_nx k184_84 rfl
set_option maxRecDepth 20000 in
theorem k184_85 : mjCode 184 85 = some (.iconst 1, 1, 0, 0) := by decide +kernel
theorem p184_85 {s0 s1 s2 : Int} {q0 q1 q2 q3 q4 q5 : MV} {ds : Ds} {m : Mm} {Q : Ds → Mm → List MV → Prop} : WP 184 85 [q0, q1, q2, q3, q4, q5] [(0, s0), (0, s1), (2, s2)] ds m Q = (WP 184 86 [q0, q1, q2, q3, q4, q5] [(0, 1), (0, s0), (0, s1), (2, s2)] ds m Q) := P_nx k184_85 rfl
set_option maxRecDepth 20000 in
theorem k184_86 : mjCode 184 86 = some (.iconst 1, 1, 0, 0) := by decide +kernel
theorem p184_86 {s0 s1 s2 s3 : Int} {q0 q1 q2 q3 q4 q5 : MV} {ds : Ds} {m : Mm} {Q : Ds → Mm → List MV → Prop} : WP 184 86 [q0, q1, q2, q3, q4, q5] [(0, s0), (0, s1), (0, s2), (2, s3)] ds m Q = (WP 184 87 [q0, q1, q2, q3, q4, q5] [(0, 1), (0, s0), (0, s1), (0, s2), (2, s3)] ds m Q) := P_nx k184_86 rfl
set_option maxRecDepth 20000 in
theorem k184_87 : mjCode 184 87 = some (.invokevirtual 296, 3, 184, 5) := by decide +kernel
theorem p184_87 {s0 s1 s2 s3 s4 : Int} {q0 q1 q2 q3 q4 q5 : MV} {ds : Ds} {m : Mm} {Q : Ds → Mm → List MV → Prop} : WP 184 87 [q0, q1, q2, q3, q4, q5] [(0, s0), (0, s1), (0, s2), (0, s3), (2, s4)] ds m Q = ((dk ds s4 = 7 ∧ WP 183 0 [(2, s4), (0, s3), (0, s2), (0, s1), (0, s0), (3, 0), (3, 0), (3, 0), (3, 0)] [] ds m (fun d2 m2 r2 => WP 184 90 [q0, q1, q2, q3, q4, q5] (r2 ++ []) d2 m2 Q))) := P_cv k184_87 mx183 mo183 rfl rfl rfl rfl rfl rfl rfl rfl
set_option maxRecDepth 20000 in
theorem k184_90 : mjCode 184 90 = some (.istore 5, 2, 0, 0) := by decide +kernel
theorem p184_90 {l4 s0 : Int} {q0 q1 q2 q3 q5 : MV} {ds : Ds} {m : Mm} {Q : Ds → Mm → List MV → Prop} : WP 184 90 [q0, q1, q2, q3, (0, l4), q5] [(0, s0)] ds m Q = (WP 184 92 [q0, q1, q2, q3, (0, l4), (0, s0)] [] ds m Q) := P_nx k184_90 rfl
set_option maxRecDepth 20000 in
theorem k184_92 : mjCode 184 92 = some (.aload_n 0, 1, 0, 0) := by decide +kernel
theorem p184_92 {l0 : Int} {q1 q2 q3 q4 q5 : MV} {ds : Ds} {m : Mm} {Q : Ds → Mm → List MV → Prop} : WP 184 92 [(2, l0), q1, q2, q3, q4, q5] [] ds m Q = (WP 184 93 [(2, l0), q1, q2, q3, q4, q5] [(2, l0)] ds m Q) := P_nx k184_92 rfl
set_option maxRecDepth 20000 in
theorem k184_93 : mjCode 184 93 = some (.getfield 13, 3, 7, 1) := by decide +kernel
theorem p184_93 {s0 : Int} {q0 q1 q2 q3 q4 q5 : MV} {ds : Ds} {m : Mm} {Q : Ds → Mm → List MV → Prop} : WP 184 93 [q0, q1, q2, q3, q4, q5] [(2, s0)] ds m Q = ((dk ds s0 = 7 ∧ WP 184 96 [q0, q1, q2, q3, q4, q5] [(2, m s0 1)] ds m Q)) := P_gd k184_93 rfl
set_option maxRecDepth 20000 in
theorem k184_96 : mjCode 184 96 = some (.iload_n 3, 1, 0, 0) := by decide +kernel
theorem p184_96 {l3 s0 : Int} {q0 q1 q2 q4 q5 : MV} {ds : Ds} {m : Mm} {Q : Ds → Mm → List MV → Prop} : WP 184 96 [q0, q1, q2, (0, l3), q4, q5] [(2, s0)] ds m Q = (WP 184 97 [q0, q1, q2, (0, l3), q4, q5] [(0, l3), (2, s0)] ds m Q) := P_nx k184_96 rfl
set_option maxRecDepth 20000 in
theorem k184_97 : mjCode 184 97 = some (.iconst 0, 1, 0, 0) := by decide +kernel
theorem p184_97 {s0 s1 : Int} {q0 q1 q2 q3 q4 q5 : MV} {ds : Ds} {m : Mm} {Q : Ds → Mm → List MV → Prop} : WP 184 97 [q0, q1, q2, q3, q4, q5] [(0, s0), (2, s1)] ds m Q = (WP 184 98 [q0, q1, q2, q3, q4, q5] [(0, 0), (0, s0), (2, s1)] ds m Q) := P_nx k184_97 rfl
set_option maxRecDepth 20000 in
theorem k184_98 : mjCode 184 98 = some (.iastore, 1, 0, 0) := by decide +kernel
theorem p184_98 {s0 s1 s2 : Int} {q0 q1 q2 q3 q4 q5 : MV} {ds : Ds} {m : Mm} {Q : Ds → Mm → List MV → Prop} : WP 184 98 [q0, q1, q2, q3, q4, q5] [(0, s0), (0, s1), (2, s2)] ds m Q = ((dk ds s2 = 10 ∧ 0 ≤ s1 ∧ s1 < dl ds s2 ∧ WP 184 99 [q0, q1, q2, q3, q4, q5] [] ds (up m s2 s1 s0) Q)) := P_s3 k184_98 rfl
set_option maxRecDepth 20000 in
theorem k184_99 : mjCode 184 99 = some (.iload 5, 2, 0, 0) := by decide +kernel
theorem p184_99 {l5 : Int} {q0 q1 q2 q3 q4 : MV} {ds : Ds} {m : Mm} {Q : Ds → Mm → List MV → Prop} : WP 184 99 [q0, q1, q2, q3, q4, (0, l5)] [] ds m Q = (WP 184 101 [q0, q1, q2, q3, q4, (0, l5)] [(0, l5)] ds m Q) := P_nx k184_99 rfl
set_option maxRecDepth 20000 in
theorem k184_101 : mjCode 184 101 = some (.ifCond .eq 5, 3, 106, 0) := by decide +kernel
theorem p184_101 {s0 : Int} {q0 q1 q2 q3 q4 q5 : MV} {ds : Ds} {m : Mm} {Q : Ds → Mm → List MV → Prop} : WP 184 101 [q0, q1, q2, q3, q4, q5] [(0, s0)] ds m Q = (if s0 = 0 then WP 184 106 [q0, q1, q2, q3, q4, q5] [] ds m Q else WP 184 104 [q0, q1, q2, q3, q4, q5] [] ds m Q) := P_if k184_101 rfl
set_option maxRecDepth 20000 in
theorem k184_104 : mjCode 184 104 = some (.iconst 1, 1, 0, 0) := by decide +kernel
theorem p184_104 {q0 q1 q2 q3 q4 q5 : MV} {ds : Ds} {m : Mm} {Q : Ds → Mm → List MV → Prop} : WP 184 104 [q0, q1, q2, q3, q4, q5] [] ds m Q = (WP 184 105 [q0, q1, q2, q3, q4, q5] [(0, 1)] ds m Q) := P_nx k184_104 rfl
set_option maxRecDepth 20000 in
theorem k184_105 : mjCode 184 105 = some (.ireturn, 1, 0, 0) := by decide +kernel
theorem p184_105 {s0 : Int} {q0 q1 q2 q3 q4 q5 : MV} {ds : Ds} {m : Mm} {Q : Ds → Mm → List MV → Prop} : WP 184 105 [q0, q1, q2, q3, q4, q5] [(0, s0)] ds m Q = (((s0 = 0 ∨ s0 = 1) ∧ Q ds m [(0, s0)])) := P_rb k184_105 rk184
set_option maxRecDepth 20000 in
theorem k184_106 : mjCode 184 106 = some (.iinc 4 1, 3, 0, 0) := by decide +kernel
theorem p184_106 {l4 : Int} {q0 q1 q2 q3 q5 : MV} {ds : Ds} {m : Mm} {Q : Ds → Mm → List MV → Prop} : WP 184 106 [q0, q1, q2, q3, (0, l4), q5] [] ds m Q = (WP 184 109 [q0, q1, q2, q3, (0, w32 (l4 + 1)), q5] [] ds m Q) := P_nx k184_106 rfl
set_option maxRecDepth 20000 in
theorem k184_109 : mjCode 184 109 = some (.goto (-69), 3, 40, 0) := by decide +kernel
theorem p184_109 {q0 q1 q2 q3 q4 q5 : MV} {ds : Ds} {m : Mm} {Q : Ds → Mm → List MV → Prop} : WP 184 109 [q0, q1, q2, q3, q4, q5] [] ds m Q = (WP 184 40 [q0, q1, q2, q3, q4, q5] [] ds m Q) := P_nx k184_109 rfl
set_option maxRecDepth 20000 in
theorem k184_112 : mjCode 184 112 = some (.iinc 3 1, 3, 0, 0) := by decide +kernel
theorem p184_112 {l3 : Int} {q0 q1 q2 q4 q5 : MV} {ds : Ds} {m : Mm} {Q : Ds → Mm → List MV → Prop} : WP 184 112 [q0, q1, q2, (0, l3), q4, q5] [] ds m Q = (WP 184 115 [q0, q1, q2, (0, w32 (l3 + 1)), q4, q5] [] ds m Q) := P_nx k184_112 rfl
set_option maxRecDepth 20000 in
theorem k184_115 : mjCode 184 115 = some (.goto (-84), 3, 31, 0) := by decide +kernel
theorem p184_115 {q0 q1 q2 q3 q4 q5 : MV} {ds : Ds} {m : Mm} {Q : Ds → Mm → List MV → Prop} : WP 184 115 [q0, q1, q2, q3, q4, q5] [] ds m Q = (WP 184 31 [q0, q1, q2, q3, q4, q5] [] ds m Q) := P_nx k184_115 rfl
set_option maxRecDepth 20000 in
theorem k184_118 : mjCode 184 118 = some (.iconst 0, 1, 0, 0) := by decide +kernel
theorem p184_118 {q0 q1 q2 q3 q4 q5 : MV} {ds : Ds} {m : Mm} {Q : Ds → Mm → List MV → Prop} : WP 184 118 [q0, q1, q2, q3, q4, q5] [] ds m Q = (WP 184 119 [q0, q1, q2, q3, q4, q5] [(0, 0)] ds m Q) := P_nx k184_118 rfl
set_option maxRecDepth 20000 in
theorem k184_119 : mjCode 184 119 = some (.ireturn, 1, 0, 0) := by decide +kernel
theorem p184_119 {s0 : Int} {q0 q1 q2 q3 q4 q5 : MV} {ds : Ds} {m : Mm} {Q : Ds → Mm → List MV → Prop} : WP 184 119 [q0, q1, q2, q3, q4, q5] [(0, s0)] ds m Q = (((s0 = 0 ∨ s0 = 1) ∧ Q ds m [(0, s0)])) := P_rb k184_119 rk184
set_option maxRecDepth 20000 in
theorem k185_0 : mjCode 185 0 = some (.aload_n 0, 1, 0, 0) := by decide +kernel
theorem p185_0 {l0 : Int} {q1 q2 : MV} {ds : Ds} {m : Mm} {Q : Ds → Mm → List MV → Prop} : WP 185 0 [(2, l0), q1, q2] [] ds m Q = (WP 185 1 [(2, l0), q1, q2] [(2, l0)] ds m Q) := P_nx k185_0 rfl
set_option maxRecDepth 20000 in
theorem k185_1 : mjCode 185 1 = some (.iconst 0, 1, 0, 0) := by decide +kernel
theorem p185_1 {s0 : Int} {q0 q1 q2 : MV} {ds : Ds} {m : Mm} {Q : Ds → Mm → List MV → Prop} : WP 185 1 [q0, q1, q2] [(2, s0)] ds m Q = (WP 185 2 [q0, q1, q2] [(0, 0), (2, s0)] ds m Q) := P_nx k185_1 rfl
set_option maxRecDepth 20000 in
theorem k185_2 : mjCode 185 2 = some (.putfield 299, 3, 7, 51) := by decide +kernel
theorem p185_2 {s0 s1 : Int} {q0 q1 q2 : MV} {ds : Ds} {m : Mm} {Q : Ds → Mm → List MV → Prop} : WP 185 2 [q0, q1, q2] [(0, s0), (2, s1)] ds m Q = ((dk ds s1 = 7 ∧ WP 185 5 [q0, q1, q2] [] ds (up m s1 51 s0) Q)) := P_pf k185_2 rfl
set_option maxRecDepth 20000 in
theorem k185_5 : mjCode 185 5 = some (.aload_n 0, 1, 0, 0) := by decide +kernel
theorem p185_5 {l0 : Int} {q1 q2 : MV} {ds : Ds} {m : Mm} {Q : Ds → Mm → List MV → Prop} : WP 185 5 [(2, l0), q1, q2] [] ds m Q = (WP 185 6 [(2, l0), q1, q2] [(2, l0)] ds m Q) := P_nx k185_5 rfl
set_option maxRecDepth 20000 in
theorem k185_6 : mjCode 185 6 = some (.iload_n 1, 1, 0, 0) := by decide +kernel
theorem p185_6 {l1 s0 : Int} {q0 q2 : MV} {ds : Ds} {m : Mm} {Q : Ds → Mm → List MV → Prop} : WP 185 6 [q0, (0, l1), q2] [(2, s0)] ds m Q = (WP 185 7 [q0, (0, l1), q2] [(0, l1), (2, s0)] ds m Q) := P_nx k185_6 rfl
set_option maxRecDepth 20000 in
theorem k185_7 : mjCode 185 7 = some (.invokevirtual 266, 3, 174, 2) := by decide +kernel
theorem p185_7 {s0 s1 : Int} {q0 q1 q2 : MV} {ds : Ds} {m : Mm} {Q : Ds → Mm → List MV → Prop} : WP 185 7 [q0, q1, q2] [(0, s0), (2, s1)] ds m Q = ((dk ds s1 = 7 ∧ WP 173 0 [(2, s1), (0, s0)] [] ds m (fun d2 m2 r2 => WP 185 10 [q0, q1, q2] (r2 ++ []) d2 m2 Q))) := P_cv k185_7 mx173 mo173 rfl rfl rfl rfl rfl rfl rfl rfl
set_option maxRecDepth 20000 in
theorem k185_10 : mjCode 185 10 = some (.ifCond .ne 5, 3, 15, 0) := by decide +kernel
theorem p185_10 {s0 : Int} {q0 q1 q2 : MV} {ds : Ds} {m : Mm} {Q : Ds → Mm → List MV → Prop} : WP 185 10 [q0, q1, q2] [(0, s0)] ds m Q = (if s0 = 0 then WP 185 13 [q0, q1, q2] [] ds m Q else WP 185 15 [q0, q1, q2] [] ds m Q) := P_if k185_10 rfl
set_option maxRecDepth 20000 in
theorem k185_13 : mjCode 185 13 = some (.iconst (-1), 1, 0, 0) := by decide +kernel
theorem p185_13 {q0 q1 q2 : MV} {ds : Ds} {m : Mm} {Q : Ds → Mm → List MV → Prop} : WP 185 13 [q0, q1, q2] [] ds m Q = (WP 185 14 [q0, q1, q2] [(0, (-1))] ds m Q) := P_nx k185_13 rfl
set_option maxRecDepth 20000 in
theorem k185_14 : mjCode 185 14 = some (.ireturn, 1, 0, 0) := by decide +kernel
theorem p185_14 {s0 : Int} {q0 q1 q2 : MV} {ds : Ds} {m : Mm} {Q : Ds → Mm → List MV → Prop} : WP 185 14 [q0, q1, q2] [(0, s0)] ds m Q = (Q ds m [(0, s0)]) := P_ri k185_14 rk185
set_option maxRecDepth 20000 in
theorem k185_15 : mjCode 185 15 = some (.aload_n 0, 1, 0, 0) := by decide +kernel
theorem p185_15 {l0 : Int} {q1 q2 : MV} {ds : Ds} {m : Mm} {Q : Ds → Mm → List MV → Prop} : WP 185 15 [(2, l0), q1, q2] [] ds m Q = (WP 185 16 [(2, l0), q1, q2] [(2, l0)] ds m Q) := P_nx k185_15 rfl
set_option maxRecDepth 20000 in
theorem k185_16 : mjCode 185 16 = some (.iconst 1, 1, 0, 0) := by decide +kernel
theorem p185_16 {s0 : Int} {q0 q1 q2 : MV} {ds : Ds} {m : Mm} {Q : Ds → Mm → List MV → Prop} : WP 185 16 [q0, q1, q2] [(2, s0)] ds m Q = (WP 185 17 [q0, q1, q2] [(0, 1), (2, s0)] ds m Q) := P_nx k185_16 rfl
set_option maxRecDepth 20000 in
theorem k185_17 : mjCode 185 17 = some (.iload_n 1, 1, 0, 0) := by decide +kernel
theorem p185_17 {l1 s0 s1 : Int} {q0 q2 : MV} {ds : Ds} {m : Mm} {Q : Ds → Mm → List MV → Prop} : WP 185 17 [q0, (0, l1), q2] [(0, s0), (2, s1)] ds m Q = (WP 185 18 [q0, (0, l1), q2] [(0, l1), (0, s0), (2, s1)] ds m Q) := P_nx k185_17 rfl
set_option maxRecDepth 20000 in
theorem k185_18 : mjCode 185 18 = some (.iload_n 2, 1, 0, 0) := by decide +kernel
theorem p185_18 {l2 s0 s1 s2 : Int} {q0 q1 : MV} {ds : Ds} {m : Mm} {Q : Ds → Mm → List MV → Prop} : WP 185 18 [q0, q1, (0, l2)] [(0, s0), (0, s1), (2, s2)] ds m Q = (WP 185 19 [q0, q1, (0, l2)] [(0, l2), (0, s0), (0, s1), (2, s2)] ds m Q) := P_nx k185_18 rfl
set_option maxRecDepth 20000 in
theorem k185_19 : mjCode 185 19 = some (.invokevirtual 269, 3, 173, 4) := by decide +kernel
theorem p185_19 {s0 s1 s2 s3 : Int} {q0 q1 q2 : MV} {ds : Ds} {m : Mm} {Q : Ds → Mm → List MV → Prop} : WP 185 19 [q0, q1, q2] [(0, s0), (0, s1), (0, s2), (2, s3)] ds m Q = ((dk ds s3 = 7 ∧ WP 172 0 [(2, s3), (0, s2), (0, s1), (0, s0), (3, 0)] [] ds m (fun d2 m2 r2 => WP 185 22 [q0, q1, q2] (r2 ++ []) d2 m2 Q))) := P_cv k185_19 mx172 mo172 rfl rfl rfl rfl rfl rfl rfl rfl
set_option maxRecDepth 20000 in
theorem k185_22 : mjCode 185 22 = some (.ifCond .eq 5, 3, 27, 0) := by decide +kernel
theorem p185_22 {s0 : Int} {q0 q1 q2 : MV} {ds : Ds} {m : Mm} {Q : Ds → Mm → List MV → Prop} : WP 185 22 [q0, q1, q2] [(0, s0)] ds m Q = (if s0 = 0 then WP 185 27 [q0, q1, q2] [] ds m Q else WP 185 25 [q0, q1, q2] [] ds m Q) := P_if k185_22 rfl
set_option maxRecDepth 20000 in
theorem k185_25 : mjCode 185 25 = some (.iconst 0, 1, 0, 0) := by decide +kernel
theorem p185_25 {q0 q1 q2 : MV} {ds : Ds} {m : Mm} {Q : Ds → Mm → List MV → Prop} : WP 185 25 [q0, q1, q2] [] ds m Q = (WP 185 26 [q0, q1, q2] [(0, 0)] ds m Q) := P_nx k185_25 rfl
set_option maxRecDepth 20000 in
theorem k185_26 : mjCode 185 26 = some (.ireturn, 1, 0, 0) := by decide +kernel
theorem p185_26 {s0 : Int} {q0 q1 q2 : MV} {ds : Ds} {m : Mm} {Q : Ds → Mm → List MV → Prop} : WP 185 26 [q0, q1, q2] [(0, s0)] ds m Q = (Q ds m [(0, s0)]) := P_ri k185_26 rk185
set_option maxRecDepth 20000 in
theorem k185_27 : mjCode 185 27 = some (.aload_n 0, 1, 0, 0) := by decide +kernel
theorem p185_27 {l0 : Int} {q1 q2 : MV} {ds : Ds} {m : Mm} {Q : Ds → Mm → List MV → Prop} : WP 185 27 [(2, l0), q1, q2] [] ds m Q = (WP 185 28 [(2, l0), q1, q2] [(2, l0)] ds m Q) := P_nx k185_27 rfl
set_option maxRecDepth 20000 in
theorem k185_28 : mjCode 185 28 = some (.iload_n 1, 1, 0, 0) := by decide +kernel
theorem p185_28 {l1 s0 : Int} {q0 q2 : MV} {ds : Ds} {m : Mm} {Q : Ds → Mm → List MV → Prop} : WP 185 28 [q0, (0, l1), q2] [(2, s0)] ds m Q = (WP 185 29 [q0, (0, l1), q2] [(0, l1), (2, s0)] ds m Q) := P_nx k185_28 rfl
set_option maxRecDepth 20000 in
theorem k185_29 : mjCode 185 29 = some (.iload_n 2, 1, 0, 0) := by decide +kernel
theorem p185_29 {l2 s0 s1 : Int} {q0 q1 : MV} {ds : Ds} {m : Mm} {Q : Ds → Mm → List MV → Prop} : WP 185 29 [q0, q1, (0, l2)] [(0, s0), (2, s1)] ds m Q = (WP 185 30 [q0, q1, (0, l2)] [(0, l2), (0, s0), (2, s1)] ds m Q) := P_nx k185_29 rfl
set_option maxRecDepth 20000 in
theorem k185_30 : mjCode 185 30 = some (.iconst 1, 1, 0, 0) := by decide +kernel
theorem p185_30 {s0 s1 s2 : Int} {q0 q1 q2 : MV} {ds : Ds} {m : Mm} {Q : Ds → Mm → List MV → Prop} : WP 185 30 [q0, q1, q2] [(0, s0), (0, s1), (2, s2)] ds m Q = (WP 185 31 [q0, q1, q2] [(0, 1), (0, s0), (0, s1), (2, s2)] ds m Q) := P_nx k185_30 rfl
set_option maxRecDepth 20000 in
theorem k185_31 : mjCode 185 31 = some (.iconst 0, 1, 0, 0) := by decide +kernel
theorem p185_31 {s0 s1 s2 s3 : Int} {q0 q1 q2 : MV} {ds : Ds} {m : Mm} {Q : Ds → Mm → List MV → Prop} : WP 185 31 [q0, q1, q2] [(0, s0), (0, s1), (0, s2), (2, s3)] ds m Q = (WP 185 32 [q0, q1, q2] [(0, 0), (0, s0), (0, s1), (0, s2), (2, s3)] ds m Q) := P_nx k185_31 rfl
set_option maxRecDepth 20000 in
theorem k185_32 : mjCode 185 32 = some (.invokevirtual 296, 3, 184, 5) := by decide +kernel
theorem p185_32 {s0 s1 s2 s3 s4 : Int} {q0 q1 q2 : MV} {ds : Ds} {m : Mm} {Q : Ds → Mm → List MV → Prop} : WP 185 32 [q0, q1, q2] [(0, s0), (0, s1), (0, s2), (0, s3), (2, s4)] ds m Q = ((dk ds s4 = 7 ∧ WP 183 0 [(2, s4), (0, s3), (0, s2), (0, s1), (0, s0), (3, 0), (3, 0), (3, 0), (3, 0)] [] ds m (fun d2 m2 r2 => WP 185 35 [q0, q1, q2] (r2 ++ []) d2 m2 Q))) := P_cv k185_32 mx183 mo183 rfl rfl rfl rfl rfl rfl rfl rfl
set_option maxRecDepth 20000 in
theorem k185_35 : mjCode 185 35 = some (.ifCond .eq 10, 3, 45, 0) := by decide +kernel
theorem p185_35 {s0 : Int} {q0 q1 q2 : MV} {ds : Ds} {m : Mm} {Q : Ds → Mm → List MV → Prop} : WP 185 35 [q0, q1, q2] [(0, s0)] ds m Q = (if s0 = 0 then WP 185 45 [q0, q1, q2] [] ds m Q else WP 185 38 [q0, q1, q2] [] ds m Q) := P_if k185_35 rfl
set_option maxRecDepth 20000 in
theorem k185_38 : mjCode 185 38 = some (.aload_n 0, 1, 0, 0) := by decide +kernel
theorem p185_38 {l0 : Int} {q1 q2 : MV} {ds : Ds} {m : Mm} {Q : Ds → Mm → List MV → Prop} : WP 185 38 [(2, l0), q1, q2] [] ds m Q = (WP 185 39 [(2, l0), q1, q2] [(2, l0)] ds m Q) := P_nx k185_38 rfl
set_option maxRecDepth 20000 in
theorem k185_39 : mjCode 185 39 = some (.iconst 1, 1, 0, 0) := by decide +kernel
theorem p185_39 {s0 : Int} {q0 q1 q2 : MV} {ds : Ds} {m : Mm} {Q : Ds → Mm → List MV → Prop} : WP 185 39 [q0, q1, q2] [(2, s0)] ds m Q = (WP 185 40 [q0, q1, q2] [(0, 1), (2, s0)] ds m Q) := P_nx k185_39 rfl
set_option maxRecDepth 20000 in
theorem k185_40 : mjCode 185 40 = some (.putfield 299, 3, 7, 51) := by decide +kernel
theorem p185_40 {s0 s1 : Int} {q0 q1 q2 : MV} {ds : Ds} {m : Mm} {Q : Ds → Mm → List MV → Prop} : WP 185 40 [q0, q1, q2] [(0, s0), (2, s1)] ds m Q = ((dk ds s1 = 7 ∧ WP 185 43 [q0, q1, q2] [] ds (up m s1 51 s0) Q)) := P_pf k185_40 rfl
set_option maxRecDepth 20000 in
theorem k185_43 : mjCode 185 43 = some (.iconst 1, 1, 0, 0) := by decide +kernel
theorem p185_43 {q0 q1 q2 : MV} {ds : Ds} {m : Mm} {Q : Ds → Mm → List MV → Prop} : WP 185 43 [q0, q1, q2] [] ds m Q = (WP 185 44 [q0, q1, q2] [(0, 1)] ds m Q) := P_nx k185_43 rfl
set_option maxRecDepth 20000 in
theorem k185_44 : mjCode 185 44 = some (.ireturn, 1, 0, 0) := by decide +kernel
theorem p185_44 {s0 : Int} {q0 q1 q2 : MV} {ds : Ds} {m : Mm} {Q : Ds → Mm → List MV → Prop} : WP 185 44 [q0, q1, q2] [(0, s0)] ds m Q = (Q ds m [(0, s0)]) := P_ri k185_44 rk185
set_option maxRecDepth 20000 in
theorem k185_45 : mjCode 185 45 = some (.aload_n 0, 1, 0, 0) := by decide +kernel
theorem p185_45 {l0 : Int} {q1 q2 : MV} {ds : Ds} {m : Mm} {Q : Ds → Mm → List MV → Prop} : WP 185 45 [(2, l0), q1, q2] [] ds m Q = (WP 185 46 [(2, l0), q1, q2] [(2, l0)] ds m Q) := P_nx k185_45 rfl
set_option maxRecDepth 20000 in
theorem k185_46 : mjCode 185 46 = some (.iconst 1, 1, 0, 0) := by decide +kernel
theorem p185_46 {s0 : Int} {q0 q1 q2 : MV} {ds : Ds} {m : Mm} {Q : Ds → Mm → List MV → Prop} : WP 185 46 [q0, q1, q2] [(2, s0)] ds m Q = (WP 185 47 [q0, q1, q2] [(0, 1), (2, s0)] ds m Q) := P_nx k185_46 rfl
set_option maxRecDepth 20000 in
theorem k185_47 : mjCode 185 47 = some (.invokevirtual 261, 3, 167, 2) := by decide +kernel
theorem p185_47 {s0 s1 : Int} {q0 q1 q2 : MV} {ds : Ds} {m : Mm} {Q : Ds → Mm → List MV → Prop} : WP 185 47 [q0, q1, q2] [(0, s0), (2, s1)] ds m Q = ((dk ds s1 = 7 ∧ WP 166 0 [(2, s1), (0, s0), (3, 0), (3, 0), (3, 0)] [] ds m (fun d2 m2 r2 => WP 185 50 [q0, q1, q2] (r2 ++ []) d2 m2 Q))) := P_cv k185_47 mx166 mo166 rfl rfl rfl rfl rfl rfl rfl rfl
set_option maxRecDepth 20000 in
theorem k185_50 : mjCode 185 50 = some (.aload_n 0, 1, 0, 0) := by decide +kernel
theorem p185_50 {l0 : Int} {q1 q2 : MV} {ds : Ds} {m : Mm} {Q : Ds → Mm → List MV → Prop} : WP 185 50 [(2, l0), q1, q2] [] ds m Q = (WP 185 51 [(2, l0), q1, q2] [(2, l0)] ds m Q) := P_nx k185_50 rfl
set_option maxRecDepth 20000 in
theorem k185_51 : mjCode 185 51 = some (.iload_n 1, 1, 0, 0) := by decide +kernel
theorem p185_51 {l1 s0 : Int} {q0 q2 : MV} {ds : Ds} {m : Mm} {Q : Ds → Mm → List MV → Prop} : WP 185 51 [q0, (0, l1), q2] [(2, s0)] ds m Q = (WP 185 52 [q0, (0, l1), q2] [(0, l1), (2, s0)] ds m Q) := P_nx k185_51 rfl
set_option maxRecDepth 20000 in
theorem k185_52 : mjCode 185 52 = some (.iload_n 2, 1, 0, 0) := by decide +kernel
theorem p185_52 {l2 s0 s1 : Int} {q0 q1 : MV} {ds : Ds} {m : Mm} {Q : Ds → Mm → List MV → Prop} : WP 185 52 [q0, q1, (0, l2)] [(0, s0), (2, s1)] ds m Q = (WP 185 53 [q0, q1, (0, l2)] [(0, l2), (0, s0), (2, s1)] ds m Q) := P_nx k185_52 rfl
set_option maxRecDepth 20000 in
theorem k185_53 : mjCode 185 53 = some (.invokevirtual 302, 3, 185, 3) := by decide +kernel
theorem p185_53 {s0 s1 s2 : Int} {q0 q1 q2 : MV} {ds : Ds} {m : Mm} {Q : Ds → Mm → List MV → Prop} : WP 185 53 [q0, q1, q2] [(0, s0), (0, s1), (2, s2)] ds m Q = ((dk ds s2 = 7 ∧ WP 184 0 [(2, s2), (0, s1), (0, s0), (3, 0), (3, 0), (3, 0)] [] ds m (fun d2 m2 r2 => WP 185 56 [q0, q1, q2] (r2 ++ []) d2 m2 Q))) := P_cv k185_53 mx184 mo184 rfl rfl rfl rfl rfl rfl rfl rfl
set_option maxRecDepth 20000 in
theorem k185_56 : mjCode 185 56 = some (.ifCond .eq 10, 3, 66, 0) := by decide +kernel
theorem p185_56 {s0 : Int} {q0 q1 q2 : MV} {ds : Ds} {m : Mm} {Q : Ds → Mm → List MV → Prop} : WP 185 56 [q0, q1, q2] [(0, s0)] ds m Q = (if s0 = 0 then WP 185 66 [q0, q1, q2] [] ds m Q else WP 185 59 [q0, q1, q2] [] ds m Q) := P_if k185_56 rfl
set_option maxRecDepth 20000 in
theorem k185_59 : mjCode 185 59 = some (.aload_n 0, 1, 0, 0) := by decide +kernel
theorem p185_59 {l0 : Int} {q1 q2 : MV} {ds : Ds} {m : Mm} {Q : Ds → Mm → List MV → Prop} : WP 185 59 [(2, l0), q1, q2] [] ds m Q = (WP 185 60 [(2, l0), q1, q2] [(2, l0)] ds m Q) := P_nx k185_59 rfl
set_option maxRecDepth 20000 in
theorem k185_60 : mjCode 185 60 = some (.iconst 2, 1, 0, 0) := by decide +kernel
theorem p185_60 {s0 : Int} {q0 q1 q2 : MV} {ds : Ds} {m : Mm} {Q : Ds → Mm → List MV → Prop} : WP 185 60 [q0, q1, q2] [(2, s0)] ds m Q = (WP 185 61 [q0, q1, q2] [(0, 2), (2, s0)] ds m Q) := P_nx k185_60 rfl
set_option maxRecDepth 20000 in
theorem k185_61 : mjCode 185 61 = some (.putfield 299, 3, 7, 51) := by decide +kernel
theorem p185_61 {s0 s1 : Int} {q0 q1 q2 : MV} {ds : Ds} {m : Mm} {Q : Ds → Mm → List MV → Prop} : WP 185 61 [q0, q1, q2] [(0, s0), (2, s1)] ds m Q = ((dk ds s1 = 7 ∧ WP 185 64 [q0, q1, q2] [] ds (up m s1 51 s0) Q)) := P_pf k185_61 rfl
set_option maxRecDepth 20000 in
theorem k185_64 : mjCode 185 64 = some (.iconst 2, 1, 0, 0) := by decide +kernel
theorem p185_64 {q0 q1 q2 : MV} {ds : Ds} {m : Mm} {Q : Ds → Mm → List MV → Prop} : WP 185 64 [q0, q1, q2] [] ds m Q = (WP 185 65 [q0, q1, q2] [(0, 2)] ds m Q) := P_nx k185_64 rfl
set_option maxRecDepth 20000 in
theorem k185_65 : mjCode 185 65 = some (.ireturn, 1, 0, 0) := by decide +kernel
theorem p185_65 {s0 : Int} {q0 q1 q2 : MV} {ds : Ds} {m : Mm} {Q : Ds → Mm → List MV → Prop} : WP 185 65 [q0, q1, q2] [(0, s0)] ds m Q = (Q ds m [(0, s0)]) := P_ri k185_65 rk185
set_option maxRecDepth 20000 in
theorem k185_66 : mjCode 185 66 = some (.iconst (-1), 1, 0, 0) := by decide +kernel
theorem p185_66 {q0 q1 q2 : MV} {ds : Ds} {m : Mm} {Q : Ds → Mm → List MV → Prop} : WP 185 66 [q0, q1, q2] [] ds m Q = (WP 185 67 [q0, q1, q2] [(0, (-1))] ds m Q) := P_nx k185_66 rfl
set_option maxRecDepth 20000 in
theorem k185_67 : mjCode 185 67 = some (.ireturn, 1, 0, 0) := by decide +kernel
theorem p185_67 {s0 : Int} {q0 q1 q2 : MV} {ds : Ds} {m : Mm} {Q : Ds → Mm → List MV → Prop} : WP 185 67 [q0, q1, q2] [(0, s0)] ds m Q = (Q ds m [(0, s0)]) := P_ri k185_67 rk185
set_option maxRecDepth 20000 in
theorem k186_0 : mjCode 186 0 = some (.iload_n 1, 1, 0, 0) := by decide +kernel
theorem p186_0 {l1 : Int} {q0 : MV} {ds : Ds} {m : Mm} {Q : Ds → Mm → List MV → Prop} : WP 186 0 [q0, (0, l1)] [] ds m Q = (WP 186 1 [q0, (0, l1)] [(0, l1)] ds m Q) := P_nx k186_0 rfl
set_option maxRecDepth 20000 in
theorem k186_1 : mjCode 186 1 = some (.iconst 0, 1, 0, 0) := by decide +kernel
theorem p186_1 {s0 : Int} {q0 q1 : MV} {ds : Ds} {m : Mm} {Q : Ds → Mm → List MV → Prop} : WP 186 1 [q0, q1] [(0, s0)] ds m Q = (WP 186 2 [q0, q1] [(0, 0), (0, s0)] ds m Q) := P_nx k186_1 rfl
set_option maxRecDepth 20000 in
theorem k186_2 : mjCode 186 2 = some (.aload_n 0, 1, 0, 0) := by decide +kernel
theorem p186_2 {l0 s0 s1 : Int} {q1 : MV} {ds : Ds} {m : Mm} {Q : Ds → Mm → List MV → Prop} : WP 186 2 [(2, l0), q1] [(0, s0), (0, s1)] ds m Q = (WP 186 3 [(2, l0), q1] [(2, l0), (0, s0), (0, s1)] ds m Q) := P_nx k186_2 rfl
set_option maxRecDepth 20000 in
theorem k186_3 : mjCode 186 3 = some (.getfield 299, 3, 7, 51) := by decide +kernel
theorem p186_3 {s0 s1 s2 : Int} {q0 q1 : MV} {ds : Ds} {m : Mm} {Q : Ds → Mm → List MV → Prop} : WP 186 3 [q0, q1] [(2, s0), (0, s1), (0, s2)] ds m Q = ((dk ds s0 = 7 ∧ WP 186 6 [q0, q1] [(0, m s0 51), (0, s1), (0, s2)] ds m Q)) := P_gd k186_3 rfl
set_option maxRecDepth 20000 in
theorem k186_6 : mjCode 186 6 = some (.iconst 1, 1, 0, 0) := by decide +kernel
theorem p186_6 {s0 s1 s2 : Int} {q0 q1 : MV} {ds : Ds} {m : Mm} {Q : Ds → Mm → List MV → Prop} : WP 186 6 [q0, q1] [(0, s0), (0, s1), (0, s2)] ds m Q = (WP 186 7 [q0, q1] [(0, 1), (0, s0), (0, s1), (0, s2)] ds m Q) := P_nx k186_6 rfl
set_option maxRecDepth 20000 in
theorem k186_7 : mjCode 186 7 = some (.isub, 1, 0, 0) := by decide +kernel
theorem p186_7 {s0 s1 s2 s3 : Int} {q0 q1 : MV} {ds : Ds} {m : Mm} {Q : Ds → Mm → List MV → Prop} : WP 186 7 [q0, q1] [(0, s0), (0, s1), (0, s2), (0, s3)] ds m Q = (WP 186 8 [q0, q1] [(0, w32 (s1 - s0)), (0, s2), (0, s3)] ds m Q) := P_nx k186_7 rfl
set_option maxRecDepth 20000 in
theorem k186_8 : mjCode 186 8 = some (.invokestatic 141, 3, 121, 3) := by decide +kernel
theorem p186_8 {s0 s1 s2 : Int} {q0 q1 : MV} {ds : Ds} {m : Mm} {Q : Ds → Mm → List MV → Prop} : WP 186 8 [q0, q1] [(0, s0), (0, s1), (0, s2)] ds m Q = (WP 120 0 [(0, s2), (0, s1), (0, s0)] [] ds m (fun d2 m2 r2 => WP 186 11 [q0, q1] (r2 ++ []) d2 m2 Q)) := P_cs k186_8 mx120 rfl rfl rfl rfl rfl rfl rfl
set_option maxRecDepth 20000 in
theorem k186_11 : mjCode 186 11 = some (.ifCond .eq 12, 3, 23, 0) := by decide +kernel
theorem p186_11 {s0 : Int} {q0 q1 : MV} {ds : Ds} {m : Mm} {Q : Ds → Mm → List MV → Prop} : WP 186 11 [q0, q1] [(0, s0)] ds m Q = (if s0 = 0 then WP 186 23 [q0, q1] [] ds m Q else WP 186 14 [q0, q1] [] ds m Q) := P_if k186_11 rfl
set_option maxRecDepth 20000 in
theorem k186_14 : mjCode 186 14 = some (.aload_n 0, 1, 0, 0) := by decide +kernel
theorem p186_14 {l0 : Int} {q1 : MV} {ds : Ds} {m : Mm} {Q : Ds → Mm → List MV → Prop} : WP 186 14 [(2, l0), q1] [] ds m Q = (WP 186 15 [(2, l0), q1] [(2, l0)] ds m Q) := P_nx k186_14 rfl
set_option maxRecDepth 20000 in
theorem k186_15 : mjCode 186 15 = some (.getfield 135, 3, 7, 50) := by decide +kernel
theorem p186_15 {s0 : Int} {q0 q1 : MV} {ds : Ds} {m : Mm} {Q : Ds → Mm → List MV → Prop} : WP 186 15 [q0, q1] [(2, s0)] ds m Q = ((dk ds s0 = 7 ∧ WP 186 18 [q0, q1] [(2, m s0 50)] ds m Q)) := P_gd k186_15 rfl
set_option maxRecDepth 20000 in
theorem k186_18 : mjCode 186 18 = some (.iload_n 1, 1, 0, 0) := by decide +kernel
theorem p186_18 {l1 s0 : Int} {q0 : MV} {ds : Ds} {m : Mm} {Q : Ds → Mm → List MV → Prop} : WP 186 18 [q0, (0, l1)] [(2, s0)] ds m Q = (WP 186 19 [q0, (0, l1)] [(0, l1), (2, s0)] ds m Q) := P_nx k186_18 rfl
set_option maxRecDepth 20000 in
theorem k186_19 : mjCode 186 19 = some (.iaload, 1, 0, 0) := by decide +kernel
theorem p186_19 {s0 s1 : Int} {q0 q1 : MV} {ds : Ds} {m : Mm} {Q : Ds → Mm → List MV → Prop} : WP 186 19 [q0, q1] [(0, s0), (2, s1)] ds m Q = ((dk ds s1 = 10 ∧ 0 ≤ s0 ∧ s0 < dl ds s1 ∧ WP 186 20 [q0, q1] [(0, m s1 s0)] ds m Q)) := P_g3 k186_19 rfl
set_option maxRecDepth 20000 in
theorem k186_20 : mjCode 186 20 = some (.goto 4, 3, 24, 0) := by decide +kernel
theorem p186_20 {s0 : Int} {q0 q1 : MV} {ds : Ds} {m : Mm} {Q : Ds → Mm → List MV → Prop} : WP 186 20 [q0, q1] [(0, s0)] ds m Q = (WP 186 24 [q0, q1] [(0, s0)] ds m Q) := P_nx k186_20 rfl
set_option maxRecDepth 20000 in
theorem k186_23 : mjCode 186 23 = some (.iconst (-1), 1, 0, 0) := by decide +kernel
theorem p186_23 {q0 q1 : MV} {ds : Ds} {m : Mm} {Q : Ds → Mm → List MV → Prop} : WP 186 23 [q0, q1] [] ds m Q = (WP 186 24 [q0, q1] [(0, (-1))] ds m Q) := P_nx k186_23 rfl
set_option maxRecDepth 20000 in
theorem k186_24 : mjCode 186 24 = some (.ireturn, 1, 0, 0) := by decide +kernel
theorem p186_24 {s0 : Int} {q0 q1 : MV} {ds : Ds} {m : Mm} {Q : Ds → Mm → List MV → Prop} : WP 186 24 [q0, q1] [(0, s0)] ds m Q = (Q ds m [(0, s0)]) := P_ri k186_24 rk186
set_option maxRecDepth 20000 in
theorem k187_0 : mjCode 187 0 = some (.aload_n 0, 1, 0, 0) := by decide +kernel
theorem p187_0 {l0 : Int} {q1 q2 q3 q4 q5 q6 : MV} {ds : Ds} {m : Mm} {Q : Ds → Mm → List MV → Prop} : WP 187 0 [(2, l0), q1, q2, q3, q4, q5, q6] [] ds m Q = (WP 187 1 [(2, l0), q1, q2, q3, q4, q5, q6] [(2, l0)] ds m Q) := P_nx k187_0 rfl
set_option maxRecDepth 20000 in
theorem k187_1 : mjCode 187 1 = some (.iload_n 1, 1, 0, 0) := by decide +kernel
theorem p187_1 {l1 s0 : Int} {q0 q2 q3 q4 q5 q6 : MV} {ds : Ds} {m : Mm} {Q : Ds → Mm → List MV → Prop} : WP 187 1 [q0, (0, l1), q2, q3, q4, q5, q6] [(2, s0)] ds m Q = (WP 187 2 [q0, (0, l1), q2, q3, q4, q5, q6] [(0, l1), (2, s0)] ds m Q) := P_nx k187_1 rfl
set_option maxRecDepth 20000 in
theorem k187_2 : mjCode 187 2 = some (.invokevirtual 183, 3, 142, 2) := by decide +kernel
theorem p187_2 {s0 s1 : Int} {q0 q1 q2 q3 q4 q5 q6 : MV} {ds : Ds} {m : Mm} {Q : Ds → Mm → List MV → Prop} : WP 187 2 [q0, q1, q2, q3, q4, q5, q6] [(0, s0), (2, s1)] ds m Q = ((dk ds s1 = 7 ∧ WP 141 0 [(2, s1), (0, s0)] [] ds m (fun d2 m2 r2 => WP 187 5 [q0, q1, q2, q3, q4, q5, q6] (r2 ++ []) d2 m2 Q))) := P_cv k187_2 mx141 mo141 rfl rfl rfl rfl rfl rfl rfl rfl
set_option maxRecDepth 20000 in
theorem k187_5 : mjCode 187 5 = some (.istore_n 2, 1, 0, 0) := by decide +kernel
theorem p187_5 {l1 s0 : Int} {q0 q2 q3 q4 q5 q6 : MV} {ds : Ds} {m : Mm} {Q : Ds → Mm → List MV → Prop} : WP 187 5 [q0, (0, l1), q2, q3, q4, q5, q6] [(0, s0)] ds m Q = (WP 187 6 [q0, (0, l1), (0, s0), q3, q4, q5, q6] [] ds m Q) := P_nx k187_5 rfl
set_option maxRecDepth 20000 in
theorem k187_6 : mjCode 187 6 = some (.iload_n 2, 1, 0, 0) := by decide +kernel
theorem p187_6 {l2 : Int} {q0 q1 q3 q4 q5 q6 : MV} {ds : Ds} {m : Mm} {Q : Ds → Mm → List MV → Prop} : WP 187 6 [q0, q1, (0, l2), q3, q4, q5, q6] [] ds m Q = (WP 187 7 [q0, q1, (0, l2), q3, q4, q5, q6] [(0, l2)] ds m Q) := P_nx k187_6 rfl
set_option maxRecDepth 20000 in
theorem k187_7 : mjCode 187 7 = some (.ifCond .eq 9, 3, 16, 0) := by decide +kernel
theorem p187_7 {s0 : Int} {q0 q1 q2 q3 q4 q5 q6 : MV} {ds : Ds} {m : Mm} {Q : Ds → Mm → List MV → Prop} : WP 187 7 [q0, q1, q2, q3, q4, q5, q6] [(0, s0)] ds m Q = (if s0 = 0 then WP 187 16 [q0, q1, q2, q3, q4, q5, q6] [] ds m Q else WP 187 10 [q0, q1, q2, q3, q4, q5, q6] [] ds m Q) := P_if k187_7 rfl
set_option maxRecDepth 20000 in
theorem k187_10 : mjCode 187 10 = some (.aload_n 0, 1, 0, 0) := by decide +kernel
theorem p187_10 {l0 : Int} {q1 q2 q3 q4 q5 q6 : MV} {ds : Ds} {m : Mm} {Q : Ds → Mm → List MV → Prop} : WP 187 10 [(2, l0), q1, q2, q3, q4, q5, q6] [] ds m Q = (WP 187 11 [(2, l0), q1, q2, q3, q4, q5, q6] [(2, l0)] ds m Q) := P_nx k187_10 rfl
set_option maxRecDepth 20000 in
theorem k187_11 : mjCode 187 11 = some (.iload_n 2, 1, 0, 0) := by decide +kernel
theorem p187_11 {l2 s0 : Int} {q0 q1 q3 q4 q5 q6 : MV} {ds : Ds} {m : Mm} {Q : Ds → Mm → List MV → Prop} : WP 187 11 [q0, q1, (0, l2), q3, q4, q5, q6] [(2, s0)] ds m Q = (WP 187 12 [q0, q1, (0, l2), q3, q4, q5, q6] [(0, l2), (2, s0)] ds m Q) := P_nx k187_11 rfl
set_option maxRecDepth 20000 in
theorem k187_12 : mjCode 187 12 = some (.invokevirtual 155, 3, 122, 2) := by decide +kernel
theorem p187_12 {s0 s1 : Int} {q0 q1 q2 q3 q4 q5 q6 : MV} {ds : Ds} {m : Mm} {Q : Ds → Mm → List MV → Prop} : WP 187 12 [q0, q1, q2, q3, q4, q5, q6] [(0, s0), (2, s1)] ds m Q = ((dk ds s1 = 7 ∧ WP 121 0 [(2, s1), (0, s0)] [] ds m (fun d2 m2 r2 => WP 187 15 [q0, q1, q2, q3, q4, q5, q6] (r2 ++ []) d2 m2 Q))) := P_cv k187_12 mx121 mo121 rfl rfl rfl rfl rfl rfl rfl rfl
set_option maxRecDepth 20000 in
theorem k187_15 : mjCode 187 15 = some (.ireturn, 1, 0, 0) := by decide +kernel
theorem p187_15 {s0 : Int} {q0 q1 q2 q3 q4 q5 q6 : MV} {ds : Ds} {m : Mm} {Q : Ds → Mm → List MV → Prop} : WP 187 15 [q0, q1, q2, q3, q4, q5, q6] [(0, s0)] ds m Q = (Q ds m [(0, s0)]) := P_ri k187_15 rk187
set_option maxRecDepth 20000 in
theorem k187_16 : mjCode 187 16 = some (.iconst 0, 1, 0, 0) := by decide +kernel
theorem p187_16 {q0 q1 q2 q3 q4 q5 q6 : MV} {ds : Ds} {m : Mm} {Q : Ds → Mm → List MV → Prop} : WP 187 16 [q0, q1, q2, q3, q4, q5, q6] [] ds m Q = (WP 187 17 [q0, q1, q2, q3, q4, q5, q6] [(0, 0)] ds m Q) := P_nx k187_16 rfl
set_option maxRecDepth 20000 in
theorem k187_17 : mjCode 187 17 = some (.istore_n 3, 1, 0, 0) := by decide +kernel
theorem p187_17 {l2 s0 : Int} {q0 q1 q3 q4 q5 q6 : MV} {ds : Ds} {m : Mm} {Q : Ds → Mm → List MV → Prop} : WP 187 17 [q0, q1, (0, l2), q3, q4, q5, q6] [(0, s0)] ds m Q = (WP 187 18 [q0, q1, (0, l2), (0, s0), q4, q5, q6] [] ds m Q) := P_nx k187_17 rfl
set_option maxRecDepth 20000 in
theorem k187_18 : mjCode 187 18 = some (.iconst 0, 1, 0, 0) := by decide +kernel
theorem p187_18 {q0 q1 q2 q3 q4 q5 q6 : MV} {ds : Ds} {m : Mm} {Q : Ds → Mm → List MV → Prop} : WP 187 18 [q0, q1, q2, q3, q4, q5, q6] [] ds m Q = (WP 187 19 [q0, q1, q2, q3, q4, q5, q6] [(0, 0)] ds m Q) := P_nx k187_18 rfl
set_option maxRecDepth 20000 in
theorem k187_19 : mjCode 187 19 = some (.istore 4, 2, 0, 0) := by decide +kernel
theorem p187_19 {l3 s0 : Int} {q0 q1 q2 q4 q5 q6 : MV} {ds : Ds} {m : Mm} {Q : Ds → Mm → List MV → Prop} : WP 187 19 [q0, q1, q2, (0, l3), q4, q5, q6] [(0, s0)] ds m Q = (WP 187 21 [q0, q1, q2, (0, l3), (0, s0), q5, q6] [] ds m Q) := P_nx k187_19 rfl
set_option maxRecDepth 20000 in
theorem k187_21 : mjCode 187 21 = some (.iconst 1, 1, 0, 0) := by decide +kernel
theorem p187_21 {q0 q1 q2 q3 q4 q5 q6 : MV} {ds : Ds} {m : Mm} {Q : Ds → Mm → List MV → Prop} : WP 187 21 [q0, q1, q2, q3, q4, q5, q6] [] ds m Q = (WP 187 22 [q0, q1, q2, q3, q4, q5, q6] [(0, 1)] ds m Q) := P_nx k187_21 rfl
set_option maxRecDepth 20000 in
theorem k187_22 : mjCode 187 22 = some (.istore 5, 2, 0, 0) := by decide +kernel
theorem p187_22 {l4 s0 : Int} {q0 q1 q2 q3 q5 q6 : MV} {ds : Ds} {m : Mm} {Q : Ds → Mm → List MV → Prop} : WP 187 22 [q0, q1, q2, q3, (0, l4), q5, q6] [(0, s0)] ds m Q = (WP 187 24 [q0, q1, q2, q3, (0, l4), (0, s0), q6] [] ds m Q) := P_nx k187_22 rfl
set_option maxRecDepth 20000 in
theorem k187_24 : mjCode 187 24 = some (.iconst 0, 1, 0, 0) := by decide +kernel
theorem p187_24 {q0 q1 q2 q3 q4 q5 q6 : MV} {ds : Ds} {m : Mm} {Q : Ds → Mm → List MV → Prop} : WP 187 24 [q0, q1, q2, q3, q4, q5, q6] [] ds m Q = (WP 187 25 [q0, q1, q2, q3, q4, q5, q6] [(0, 0)] ds m Q) := P_nx k187_24 rfl
set_option maxRecDepth 20000 in
theorem k187_25 : mjCode 187 25 = some (.istore 6, 2, 0, 0) := by decide +kernel
theorem p187_25 {l5 s0 : Int} {q0 q1 q2 q3 q4 q6 : MV} {ds : Ds} {m : Mm} {Q : Ds → Mm → List MV → Prop} : WP 187 25 [q0, q1, q2, q3, q4, (0, l5), q6] [(0, s0)] ds m Q = (WP 187 27 [q0, q1, q2, q3, q4, (0, l5), (0, s0)] [] ds m Q) := P_nx k187_25 rfl
set_option maxRecDepth 20000 in
theorem k187_27 : mjCode 187 27 = some (.aload_n 0, 1, 0, 0) := by decide +kernel
theorem p187_27 {l0 : Int} {q1 q2 q3 q4 q5 q6 : MV} {ds : Ds} {m : Mm} {Q : Ds → Mm → List MV → Prop} : WP 187 27 [(2, l0), q1, q2, q3, q4, q5, q6] [] ds m Q = (WP 187 28 [(2, l0), q1, q2, q3, q4, q5, q6] [(2, l0)] ds m Q) := P_nx k187_27 rfl
set_option maxRecDepth 20000 in
theorem k187_28 : mjCode 187 28 = some (.getfield 264, 3, 7, 10) := by decide +kernel
theorem p187_28 {s0 : Int} {q0 q1 q2 q3 q4 q5 q6 : MV} {ds : Ds} {m : Mm} {Q : Ds → Mm → List MV → Prop} : WP 187 28 [q0, q1, q2, q3, q4, q5, q6] [(2, s0)] ds m Q = ((dk ds s0 = 7 ∧ WP 187 31 [q0, q1, q2, q3, q4, q5, q6] [(0, m s0 10)] ds m Q)) := P_gd k187_28 rfl
set_option maxRecDepth 20000 in
theorem k187_31 : mjCode 187 31 = some (.ifCond .le 88, 3, 119, 0) := by decide +kernel
theorem p187_31 {s0 : Int} {q0 q1 q2 q3 q4 q5 q6 : MV} {ds : Ds} {m : Mm} {Q : Ds → Mm → List MV → Prop} : WP 187 31 [q0, q1, q2, q3, q4, q5, q6] [(0, s0)] ds m Q = (if 0 < s0 then WP 187 34 [q0, q1, q2, q3, q4, q5, q6] [] ds m Q else WP 187 119 [q0, q1, q2, q3, q4, q5, q6] [] ds m Q) := P_if k187_31 rfl
set_option maxRecDepth 20000 in
theorem k187_34 : mjCode 187 34 = some (.iload 6, 2, 0, 0) := by decide +kernel
theorem p187_34 {l6 : Int} {q0 q1 q2 q3 q4 q5 : MV} {ds : Ds} {m : Mm} {Q : Ds → Mm → List MV → Prop} : WP 187 34 [q0, q1, q2, q3, q4, q5, (0, l6)] [] ds m Q = (WP 187 36 [q0, q1, q2, q3, q4, q5, (0, l6)] [(0, l6)] ds m Q) := P_nx k187_34 rfl
set_option maxRecDepth 20000 in
theorem k187_36 : mjCode 187 36 = some (.aload_n 0, 1, 0, 0) := by decide +kernel
theorem p187_36 {l0 s0 : Int} {q1 q2 q3 q4 q5 q6 : MV} {ds : Ds} {m : Mm} {Q : Ds → Mm → List MV → Prop} : WP 187 36 [(2, l0), q1, q2, q3, q4, q5, q6] [(0, s0)] ds m Q = (WP 187 37 [(2, l0), q1, q2, q3, q4, q5, q6] [(2, l0), (0, s0)] ds m Q) := P_nx k187_36 rfl
set_option maxRecDepth 20000 in
theorem k187_37 : mjCode 187 37 = some (.getfield 102, 3, 7, 36) := by decide +kernel
theorem p187_37 {s0 s1 : Int} {q0 q1 q2 q3 q4 q5 q6 : MV} {ds : Ds} {m : Mm} {Q : Ds → Mm → List MV → Prop} : WP 187 37 [q0, q1, q2, q3, q4, q5, q6] [(2, s0), (0, s1)] ds m Q = ((dk ds s0 = 7 ∧ WP 187 40 [q0, q1, q2, q3, q4, q5, q6] [(2, m s0 36), (0, s1)] ds m Q)) := P_gd k187_37 rfl
set_option maxRecDepth 20000 in
theorem k187_40 : mjCode 187 40 = some (.iconst 2, 1, 0, 0) := by decide +kernel
theorem p187_40 {s0 s1 : Int} {q0 q1 q2 q3 q4 q5 q6 : MV} {ds : Ds} {m : Mm} {Q : Ds → Mm → List MV → Prop} : WP 187 40 [q0, q1, q2, q3, q4, q5, q6] [(2, s0), (0, s1)] ds m Q = (WP 187 41 [q0, q1, q2, q3, q4, q5, q6] [(0, 2), (2, s0), (0, s1)] ds m Q) := P_nx k187_40 rfl
set_option maxRecDepth 20000 in
theorem k187_41 : mjCode 187 41 = some (.iaload, 1, 0, 0) := by decide +kernel
theorem p187_41 {s0 s1 s2 : Int} {q0 q1 q2 q3 q4 q5 q6 : MV} {ds : Ds} {m : Mm} {Q : Ds → Mm → List MV → Prop} : WP 187 41 [q0, q1, q2, q3, q4, q5, q6] [(0, s0), (2, s1), (0, s2)] ds m Q = ((dk ds s1 = 10 ∧ 0 ≤ s0 ∧ s0 < dl ds s1 ∧ WP 187 42 [q0, q1, q2, q3, q4, q5, q6] [(0, m s1 s0), (0, s2)] ds m Q)) := P_g3 k187_41 rfl
set_option maxRecDepth 20000 in
theorem k187_42 : mjCode 187 42 = some (.if_icmp .ge 77, 3, 119, 0) := by decide +kernel
theorem p187_42 {s0 s1 : Int} {q0 q1 q2 q3 q4 q5 q6 : MV} {ds : Ds} {m : Mm} {Q : Ds → Mm → List MV → Prop} : WP 187 42 [q0, q1, q2, q3, q4, q5, q6] [(0, s0), (0, s1)] ds m Q = (if s1 < s0 then WP 187 45 [q0, q1, q2, q3, q4, q5, q6] [] ds m Q else WP 187 119 [q0, q1, q2, q3, q4, q5, q6] [] ds m Q) := P_if k187_42 rfl
set_option maxRecDepth 20000 in
theorem k187_45 : mjCode 187 45 = some (.aload_n 0, 1, 0, 0) := by decide +kernel
theorem p187_45 {l0 : Int} {q1 q2 q3 q4 q5 q6 : MV} {ds : Ds} {m : Mm} {Q : Ds → Mm → List MV → Prop} : WP 187 45 [(2, l0), q1, q2, q3, q4, q5, q6] [] ds m Q = (WP 187 46 [(2, l0), q1, q2, q3, q4, q5, q6] [(2, l0)] ds m Q) := P_nx k187_45 rfl
set_option maxRecDepth 20000 in
theorem k187_46 : mjCode 187 46 = some (.iload 6, 2, 0, 0) := by decide +kernel
theorem p187_46 {l6 s0 : Int} {q0 q1 q2 q3 q4 q5 : MV} {ds : Ds} {m : Mm} {Q : Ds → Mm → List MV → Prop} : WP 187 46 [q0, q1, q2, q3, q4, q5, (0, l6)] [(2, s0)] ds m Q = (WP 187 48 [q0, q1, q2, q3, q4, q5, (0, l6)] [(0, l6), (2, s0)] ds m Q) := P_nx k187_46 rfl
set_option maxRecDepth 20000 in
theorem k187_48 : mjCode 187 48 = some (.invokevirtual 305, 3, 189, 2) := by decide +kernel
theorem p187_48 {s0 s1 : Int} {q0 q1 q2 q3 q4 q5 q6 : MV} {ds : Ds} {m : Mm} {Q : Ds → Mm → List MV → Prop} : WP 187 48 [q0, q1, q2, q3, q4, q5, q6] [(0, s0), (2, s1)] ds m Q = ((dk ds s1 = 7 ∧ WP 188 0 [(2, s1), (0, s0), (3, 0)] [] ds m (fun d2 m2 r2 => WP 187 51 [q0, q1, q2, q3, q4, q5, q6] (r2 ++ []) d2 m2 Q))) := P_cv k187_48 mx188 mo188 rfl rfl rfl rfl rfl rfl rfl rfl
set_option maxRecDepth 20000 in
theorem k187_51 : mjCode 187 51 = some (.ifCond .eq 62, 3, 113, 0) := by decide +kernel
theorem p187_51 {s0 : Int} {q0 q1 q2 q3 q4 q5 q6 : MV} {ds : Ds} {m : Mm} {Q : Ds → Mm → List MV → Prop} : WP 187 51 [q0, q1, q2, q3, q4, q5, q6] [(0, s0)] ds m Q = (if s0 = 0 then WP 187 113 [q0, q1, q2, q3, q4, q5, q6] [] ds m Q else WP 187 54 [q0, q1, q2, q3, q4, q5, q6] [] ds m Q) := P_if k187_51 rfl
set_option maxRecDepth 20000 in
theorem k187_54 : mjCode 187 54 = some (.iload 5, 2, 0, 0) := by decide +kernel
theorem p187_54 {l5 : Int} {q0 q1 q2 q3 q4 q6 : MV} {ds : Ds} {m : Mm} {Q : Ds → Mm → List MV → Prop} : WP 187 54 [q0, q1, q2, q3, q4, (0, l5), q6] [] ds m Q = (WP 187 56 [q0, q1, q2, q3, q4, (0, l5), q6] [(0, l5)] ds m Q) := P_nx k187_54 rfl
set_option maxRecDepth 20000 in
theorem k187_56 : mjCode 187 56 = some (.ifCond .eq 36, 3, 92, 0) := by decide +kernel
theorem p187_56 {s0 : Int} {q0 q1 q2 q3 q4 q5 q6 : MV} {ds : Ds} {m : Mm} {Q : Ds → Mm → List MV → Prop} : WP 187 56 [q0, q1, q2, q3, q4, q5, q6] [(0, s0)] ds m Q = (if s0 = 0 then WP 187 92 [q0, q1, q2, q3, q4, q5, q6] [] ds m Q else WP 187 59 [q0, q1, q2, q3, q4, q5, q6] [] ds m Q) := P_if k187_56 rfl
set_option maxRecDepth 20000 in
theorem k187_59 : mjCode 187 59 = some (.iload_n 3, 1, 0, 0) := by decide +kernel
theorem p187_59 {l3 : Int} {q0 q1 q2 q4 q5 q6 : MV} {ds : Ds} {m : Mm} {Q : Ds → Mm → List MV → Prop} : WP 187 59 [q0, q1, q2, (0, l3), q4, q5, q6] [] ds m Q = (WP 187 60 [q0, q1, q2, (0, l3), q4, q5, q6] [(0, l3)] ds m Q) := P_nx k187_59 rfl
set_option maxRecDepth 20000 in
theorem k187_60 : mjCode 187 60 = some (.aload_n 0, 1, 0, 0) := by decide +kernel
theorem p187_60 {l0 s0 : Int} {q1 q2 q3 q4 q5 q6 : MV} {ds : Ds} {m : Mm} {Q : Ds → Mm → List MV → Prop} : WP 187 60 [(2, l0), q1, q2, q3, q4, q5, q6] [(0, s0)] ds m Q = (WP 187 61 [(2, l0), q1, q2, q3, q4, q5, q6] [(2, l0), (0, s0)] ds m Q) := P_nx k187_60 rfl
set_option maxRecDepth 20000 in
theorem k187_61 : mjCode 187 61 = some (.getfield 41, 3, 7, 12) := by decide +kernel
theorem p187_61 {s0 s1 : Int} {q0 q1 q2 q3 q4 q5 q6 : MV} {ds : Ds} {m : Mm} {Q : Ds → Mm → List MV → Prop} : WP 187 61 [q0, q1, q2, q3, q4, q5, q6] [(2, s0), (0, s1)] ds m Q = ((dk ds s0 = 7 ∧ WP 187 64 [q0, q1, q2, q3, q4, q5, q6] [(2, m s0 12), (0, s1)] ds m Q)) := P_gd k187_61 rfl
set_option maxRecDepth 20000 in
theorem k187_64 : mjCode 187 64 = some (.iload_n 1, 1, 0, 0) := by decide +kernel
theorem p187_64 {l1 s0 s1 : Int} {q0 q2 q3 q4 q5 q6 : MV} {ds : Ds} {m : Mm} {Q : Ds → Mm → List MV → Prop} : WP 187 64 [q0, (0, l1), q2, q3, q4, q5, q6] [(2, s0), (0, s1)] ds m Q = (WP 187 65 [q0, (0, l1), q2, q3, q4, q5, q6] [(0, l1), (2, s0), (0, s1)] ds m Q) := P_nx k187_64 rfl
set_option maxRecDepth 20000 in
theorem k187_65 : mjCode 187 65 = some (.iaload, 1, 0, 0) := by decide +kernel
theorem p187_65 {s0 s1 s2 : Int} {q0 q1 q2 q3 q4 q5 q6 : MV} {ds : Ds} {m : Mm} {Q : Ds → Mm → List MV → Prop} : WP 187 65 [q0, q1, q2, q3, q4, q5, q6] [(0, s0), (2, s1), (0, s2)] ds m Q = ((dk ds s1 = 10 ∧ 0 ≤ s0 ∧ s0 < dl ds s1 ∧ WP 187 66 [q0, q1, q2, q3, q4, q5, q6] [(0, m s1 s0), (0, s2)] ds m Q)) := P_g3 k187_65 rfl
set_option maxRecDepth 20000 in
theorem k187_66 : mjCode 187 66 = some (.if_icmp .ge 26, 3, 92, 0) := by decide +kernel
theorem p187_66 {s0 s1 : Int} {q0 q1 q2 q3 q4 q5 q6 : MV} {ds : Ds} {m : Mm} {Q : Ds → Mm → List MV → Prop} : WP 187 66 [q0, q1, q2, q3, q4, q5, q6] [(0, s0), (0, s1)] ds m Q = (if s1 < s0 then WP 187 69 [q0, q1, q2, q3, q4, q5, q6] [] ds m Q else WP 187 92 [q0, q1, q2, q3, q4, q5, q6] [] ds m Q) := P_if k187_66 rfl
set_option maxRecDepth 20000 in
theorem k187_69 : mjCode 187 69 = some (.aload_n 0, 1, 0, 0) := by decide +kernel
theorem p187_69 {l0 : Int} {q1 q2 q3 q4 q5 q6 : MV} {ds : Ds} {m : Mm} {Q : Ds → Mm → List MV → Prop} : WP 187 69 [(2, l0), q1, q2, q3, q4, q5, q6] [] ds m Q = (WP 187 70 [(2, l0), q1, q2, q3, q4, q5, q6] [(2, l0)] ds m Q) := P_nx k187_69 rfl
set_option maxRecDepth 20000 in
theorem k187_70 : mjCode 187 70 = some (.iload_n 1, 1, 0, 0) := by decide +kernel
theorem p187_70 {l1 s0 : Int} {q0 q2 q3 q4 q5 q6 : MV} {ds : Ds} {m : Mm} {Q : Ds → Mm → List MV → Prop} : WP 187 70 [q0, (0, l1), q2, q3, q4, q5, q6] [(2, s0)] ds m Q = (WP 187 71 [q0, (0, l1), q2, q3, q4, q5, q6] [(0, l1), (2, s0)] ds m Q) := P_nx k187_70 rfl
set_option maxRecDepth 20000 in
theorem k187_71 : mjCode 187 71 = some (.iload_n 3, 1, 0, 0) := by decide +kernel
theorem p187_71 {l3 s0 s1 : Int} {q0 q1 q2 q4 q5 q6 : MV} {ds : Ds} {m : Mm} {Q : Ds → Mm → List MV → Prop} : WP 187 71 [q0, q1, q2, (0, l3), q4, q5, q6] [(0, s0), (2, s1)] ds m Q = (WP 187 72 [q0, q1, q2, (0, l3), q4, q5, q6] [(0, l3), (0, s0), (2, s1)] ds m Q) := P_nx k187_71 rfl
set_option maxRecDepth 20000 in
theorem k187_72 : mjCode 187 72 = some (.invokevirtual 194, 3, 149, 3) := by decide +kernel
theorem p187_72 {s0 s1 s2 : Int} {q0 q1 q2 q3 q4 q5 q6 : MV} {ds : Ds} {m : Mm} {Q : Ds → Mm → List MV → Prop} : WP 187 72 [q0, q1, q2, q3, q4, q5, q6] [(0, s0), (0, s1), (2, s2)] ds m Q = ((dk ds s2 = 7 ∧ WP 148 0 [(2, s2), (0, s1), (0, s0)] [] ds m (fun d2 m2 r2 => WP 187 75 [q0, q1, q2, q3, q4, q5, q6] (r2 ++ []) d2 m2 Q))) := P_cv k187_72 mx148 mo148 rfl rfl rfl rfl rfl rfl rfl rfl
set_option maxRecDepth 20000 in
theorem k187_75 : mjCode 187 75 = some (.aload_n 0, 1, 0, 0) := by decide +kernel
theorem p187_75 {l0 s0 : Int} {q1 q2 q3 q4 q5 q6 : MV} {ds : Ds} {m : Mm} {Q : Ds → Mm → List MV → Prop} : WP 187 75 [(2, l0), q1, q2, q3, q4, q5, q6] [(0, s0)] ds m Q = (WP 187 76 [(2, l0), q1, q2, q3, q4, q5, q6] [(2, l0), (0, s0)] ds m Q) := P_nx k187_75 rfl
set_option maxRecDepth 20000 in
theorem k187_76 : mjCode 187 76 = some (.getfield 105, 3, 7, 37) := by decide +kernel
theorem p187_76 {s0 s1 : Int} {q0 q1 q2 q3 q4 q5 q6 : MV} {ds : Ds} {m : Mm} {Q : Ds → Mm → List MV → Prop} : WP 187 76 [q0, q1, q2, q3, q4, q5, q6] [(2, s0), (0, s1)] ds m Q = ((dk ds s0 = 7 ∧ WP 187 79 [q0, q1, q2, q3, q4, q5, q6] [(2, m s0 37), (0, s1)] ds m Q)) := P_gd k187_76 rfl
set_option maxRecDepth 20000 in
theorem k187_79 : mjCode 187 79 = some (.bipush 6, 2, 0, 0) := by decide +kernel
theorem p187_79 {s0 s1 : Int} {q0 q1 q2 q3 q4 q5 q6 : MV} {ds : Ds} {m : Mm} {Q : Ds → Mm → List MV → Prop} : WP 187 79 [q0, q1, q2, q3, q4, q5, q6] [(2, s0), (0, s1)] ds m Q = (WP 187 81 [q0, q1, q2, q3, q4, q5, q6] [(0, 6), (2, s0), (0, s1)] ds m Q) := P_nx k187_79 rfl
set_option maxRecDepth 20000 in
theorem k187_81 : mjCode 187 81 = some (.iload 6, 2, 0, 0) := by decide +kernel
theorem p187_81 {l6 s0 s1 s2 : Int} {q0 q1 q2 q3 q4 q5 : MV} {ds : Ds} {m : Mm} {Q : Ds → Mm → List MV → Prop} : WP 187 81 [q0, q1, q2, q3, q4, q5, (0, l6)] [(0, s0), (2, s1), (0, s2)] ds m Q = (WP 187 83 [q0, q1, q2, q3, q4, q5, (0, l6)] [(0, l6), (0, s0), (2, s1), (0, s2)] ds m Q) := P_nx k187_81 rfl
set_option maxRecDepth 20000 in
theorem k187_83 : mjCode 187 83 = some (.imul, 1, 0, 0) := by decide +kernel
theorem p187_83 {s0 s1 s2 s3 : Int} {q0 q1 q2 q3 q4 q5 q6 : MV} {ds : Ds} {m : Mm} {Q : Ds → Mm → List MV → Prop} : WP 187 83 [q0, q1, q2, q3, q4, q5, q6] [(0, s0), (0, s1), (2, s2), (0, s3)] ds m Q = (WP 187 84 [q0, q1, q2, q3, q4, q5, q6] [(0, w32 (s1 * s0)), (2, s2), (0, s3)] ds m Q) := P_nx k187_83 rfl
set_option maxRecDepth 20000 in
theorem k187_84 : mjCode 187 84 = some (.iaload, 1, 0, 0) := by decide +kernel
theorem p187_84 {s0 s1 s2 : Int} {q0 q1 q2 q3 q4 q5 q6 : MV} {ds : Ds} {m : Mm} {Q : Ds → Mm → List MV → Prop} : WP 187 84 [q0, q1, q2, q3, q4, q5, q6] [(0, s0), (2, s1), (0, s2)] ds m Q = ((dk ds s1 = 10 ∧ 0 ≤ s0 ∧ s0 < dl ds s1 ∧ WP 187 85 [q0, q1, q2, q3, q4, q5, q6] [(0, m s1 s0), (0, s2)] ds m Q)) := P_g3 k187_84 rfl
set_option maxRecDepth 20000 in
theorem k187_85 : mjCode 187 85 = some (.if_icmp .ne 7, 3, 92, 0) := by decide +kernel
theorem p187_85 {s0 s1 : Int} {q0 q1 q2 q3 q4 q5 q6 : MV} {ds : Ds} {m : Mm} {Q : Ds → Mm → List MV → Prop} : WP 187 85 [q0, q1, q2, q3, q4, q5, q6] [(0, s0), (0, s1)] ds m Q = (if s1 = s0 then WP 187 88 [q0, q1, q2, q3, q4, q5, q6] [] ds m Q else WP 187 92 [q0, q1, q2, q3, q4, q5, q6] [] ds m Q) := P_if k187_85 rfl
set_option maxRecDepth 20000 in
theorem k187_88 : mjCode 187 88 = some (.iconst 1, 1, 0, 0) := by decide +kernel
theorem p187_88 {q0 q1 q2 q3 q4 q5 q6 : MV} {ds : Ds} {m : Mm} {Q : Ds → Mm → List MV → Prop} : WP 187 88 [q0, q1, q2, q3, q4, q5, q6] [] ds m Q = (WP 187 89 [q0, q1, q2, q3, q4, q5, q6] [(0, 1)] ds m Q) := P_nx k187_88 rfl
set_option maxRecDepth 20000 in
theorem k187_89 : mjCode 187 89 = some (.goto 4, 3, 93, 0) := by decide +kernel
theorem p187_89 {s0 : Int} {q0 q1 q2 q3 q4 q5 q6 : MV} {ds : Ds} {m : Mm} {Q : Ds → Mm → List MV → Prop} : WP 187 89 [q0, q1, q2, q3, q4, q5, q6] [(0, s0)] ds m Q = (WP 187 93 [q0, q1, q2, q3, q4, q5, q6] [(0, s0)] ds m Q) := P_nx k187_89 rfl
set_option maxRecDepth 20000 in
theorem k187_92 : mjCode 187 92 = some (.iconst 0, 1, 0, 0) := by decide +kernel
theorem p187_92 {q0 q1 q2 q3 q4 q5 q6 : MV} {ds : Ds} {m : Mm} {Q : Ds → Mm → List MV → Prop} : WP 187 92 [q0, q1, q2, q3, q4, q5, q6] [] ds m Q = (WP 187 93 [q0, q1, q2, q3, q4, q5, q6] [(0, 0)] ds m Q) := P_nx k187_92 rfl
set_option maxRecDepth 20000 in
theorem k187_93 : mjCode 187 93 = some (.istore 5, 2, 0, 0) := by decide +kernel
theorem p187_93 {l4 s0 : Int} {q0 q1 q2 q3 q5 q6 : MV} {ds : Ds} {m : Mm} {Q : Ds → Mm → List MV → Prop} : WP 187 93 [q0, q1, q2, q3, (0, l4), q5, q6] [(0, s0)] ds m Q = (WP 187 95 [q0, q1, q2, q3, (0, l4), (0, s0), q6] [] ds m Q) := P_nx k187_93 rfl
set_option maxRecDepth 20000 in
theorem k187_95 : mjCode 187 95 = some (.iload 4, 2, 0, 0) := by decide +kernel
theorem p187_95 {l4 : Int} {q0 q1 q2 q3 q5 q6 : MV} {ds : Ds} {m : Mm} {Q : Ds → Mm → List MV → Prop} : WP 187 95 [q0, q1, q2, q3, (0, l4), q5, q6] [] ds m Q = (WP 187 97 [q0, q1, q2, q3, (0, l4), q5, q6] [(0, l4)] ds m Q) := P_nx k187_95 rfl
set_option maxRecDepth 20000 in
theorem k187_97 : mjCode 187 97 = some (.iload 5, 2, 0, 0) := by decide +kernel
theorem p187_97 {l5 s0 : Int} {q0 q1 q2 q3 q4 q6 : MV} {ds : Ds} {m : Mm} {Q : Ds → Mm → List MV → Prop} : WP 187 97 [q0, q1, q2, q3, q4, (0, l5), q6] [(0, s0)] ds m Q = (WP 187 99 [q0, q1, q2, q3, q4, (0, l5), q6] [(0, l5), (0, s0)] ds m Q) := P_nx k187_97 rfl
set_option maxRecDepth 20000 in
theorem k187_99 : mjCode 187 99 = some (.ifCond .eq 7, 3, 106, 0) := by decide +kernel
theorem p187_99 {s0 s1 : Int} {q0 q1 q2 q3 q4 q5 q6 : MV} {ds : Ds} {m : Mm} {Q : Ds → Mm → List MV → Prop} : WP 187 99 [q0, q1, q2, q3, q4, q5, q6] [(0, s0), (0, s1)] ds m Q = (if s0 = 0 then WP 187 106 [q0, q1, q2, q3, q4, q5, q6] [(0, s1)] ds m Q else WP 187 102 [q0, q1, q2, q3, q4, q5, q6] [(0, s1)] ds m Q) := P_if k187_99 rfl
set_option maxRecDepth 20000 in
theorem k187_102 : mjCode 187 102 = some (.iconst 1, 1, 0, 0) := by decide +kernel
theorem p187_102 {s0 : Int} {q0 q1 q2 q3 q4 q5 q6 : MV} {ds : Ds} {m : Mm} {Q : Ds → Mm → List MV → Prop} : WP 187 102 [q0, q1, q2, q3, q4, q5, q6] [(0, s0)] ds m Q = (WP 187 103 [q0, q1, q2, q3, q4, q5, q6] [(0, 1), (0, s0)] ds m Q) := P_nx k187_102 rfl
set_option maxRecDepth 20000 in
theorem k187_103 : mjCode 187 103 = some (.goto 4, 3, 107, 0) := by decide +kernel
theorem p187_103 {s0 s1 : Int} {q0 q1 q2 q3 q4 q5 q6 : MV} {ds : Ds} {m : Mm} {Q : Ds → Mm → List MV → Prop} : WP 187 103 [q0, q1, q2, q3, q4, q5, q6] [(0, s0), (0, s1)] ds m Q = (WP 187 107 [q0, q1, q2, q3, q4, q5, q6] [(0, s0), (0, s1)] ds m Q) := P_nx k187_103 rfl
set_option maxRecDepth 20000 in
theorem k187_106 : mjCode 187 106 = some (.iconst 0, 1, 0, 0) := by decide +kernel
theorem p187_106 {s0 : Int} {q0 q1 q2 q3 q4 q5 q6 : MV} {ds : Ds} {m : Mm} {Q : Ds → Mm → List MV → Prop} : WP 187 106 [q0, q1, q2, q3, q4, q5, q6] [(0, s0)] ds m Q = (WP 187 107 [q0, q1, q2, q3, q4, q5, q6] [(0, 0), (0, s0)] ds m Q) := P_nx k187_106 rfl
set_option maxRecDepth 20000 in
theorem k187_107 : mjCode 187 107 = some (.iadd, 1, 0, 0) := by decide +kernel
theorem p187_107 {s0 s1 : Int} {q0 q1 q2 q3 q4 q5 q6 : MV} {ds : Ds} {m : Mm} {Q : Ds → Mm → List MV → Prop} : WP 187 107 [q0, q1, q2, q3, q4, q5, q6] [(0, s0), (0, s1)] ds m Q = (WP 187 108 [q0, q1, q2, q3, q4, q5, q6] [(0, w32 (s1 + s0))] ds m Q) := P_nx k187_107 rfl
set_option maxRecDepth 20000 in
theorem k187_108 : mjCode 187 108 = some (.istore 4, 2, 0, 0) := by decide +kernel
theorem p187_108 {l3 s0 : Int} {q0 q1 q2 q4 q5 q6 : MV} {ds : Ds} {m : Mm} {Q : Ds → Mm → List MV → Prop} : WP 187 108 [q0, q1, q2, (0, l3), q4, q5, q6] [(0, s0)] ds m Q = (WP 187 110 [q0, q1, q2, (0, l3), (0, s0), q5, q6] [] ds m Q) := P_nx k187_108 rfl
set_option maxRecDepth 20000 in
theorem k187_110 : mjCode 187 110 = some (.iinc 3 1, 3, 0, 0) := by decide +kernel
theorem p187_110 {l3 : Int} {q0 q1 q2 q4 q5 q6 : MV} {ds : Ds} {m : Mm} {Q : Ds → Mm → List MV → Prop} : WP 187 110 [q0, q1, q2, (0, l3), q4, q5, q6] [] ds m Q = (WP 187 113 [q0, q1, q2, (0, w32 (l3 + 1)), q4, q5, q6] [] ds m Q) := P_nx k187_110 rfl
set_option maxRecDepth 20000 in
theorem k187_113 : mjCode 187 113 = some (.iinc 6 1, 3, 0, 0) := by decide +kernel
theorem p187_113 {l6 : Int} {q0 q1 q2 q3 q4 q5 : MV} {ds : Ds} {m : Mm} {Q : Ds → Mm → List MV → Prop} : WP 187 113 [q0, q1, q2, q3, q4, q5, (0, l6)] [] ds m Q = (WP 187 116 [q0, q1, q2, q3, q4, q5, (0, w32 (l6 + 1))] [] ds m Q) := P_nx k187_113 rfl
set_option maxRecDepth 20000 in
theorem k187_116 : mjCode 187 116 = some (.goto (-89), 3, 27, 0) := by decide +kernel
theorem p187_116 {q0 q1 q2 q3 q4 q5 q6 : MV} {ds : Ds} {m : Mm} {Q : Ds → Mm → List MV → Prop} : WP 187 116 [q0, q1, q2, q3, q4, q5, q6] [] ds m Q = (WP 187 27 [q0, q1, q2, q3, q4, q5, q6] [] ds m Q) := P_nx k187_116 rfl
set_option maxRecDepth 20000 in
theorem k187_119 : mjCode 187 119 = some (.iload 5, 2, 0, 0) := by decide +kernel
theorem p187_119 {l5 : Int} {q0 q1 q2 q3 q4 q6 : MV} {ds : Ds} {m : Mm} {Q : Ds → Mm → List MV → Prop} : WP 187 119 [q0, q1, q2, q3, q4, (0, l5), q6] [] ds m Q = (WP 187 121 [q0, q1, q2, q3, q4, (0, l5), q6] [(0, l5)] ds m Q) := P_nx k187_119 rfl
set_option maxRecDepth 20000 in
theorem k187_121 : mjCode 187 121 = some (.ifCond .eq 19, 3, 140, 0) := by decide +kernel
theorem p187_121 {s0 : Int} {q0 q1 q2 q3 q4 q5 q6 : MV} {ds : Ds} {m : Mm} {Q : Ds → Mm → List MV → Prop} : WP 187 121 [q0, q1, q2, q3, q4, q5, q6] [(0, s0)] ds m Q = (if s0 = 0 then WP 187 140 [q0, q1, q2, q3, q4, q5, q6] [] ds m Q else WP 187 124 [q0, q1, q2, q3, q4, q5, q6] [] ds m Q) := P_if k187_121 rfl
set_option maxRecDepth 20000 in
theorem k187_124 : mjCode 187 124 = some (.iload_n 3, 1, 0, 0) := by decide +kernel
theorem p187_124 {l3 : Int} {q0 q1 q2 q4 q5 q6 : MV} {ds : Ds} {m : Mm} {Q : Ds → Mm → List MV → Prop} : WP 187 124 [q0, q1, q2, (0, l3), q4, q5, q6] [] ds m Q = (WP 187 125 [q0, q1, q2, (0, l3), q4, q5, q6] [(0, l3)] ds m Q) := P_nx k187_124 rfl
set_option maxRecDepth 20000 in
theorem k187_125 : mjCode 187 125 = some (.aload_n 0, 1, 0, 0) := by decide +kernel
theorem p187_125 {l0 s0 : Int} {q1 q2 q3 q4 q5 q6 : MV} {ds : Ds} {m : Mm} {Q : Ds → Mm → List MV → Prop} : WP 187 125 [(2, l0), q1, q2, q3, q4, q5, q6] [(0, s0)] ds m Q = (WP 187 126 [(2, l0), q1, q2, q3, q4, q5, q6] [(2, l0), (0, s0)] ds m Q) := P_nx k187_125 rfl
set_option maxRecDepth 20000 in
theorem k187_126 : mjCode 187 126 = some (.getfield 41, 3, 7, 12) := by decide +kernel
theorem p187_126 {s0 s1 : Int} {q0 q1 q2 q3 q4 q5 q6 : MV} {ds : Ds} {m : Mm} {Q : Ds → Mm → List MV → Prop} : WP 187 126 [q0, q1, q2, q3, q4, q5, q6] [(2, s0), (0, s1)] ds m Q = ((dk ds s0 = 7 ∧ WP 187 129 [q0, q1, q2, q3, q4, q5, q6] [(2, m s0 12), (0, s1)] ds m Q)) := P_gd k187_126 rfl
set_option maxRecDepth 20000 in
theorem k187_129 : mjCode 187 129 = some (.iload_n 1, 1, 0, 0) := by decide +kernel
theorem p187_129 {l1 s0 s1 : Int} {q0 q2 q3 q4 q5 q6 : MV} {ds : Ds} {m : Mm} {Q : Ds → Mm → List MV → Prop} : WP 187 129 [q0, (0, l1), q2, q3, q4, q5, q6] [(2, s0), (0, s1)] ds m Q = (WP 187 130 [q0, (0, l1), q2, q3, q4, q5, q6] [(0, l1), (2, s0), (0, s1)] ds m Q) := P_nx k187_129 rfl
set_option maxRecDepth 20000 in
theorem k187_130 : mjCode 187 130 = some (.iaload, 1, 0, 0) := by decide +kernel
theorem p187_130 {s0 s1 s2 : Int} {q0 q1 q2 q3 q4 q5 q6 : MV} {ds : Ds} {m : Mm} {Q : Ds → Mm → List MV → Prop} : WP 187 130 [q0, q1, q2, q3, q4, q5, q6] [(0, s0), (2, s1), (0, s2)] ds m Q = ((dk ds s1 = 10 ∧ 0 ≤ s0 ∧ s0 < dl ds s1 ∧ WP 187 131 [q0, q1, q2, q3, q4, q5, q6] [(0, m s1 s0), (0, s2)] ds m Q)) := P_g3 k187_130 rfl
set_option maxRecDepth 20000 in
theorem k187_131 : mjCode 187 131 = some (.if_icmp .ne 9, 3, 140, 0) := by decide +kernel
theorem p187_131 {s0 s1 : Int} {q0 q1 q2 q3 q4 q5 q6 : MV} {ds : Ds} {m : Mm} {Q : Ds → Mm → List MV → Prop} : WP 187 131 [q0, q1, q2, q3, q4, q5, q6] [(0, s0), (0, s1)] ds m Q = (if s1 = s0 then WP 187 134 [q0, q1, q2, q3, q4, q5, q6] [] ds m Q else WP 187 140 [q0, q1, q2, q3, q4, q5, q6] [] ds m Q) := P_if k187_131 rfl
set_option maxRecDepth 20000 in
theorem k187_134 : mjCode 187 134 = some (.sipush 1000, 3, 0, 0) := by decide +kernel
theorem p187_134 {q0 q1 q2 q3 q4 q5 q6 : MV} {ds : Ds} {m : Mm} {Q : Ds → Mm → List MV → Prop} : WP 187 134 [q0, q1, q2, q3, q4, q5, q6] [] ds m Q = (WP 187 137 [q0, q1, q2, q3, q4, q5, q6] [(0, 1000)] ds m Q) := P_nx k187_134 rfl
set_option maxRecDepth 20000 in
theorem k187_137 : mjCode 187 137 = some (.goto 5, 3, 142, 0) := by decide +kernel
theorem p187_137 {s0 : Int} {q0 q1 q2 q3 q4 q5 q6 : MV} {ds : Ds} {m : Mm} {Q : Ds → Mm → List MV → Prop} : WP 187 137 [q0, q1, q2, q3, q4, q5, q6] [(0, s0)] ds m Q = (WP 187 142 [q0, q1, q2, q3, q4, q5, q6] [(0, s0)] ds m Q) := P_nx k187_137 rfl
set_option maxRecDepth 20000 in
theorem k187_140 : mjCode 187 140 = some (.iload 4, 2, 0, 0) := by decide +kernel
theorem p187_140 {l4 : Int} {q0 q1 q2 q3 q5 q6 : MV} {ds : Ds} {m : Mm} {Q : Ds → Mm → List MV → Prop} : WP 187 140 [q0, q1, q2, q3, (0, l4), q5, q6] [] ds m Q = (WP 187 142 [q0, q1, q2, q3, (0, l4), q5, q6] [(0, l4)] ds m Q) := P_nx k187_140 rfl
set_option maxRecDepth 20000 in
theorem k187_142 : mjCode 187 142 = some (.ireturn, 1, 0, 0) := by decide +kernel
theorem p187_142 {s0 : Int} {q0 q1 q2 q3 q4 q5 q6 : MV} {ds : Ds} {m : Mm} {Q : Ds → Mm → List MV → Prop} : WP 187 142 [q0, q1, q2, q3, q4, q5, q6] [(0, s0)] ds m Q = (Q ds m [(0, s0)]) := P_ri k187_142 rk187
set_option maxRecDepth 20000 in
theorem k188_0 : mjCode 188 0 = some (.aload_n 0, 1, 0, 0) := by decide +kernel
theorem p188_0 {l0 : Int} {q1 q2 : MV} {ds : Ds} {m : Mm} {Q : Ds → Mm → List MV → Prop} : WP 188 0 [(2, l0), q1, q2] [] ds m Q = (WP 188 1 [(2, l0), q1, q2] [(2, l0)] ds m Q) := P_nx k188_0 rfl
set_option maxRecDepth 20000 in
theorem k188_1 : mjCode 188 1 = some (.getfield 105, 3, 7, 37) := by decide +kernel
theorem p188_1 {s0 : Int} {q0 q1 q2 : MV} {ds : Ds} {m : Mm} {Q : Ds → Mm → List MV → Prop} : WP 188 1 [q0, q1, q2] [(2, s0)] ds m Q = ((dk ds s0 = 7 ∧ WP 188 4 [q0, q1, q2] [(2, m s0 37)] ds m Q)) := P_gd k188_1 rfl
set_option maxRecDepth 20000 in
theorem k188_4 : mjCode 188 4 = some (.bipush 6, 2, 0, 0) := by decide +kernel
theorem p188_4 {s0 : Int} {q0 q1 q2 : MV} {ds : Ds} {m : Mm} {Q : Ds → Mm → List MV → Prop} : WP 188 4 [q0, q1, q2] [(2, s0)] ds m Q = (WP 188 6 [q0, q1, q2] [(0, 6), (2, s0)] ds m Q) := P_nx k188_4 rfl
set_option maxRecDepth 20000 in
theorem k188_6 : mjCode 188 6 = some (.iload_n 1, 1, 0, 0) := by decide +kernel
theorem p188_6 {l1 s0 s1 : Int} {q0 q2 : MV} {ds : Ds} {m : Mm} {Q : Ds → Mm → List MV → Prop} : WP 188 6 [q0, (0, l1), q2] [(0, s0), (2, s1)] ds m Q = (WP 188 7 [q0, (0, l1), q2] [(0, l1), (0, s0), (2, s1)] ds m Q) := P_nx k188_6 rfl
set_option maxRecDepth 20000 in
theorem k188_7 : mjCode 188 7 = some (.imul, 1, 0, 0) := by decide +kernel
theorem p188_7 {s0 s1 s2 : Int} {q0 q1 q2 : MV} {ds : Ds} {m : Mm} {Q : Ds → Mm → List MV → Prop} : WP 188 7 [q0, q1, q2] [(0, s0), (0, s1), (2, s2)] ds m Q = (WP 188 8 [q0, q1, q2] [(0, w32 (s1 * s0)), (2, s2)] ds m Q) := P_nx k188_7 rfl
set_option maxRecDepth 20000 in
theorem k188_8 : mjCode 188 8 = some (.iconst 1, 1, 0, 0) := by decide +kernel
theorem p188_8 {s0 s1 : Int} {q0 q1 q2 : MV} {ds : Ds} {m : Mm} {Q : Ds → Mm → List MV → Prop} : WP 188 8 [q0, q1, q2] [(0, s0), (2, s1)] ds m Q = (WP 188 9 [q0, q1, q2] [(0, 1), (0, s0), (2, s1)] ds m Q) := P_nx k188_8 rfl
set_option maxRecDepth 20000 in
theorem k188_9 : mjCode 188 9 = some (.iadd, 1, 0, 0) := by decide +kernel
theorem p188_9 {s0 s1 s2 : Int} {q0 q1 q2 : MV} {ds : Ds} {m : Mm} {Q : Ds → Mm → List MV → Prop} : WP 188 9 [q0, q1, q2] [(0, s0), (0, s1), (2, s2)] ds m Q = (WP 188 10 [q0, q1, q2] [(0, w32 (s1 + s0)), (2, s2)] ds m Q) := P_nx k188_9 rfl
set_option maxRecDepth 20000 in
theorem k188_10 : mjCode 188 10 = some (.iaload, 1, 0, 0) := by decide +kernel
theorem p188_10 {s0 s1 : Int} {q0 q1 q2 : MV} {ds : Ds} {m : Mm} {Q : Ds → Mm → List MV → Prop} : WP 188 10 [q0, q1, q2] [(0, s0), (2, s1)] ds m Q = ((dk ds s1 = 10 ∧ 0 ≤ s0 ∧ s0 < dl ds s1 ∧ WP 188 11 [q0, q1, q2] [(0, m s1 s0)] ds m Q)) := P_g3 k188_10 rfl
set_option maxRecDepth 20000 in
theorem k188_11 : mjCode 188 11 = some (.istore_n 2, 1, 0, 0) := by decide +kernel
theorem p188_11 {l1 s0 : Int} {q0 q2 : MV} {ds : Ds} {m : Mm} {Q : Ds → Mm → List MV → Prop} : WP 188 11 [q0, (0, l1), q2] [(0, s0)] ds m Q = (WP 188 12 [q0, (0, l1), (0, s0)] [] ds m Q) := P_nx k188_11 rfl
set_option maxRecDepth 20000 in
theorem k188_12 : mjCode 188 12 = some (.aload_n 0, 1, 0, 0) := by decide +kernel
theorem p188_12 {l0 : Int} {q1 q2 : MV} {ds : Ds} {m : Mm} {Q : Ds → Mm → List MV → Prop} : WP 188 12 [(2, l0), q1, q2] [] ds m Q = (WP 188 13 [(2, l0), q1, q2] [(2, l0)] ds m Q) := P_nx k188_12 rfl
set_option maxRecDepth 20000 in
theorem k188_13 : mjCode 188 13 = some (.getfield 114, 3, 7, 40) := by decide +kernel
theorem p188_13 {s0 : Int} {q0 q1 q2 : MV} {ds : Ds} {m : Mm} {Q : Ds → Mm → List MV → Prop} : WP 188 13 [q0, q1, q2] [(2, s0)] ds m Q = ((dk ds s0 = 7 ∧ WP 188 16 [q0, q1, q2] [(2, m s0 40)] ds m Q)) := P_gd k188_13 rfl
set_option maxRecDepth 20000 in
theorem k188_16 : mjCode 188 16 = some (.iload_n 2, 1, 0, 0) := by decide +kernel
theorem p188_16 {l2 s0 : Int} {q0 q1 : MV} {ds : Ds} {m : Mm} {Q : Ds → Mm → List MV → Prop} : WP 188 16 [q0, q1, (0, l2)] [(2, s0)] ds m Q = (WP 188 17 [q0, q1, (0, l2)] [(0, l2), (2, s0)] ds m Q) := P_nx k188_16 rfl
set_option maxRecDepth 20000 in
theorem k188_17 : mjCode 188 17 = some (.iaload, 1, 0, 0) := by decide +kernel
theorem p188_17 {s0 s1 : Int} {q0 q1 q2 : MV} {ds : Ds} {m : Mm} {Q : Ds → Mm → List MV → Prop} : WP 188 17 [q0, q1, q2] [(0, s0), (2, s1)] ds m Q = ((dk ds s1 = 10 ∧ 0 ≤ s0 ∧ s0 < dl ds s1 ∧ WP 188 18 [q0, q1, q2] [(0, m s1 s0)] ds m Q)) := P_g3 k188_17 rfl
set_option maxRecDepth 20000 in
theorem k188_18 : mjCode 188 18 = some (.ifCond .le 7, 3, 25, 0) := by decide +kernel
theorem p188_18 {s0 : Int} {q0 q1 q2 : MV} {ds : Ds} {m : Mm} {Q : Ds → Mm → List MV → Prop} : WP 188 18 [q0, q1, q2] [(0, s0)] ds m Q = (if 0 < s0 then WP 188 21 [q0, q1, q2] [] ds m Q else WP 188 25 [q0, q1, q2] [] ds m Q) := P_if k188_18 rfl
set_option maxRecDepth 20000 in
theorem k188_21 : mjCode 188 21 = some (.iconst 1, 1, 0, 0) := by decide +kernel
theorem p188_21 {q0 q1 q2 : MV} {ds : Ds} {m : Mm} {Q : Ds → Mm → List MV → Prop} : WP 188 21 [q0, q1, q2] [] ds m Q = (WP 188 22 [q0, q1, q2] [(0, 1)] ds m Q) := P_nx k188_21 rfl
set_option maxRecDepth 20000 in
theorem k188_22 : mjCode 188 22 = some (.goto 4, 3, 26, 0) := by decide +kernel
theorem p188_22 {s0 : Int} {q0 q1 q2 : MV} {ds : Ds} {m : Mm} {Q : Ds → Mm → List MV → Prop} : WP 188 22 [q0, q1, q2] [(0, s0)] ds m Q = (WP 188 26 [q0, q1, q2] [(0, s0)] ds m Q) := P_nx k188_22 rfl
set_option maxRecDepth 20000 in
theorem k188_25 : mjCode 188 25 = some (.iconst 0, 1, 0, 0) := by decide +kernel
theorem p188_25 {q0 q1 q2 : MV} {ds : Ds} {m : Mm} {Q : Ds → Mm → List MV → Prop} : WP 188 25 [q0, q1, q2] [] ds m Q = (WP 188 26 [q0, q1, q2] [(0, 0)] ds m Q) := P_nx k188_25 rfl
set_option maxRecDepth 20000 in
theorem k188_26 : mjCode 188 26 = some (.ireturn, 1, 0, 0) := by decide +kernel
theorem p188_26 {s0 : Int} {q0 q1 q2 : MV} {ds : Ds} {m : Mm} {Q : Ds → Mm → List MV → Prop} : WP 188 26 [q0, q1, q2] [(0, s0)] ds m Q = (((s0 = 0 ∨ s0 = 1) ∧ Q ds m [(0, s0)])) := P_rb k188_26 rk188
set_option maxRecDepth 20000 in
theorem k189_0 : mjCode 189 0 = some (.iload_n 1, 1, 0, 0) := by decide +kernel
theorem p189_0 {l1 : Int} {q0 : MV} {ds : Ds} {m : Mm} {Q : Ds → Mm → List MV → Prop} : WP 189 0 [q0, (0, l1)] [] ds m Q = (WP 189 1 [q0, (0, l1)] [(0, l1)] ds m Q) := P_nx k189_0 rfl
set_option maxRecDepth 20000 in
theorem k189_1 : mjCode 189 1 = some (.tableswitch 63 0 4 #[35, 41, 46, 51, 58], 35, 0, 0) := by decide +kernel
theorem p189_1 {s0 : Int} {q0 q1 : MV} {ds : Ds} {m : Mm} {Q : Ds → Mm → List MV → Prop} : WP 189 1 [q0, q1] [(0, s0)] ds m Q = (if s0 = 0 then WP 189 36 [q0, q1] [] ds m Q else if s0 = 1 then WP 189 42 [q0, q1] [] ds m Q else if s0 = 2 then WP 189 47 [q0, q1] [] ds m Q else if s0 = 3 then WP 189 52 [q0, q1] [] ds m Q else if s0 = 4 then WP 189 59 [q0, q1] [] ds m Q else WP 189 64 [q0, q1] [] ds m Q) := by
  by_cases h0 : s0 = 0
  · subst h0
    rw [if_pos rfl]
    exact P_nx k189_1 rfl
  rw [if_neg h0]
  by_cases h1 : s0 = 1
  · subst h1
    rw [if_pos rfl]
    exact P_nx k189_1 rfl
  rw [if_neg h1]
  by_cases h2 : s0 = 2
  · subst h2
    rw [if_pos rfl]
    exact P_nx k189_1 rfl
  rw [if_neg h2]
  by_cases h3 : s0 = 3
  · subst h3
    rw [if_pos rfl]
    exact P_nx k189_1 rfl
  rw [if_neg h3]
  by_cases h4 : s0 = 4
  · subst h4
    rw [if_pos rfl]
    exact P_nx k189_1 rfl
  rw [if_neg h4]
  exact P_nx k189_1 (by simp only [stpI]; rw [if_pos (by omega)]; rfl)
set_option maxRecDepth 20000 in
theorem k189_36 : mjCode 189 36 = some (.aload_n 0, 1, 0, 0) := by decide +kernel
theorem p189_36 {l0 : Int} {q1 : MV} {ds : Ds} {m : Mm} {Q : Ds → Mm → List MV → Prop} : WP 189 36 [(2, l0), q1] [] ds m Q = (WP 189 37 [(2, l0), q1] [(2, l0)] ds m Q) := P_nx k189_36 rfl
set_option maxRecDepth 20000 in
theorem k189_37 : mjCode 189 37 = some (.iconst 0, 1, 0, 0) := by decide +kernel
theorem p189_37 {s0 : Int} {q0 q1 : MV} {ds : Ds} {m : Mm} {Q : Ds → Mm → List MV → Prop} : WP 189 37 [q0, q1] [(2, s0)] ds m Q = (WP 189 38 [q0, q1] [(0, 0), (2, s0)] ds m Q) := P_nx k189_37 rfl
set_option maxRecDepth 20000 in
theorem k189_38 : mjCode 189 38 = some (.invokevirtual 204, 3, 137, 2) := by decide +kernel
theorem p189_38 {s0 s1 : Int} {q0 q1 : MV} {ds : Ds} {m : Mm} {Q : Ds → Mm → List MV → Prop} : WP 189 38 [q0, q1] [(0, s0), (2, s1)] ds m Q = ((dk ds s1 = 7 ∧ WP 136 0 [(2, s1), (0, s0), (3, 0), (3, 0)] [] ds m (fun d2 m2 r2 => WP 189 41 [q0, q1] (r2 ++ []) d2 m2 Q))) := P_cv k189_38 mx136 mo136 rfl rfl rfl rfl rfl rfl rfl rfl
set_option maxRecDepth 20000 in
theorem k189_41 : mjCode 189 41 = some (.ireturn, 1, 0, 0) := by decide +kernel
theorem p189_41 {s0 : Int} {q0 q1 : MV} {ds : Ds} {m : Mm} {Q : Ds → Mm → List MV → Prop} : WP 189 41 [q0, q1] [(0, s0)] ds m Q = (Q ds m [(0, s0)]) := P_ri k189_41 rk189
set_option maxRecDepth 20000 in
theorem k189_42 : mjCode 189 42 = some (.aload_n 0, 1, 0, 0) := by decide +kernel
theorem p189_42 {l0 : Int} {q1 : MV} {ds : Ds} {m : Mm} {Q : Ds → Mm → List MV → Prop} : WP 189 42 [(2, l0), q1] [] ds m Q = (WP 189 43 [(2, l0), q1] [(2, l0)] ds m Q) := P_nx k189_42 rfl
set_option maxRecDepth 20000 in
theorem k189_43 : mjCode 189 43 = some (.invokevirtual 308, 3, 138, 1) := by decide +kernel
theorem p189_43 {s0 : Int} {q0 q1 : MV} {ds : Ds} {m : Mm} {Q : Ds → Mm → List MV → Prop} : WP 189 43 [q0, q1] [(2, s0)] ds m Q = ((dk ds s0 = 7 ∧ WP 137 0 [(2, s0), (3, 0), (3, 0)] [] ds m (fun d2 m2 r2 => WP 189 46 [q0, q1] (r2 ++ []) d2 m2 Q))) := P_cv k189_43 mx137 mo137 rfl rfl rfl rfl rfl rfl rfl rfl
set_option maxRecDepth 20000 in
theorem k189_46 : mjCode 189 46 = some (.ireturn, 1, 0, 0) := by decide +kernel
theorem p189_46 {s0 : Int} {q0 q1 : MV} {ds : Ds} {m : Mm} {Q : Ds → Mm → List MV → Prop} : WP 189 46 [q0, q1] [(0, s0)] ds m Q = (Q ds m [(0, s0)]) := P_ri k189_46 rk189
set_option maxRecDepth 20000 in
theorem k189_47 : mjCode 189 47 = some (.aload_n 0, 1, 0, 0) := by decide +kernel
theorem p189_47 {l0 : Int} {q1 : MV} {ds : Ds} {m : Mm} {Q : Ds → Mm → List MV → Prop} : WP 189 47 [(2, l0), q1] [] ds m Q = (WP 189 48 [(2, l0), q1] [(2, l0)] ds m Q) := P_nx k189_47 rfl
set_option maxRecDepth 20000 in
theorem k189_48 : mjCode 189 48 = some (.getfield 173, 3, 7, 6) := by decide +kernel
theorem p189_48 {s0 : Int} {q0 q1 : MV} {ds : Ds} {m : Mm} {Q : Ds → Mm → List MV → Prop} : WP 189 48 [q0, q1] [(2, s0)] ds m Q = ((dk ds s0 = 7 ∧ WP 189 51 [q0, q1] [(0, m s0 6)] ds m Q)) := P_gd k189_48 rfl
set_option maxRecDepth 20000 in
theorem k189_51 : mjCode 189 51 = some (.ireturn, 1, 0, 0) := by decide +kernel
theorem p189_51 {s0 : Int} {q0 q1 : MV} {ds : Ds} {m : Mm} {Q : Ds → Mm → List MV → Prop} : WP 189 51 [q0, q1] [(0, s0)] ds m Q = (Q ds m [(0, s0)]) := P_ri k189_51 rk189
set_option maxRecDepth 20000 in
theorem k189_52 : mjCode 189 52 = some (.aload_n 0, 1, 0, 0) := by decide +kernel
theorem p189_52 {l0 : Int} {q1 : MV} {ds : Ds} {m : Mm} {Q : Ds → Mm → List MV → Prop} : WP 189 52 [(2, l0), q1] [] ds m Q = (WP 189 53 [(2, l0), q1] [(2, l0)] ds m Q) := P_nx k189_52 rfl
set_option maxRecDepth 20000 in
theorem k189_53 : mjCode 189 53 = some (.bipush 8, 2, 0, 0) := by decide +kernel
theorem p189_53 {s0 : Int} {q0 q1 : MV} {ds : Ds} {m : Mm} {Q : Ds → Mm → List MV → Prop} : WP 189 53 [q0, q1] [(2, s0)] ds m Q = (WP 189 55 [q0, q1] [(0, 8), (2, s0)] ds m Q) := P_nx k189_53 rfl
set_option maxRecDepth 20000 in
theorem k189_55 : mjCode 189 55 = some (.invokevirtual 204, 3, 137, 2) := by decide +kernel
theorem p189_55 {s0 s1 : Int} {q0 q1 : MV} {ds : Ds} {m : Mm} {Q : Ds → Mm → List MV → Prop} : WP 189 55 [q0, q1] [(0, s0), (2, s1)] ds m Q = ((dk ds s1 = 7 ∧ WP 136 0 [(2, s1), (0, s0), (3, 0), (3, 0)] [] ds m (fun d2 m2 r2 => WP 189 58 [q0, q1] (r2 ++ []) d2 m2 Q))) := P_cv k189_55 mx136 mo136 rfl rfl rfl rfl rfl rfl rfl rfl
set_option maxRecDepth 20000 in
theorem k189_58 : mjCode 189 58 = some (.ireturn, 1, 0, 0) := by decide +kernel
theorem p189_58 {s0 : Int} {q0 q1 : MV} {ds : Ds} {m : Mm} {Q : Ds → Mm → List MV → Prop} : WP 189 58 [q0, q1] [(0, s0)] ds m Q = (Q ds m [(0, s0)]) := P_ri k189_58 rk189
set_option maxRecDepth 20000 in
theorem k189_59 : mjCode 189 59 = some (.aload_n 0, 1, 0, 0) := by decide +kernel
theorem p189_59 {l0 : Int} {q1 : MV} {ds : Ds} {m : Mm} {Q : Ds → Mm → List MV → Prop} : WP 189 59 [(2, l0), q1] [] ds m Q = (WP 189 60 [(2, l0), q1] [(2, l0)] ds m Q) := P_nx k189_59 rfl
set_option maxRecDepth 20000 in
theorem k189_60 : mjCode 189 60 = some (.getfield 264, 3, 7, 10) := by decide +kernel
theorem p189_60 {s0 : Int} {q0 q1 : MV} {ds : Ds} {m : Mm} {Q : Ds → Mm → List MV → Prop} : WP 189 60 [q0, q1] [(2, s0)] ds m Q = ((dk ds s0 = 7 ∧ WP 189 63 [q0, q1] [(0, m s0 10)] ds m Q)) := P_gd k189_60 rfl
set_option maxRecDepth 20000 in
theorem k189_63 : mjCode 189 63 = some (.ireturn, 1, 0, 0) := by decide +kernel
theorem p189_63 {s0 : Int} {q0 q1 : MV} {ds : Ds} {m : Mm} {Q : Ds → Mm → List MV → Prop} : WP 189 63 [q0, q1] [(0, s0)] ds m Q = (Q ds m [(0, s0)]) := P_ri k189_63 rk189
set_option maxRecDepth 20000 in
theorem k189_64 : mjCode 189 64 = some (.iload_n 1, 1, 0, 0) := by decide +kernel
theorem p189_64 {l1 : Int} {q0 : MV} {ds : Ds} {m : Mm} {Q : Ds → Mm → List MV → Prop} : WP 189 64 [q0, (0, l1)] [] ds m Q = (WP 189 65 [q0, (0, l1)] [(0, l1)] ds m Q) := P_nx k189_64 rfl
set_option maxRecDepth 20000 in
theorem k189_65 : mjCode 189 65 = some (.bipush 11, 2, 0, 0) := by decide +kernel
theorem p189_65 {s0 : Int} {q0 q1 : MV} {ds : Ds} {m : Mm} {Q : Ds → Mm → List MV → Prop} : WP 189 65 [q0, q1] [(0, s0)] ds m Q = (WP 189 67 [q0, q1] [(0, 11), (0, s0)] ds m Q) := P_nx k189_65 rfl
set_option maxRecDepth 20000 in
theorem k189_67 : mjCode 189 67 = some (.bipush 17, 2, 0, 0) := by decide +kernel
theorem p189_67 {s0 s1 : Int} {q0 q1 : MV} {ds : Ds} {m : Mm} {Q : Ds → Mm → List MV → Prop} : WP 189 67 [q0, q1] [(0, s0), (0, s1)] ds m Q = (WP 189 69 [q0, q1] [(0, 17), (0, s0), (0, s1)] ds m Q) := P_nx k189_67 rfl
set_option maxRecDepth 20000 in
theorem k189_69 : mjCode 189 69 = some (.invokestatic 141, 3, 121, 3) := by decide +kernel
theorem p189_69 {s0 s1 s2 : Int} {q0 q1 : MV} {ds : Ds} {m : Mm} {Q : Ds → Mm → List MV → Prop} : WP 189 69 [q0, q1] [(0, s0), (0, s1), (0, s2)] ds m Q = (WP 120 0 [(0, s2), (0, s1), (0, s0)] [] ds m (fun d2 m2 r2 => WP 189 72 [q0, q1] (r2 ++ []) d2 m2 Q)) := P_cs k189_69 mx120 rfl rfl rfl rfl rfl rfl rfl
set_option maxRecDepth 20000 in
theorem k189_72 : mjCode 189 72 = some (.ifCond .eq 15, 3, 87, 0) := by decide +kernel
theorem p189_72 {s0 : Int} {q0 q1 : MV} {ds : Ds} {m : Mm} {Q : Ds → Mm → List MV → Prop} : WP 189 72 [q0, q1] [(0, s0)] ds m Q = (if s0 = 0 then WP 189 87 [q0, q1] [] ds m Q else WP 189 75 [q0, q1] [] ds m Q) := P_if k189_72 rfl
set_option maxRecDepth 20000 in
theorem k189_75 : mjCode 189 75 = some (.aload_n 0, 1, 0, 0) := by decide +kernel
theorem p189_75 {l0 : Int} {q1 : MV} {ds : Ds} {m : Mm} {Q : Ds → Mm → List MV → Prop} : WP 189 75 [(2, l0), q1] [] ds m Q = (WP 189 76 [(2, l0), q1] [(2, l0)] ds m Q) := P_nx k189_75 rfl
set_option maxRecDepth 20000 in
theorem k189_76 : mjCode 189 76 = some (.getfield 7, 3, 7, 0) := by decide +kernel
theorem p189_76 {s0 : Int} {q0 q1 : MV} {ds : Ds} {m : Mm} {Q : Ds → Mm → List MV → Prop} : WP 189 76 [q0, q1] [(2, s0)] ds m Q = ((dk ds s0 = 7 ∧ WP 189 79 [q0, q1] [(2, m s0 0)] ds m Q)) := P_gd k189_76 rfl
set_option maxRecDepth 20000 in
theorem k189_79 : mjCode 189 79 = some (.iload_n 1, 1, 0, 0) := by decide +kernel
theorem p189_79 {l1 s0 : Int} {q0 : MV} {ds : Ds} {m : Mm} {Q : Ds → Mm → List MV → Prop} : WP 189 79 [q0, (0, l1)] [(2, s0)] ds m Q = (WP 189 80 [q0, (0, l1)] [(0, l1), (2, s0)] ds m Q) := P_nx k189_79 rfl
set_option maxRecDepth 20000 in
theorem k189_80 : mjCode 189 80 = some (.bipush 10, 2, 0, 0) := by decide +kernel
theorem p189_80 {s0 s1 : Int} {q0 q1 : MV} {ds : Ds} {m : Mm} {Q : Ds → Mm → List MV → Prop} : WP 189 80 [q0, q1] [(0, s0), (2, s1)] ds m Q = (WP 189 82 [q0, q1] [(0, 10), (0, s0), (2, s1)] ds m Q) := P_nx k189_80 rfl
set_option maxRecDepth 20000 in
theorem k189_82 : mjCode 189 82 = some (.isub, 1, 0, 0) := by decide +kernel
theorem p189_82 {s0 s1 s2 : Int} {q0 q1 : MV} {ds : Ds} {m : Mm} {Q : Ds → Mm → List MV → Prop} : WP 189 82 [q0, q1] [(0, s0), (0, s1), (2, s2)] ds m Q = (WP 189 83 [q0, q1] [(0, w32 (s1 - s0)), (2, s2)] ds m Q) := P_nx k189_82 rfl
set_option maxRecDepth 20000 in
theorem k189_83 : mjCode 189 83 = some (.iaload, 1, 0, 0) := by decide +kernel
theorem p189_83 {s0 s1 : Int} {q0 q1 : MV} {ds : Ds} {m : Mm} {Q : Ds → Mm → List MV → Prop} : WP 189 83 [q0, q1] [(0, s0), (2, s1)] ds m Q = ((dk ds s1 = 10 ∧ 0 ≤ s0 ∧ s0 < dl ds s1 ∧ WP 189 84 [q0, q1] [(0, m s1 s0)] ds m Q)) := P_g3 k189_83 rfl
set_option maxRecDepth 20000 in
theorem k189_84 : mjCode 189 84 = some (.goto 4, 3, 88, 0) := by decide +kernel
theorem p189_84 {s0 : Int} {q0 q1 : MV} {ds : Ds} {m : Mm} {Q : Ds → Mm → List MV → Prop} : WP 189 84 [q0, q1] [(0, s0)] ds m Q = (WP 189 88 [q0, q1] [(0, s0)] ds m Q) := P_nx k189_84 rfl
set_option maxRecDepth 20000 in
theorem k189_87 : mjCode 189 87 = some (.iconst (-1), 1, 0, 0) := by decide +kernel
theorem p189_87 {q0 q1 : MV} {ds : Ds} {m : Mm} {Q : Ds → Mm → List MV → Prop} : WP 189 87 [q0, q1] [] ds m Q = (WP 189 88 [q0, q1] [(0, (-1))] ds m Q) := P_nx k189_87 rfl
set_option maxRecDepth 20000 in
theorem k189_88 : mjCode 189 88 = some (.ireturn, 1, 0, 0) := by decide +kernel
theorem p189_88 {s0 : Int} {q0 q1 : MV} {ds : Ds} {m : Mm} {Q : Ds → Mm → List MV → Prop} : WP 189 88 [q0, q1] [(0, s0)] ds m Q = (Q ds m [(0, s0)]) := P_ri k189_88 rk189
set_option maxRecDepth 20000 in
theorem k190_0 : mjCode 190 0 = some (.iload_n 0, 1, 0, 0) := by decide +kernel
theorem p190_0 {l0 : Int} {ds : Ds} {m : Mm} {Q : Ds → Mm → List MV → Prop} : WP 190 0 [(0, l0)] [] ds m Q = (WP 190 1 [(0, l0)] [(0, l0)] ds m Q) := P_nx k190_0 rfl
set_option maxRecDepth 20000 in
theorem k190_1 : mjCode 190 1 = some (.iload_n 0, 1, 0, 0) := by decide +kernel
theorem p190_1 {l0 s0 : Int} {ds : Ds} {m : Mm} {Q : Ds → Mm → List MV → Prop} : WP 190 1 [(0, l0)] [(0, s0)] ds m Q = (WP 190 2 [(0, l0)] [(0, l0), (0, s0)] ds m Q) := P_nx k190_1 rfl
set_option maxRecDepth 20000 in
theorem k190_2 : mjCode 190 2 = some (.iconst 1, 1, 0, 0) := by decide +kernel
theorem p190_2 {s0 s1 : Int} {q0 : MV} {ds : Ds} {m : Mm} {Q : Ds → Mm → List MV → Prop} : WP 190 2 [q0] [(0, s0), (0, s1)] ds m Q = (WP 190 3 [q0] [(0, 1), (0, s0), (0, s1)] ds m Q) := P_nx k190_2 rfl
set_option maxRecDepth 20000 in
theorem k190_3 : mjCode 190 3 = some (.iushr, 1, 0, 0) := by decide +kernel
theorem p190_3 {s0 s1 s2 : Int} {q0 : MV} {ds : Ds} {m : Mm} {Q : Ds → Mm → List MV → Prop} : WP 190 3 [q0] [(0, s0), (0, s1), (0, s2)] ds m Q = (WP 190 4 [q0] [(0, jushr s1 s0), (0, s2)] ds m Q) := P_nx k190_3 rfl
set_option maxRecDepth 20000 in
theorem k190_4 : mjCode 190 4 = some (.ldc_w 265, 3, 1431655765, 0) := by decide +kernel
theorem p190_4 {s0 s1 : Int} {q0 : MV} {ds : Ds} {m : Mm} {Q : Ds → Mm → List MV → Prop} : WP 190 4 [q0] [(0, s0), (0, s1)] ds m Q = (WP 190 7 [q0] [(0, 1431655765), (0, s0), (0, s1)] ds m Q) := P_nx k190_4 rfl
set_option maxRecDepth 20000 in
theorem k190_7 : mjCode 190 7 = some (.iand, 1, 0, 0) := by decide +kernel
theorem p190_7 {s0 s1 s2 : Int} {q0 : MV} {ds : Ds} {m : Mm} {Q : Ds → Mm → List MV → Prop} : WP 190 7 [q0] [(0, s0), (0, s1), (0, s2)] ds m Q = (WP 190 8 [q0] [(0, jand s1 s0), (0, s2)] ds m Q) := P_nx k190_7 rfl
set_option maxRecDepth 20000 in
theorem k190_8 : mjCode 190 8 = some (.isub, 1, 0, 0) := by decide +kernel
theorem p190_8 {s0 s1 : Int} {q0 : MV} {ds : Ds} {m : Mm} {Q : Ds → Mm → List MV → Prop} : WP 190 8 [q0] [(0, s0), (0, s1)] ds m Q = (WP 190 9 [q0] [(0, w32 (s1 - s0))] ds m Q) := P_nx k190_8 rfl
set_option maxRecDepth 20000 in
theorem k190_9 : mjCode 190 9 = some (.istore_n 0, 1, 0, 0) := by decide +kernel
theorem p190_9 {s0 : Int} {q0 : MV} {ds : Ds} {m : Mm} {Q : Ds → Mm → List MV → Prop} : WP 190 9 [q0] [(0, s0)] ds m Q = (WP 190 10 [(0, s0)] [] ds m Q) := P_nx k190_9 rfl
set_option maxRecDepth 20000 in
theorem k190_10 : mjCode 190 10 = some (.iload_n 0, 1, 0, 0) := by decide +kernel
theorem p190_10 {l0 : Int} {ds : Ds} {m : Mm} {Q : Ds → Mm → List MV → Prop} : WP 190 10 [(0, l0)] [] ds m Q = (WP 190 11 [(0, l0)] [(0, l0)] ds m Q) := P_nx k190_10 rfl
set_option maxRecDepth 20000 in
theorem k190_11 : mjCode 190 11 = some (.ldc_w 266, 3, 858993459, 0) := by decide +kernel
theorem p190_11 {s0 : Int} {q0 : MV} {ds : Ds} {m : Mm} {Q : Ds → Mm → List MV → Prop} : WP 190 11 [q0] [(0, s0)] ds m Q = (WP 190 14 [q0] [(0, 858993459), (0, s0)] ds m Q) := P_nx k190_11 rfl
set_option maxRecDepth 20000 in
theorem k190_14 : mjCode 190 14 = some (.iand, 1, 0, 0) := by decide +kernel
theorem p190_14 {s0 s1 : Int} {q0 : MV} {ds : Ds} {m : Mm} {Q : Ds → Mm → List MV → Prop} : WP 190 14 [q0] [(0, s0), (0, s1)] ds m Q = (WP 190 15 [q0] [(0, jand s1 s0)] ds m Q) := P_nx k190_14 rfl
set_option maxRecDepth 20000 in
theorem k190_15 : mjCode 190 15 = some (.iload_n 0, 1, 0, 0) := by decide +kernel
theorem p190_15 {l0 s0 : Int} {ds : Ds} {m : Mm} {Q : Ds → Mm → List MV → Prop} : WP 190 15 [(0, l0)] [(0, s0)] ds m Q = (WP 190 16 [(0, l0)] [(0, l0), (0, s0)] ds m Q) := P_nx k190_15 rfl
set_option maxRecDepth 20000 in
theorem k190_16 : mjCode 190 16 = some (.iconst 2, 1, 0, 0) := by decide +kernel
theorem p190_16 {s0 s1 : Int} {q0 : MV} {ds : Ds} {m : Mm} {Q : Ds → Mm → List MV → Prop} : WP 190 16 [q0] [(0, s0), (0, s1)] ds m Q = (WP 190 17 [q0] [(0, 2), (0, s0), (0, s1)] ds m Q) := P_nx k190_16 rfl
set_option maxRecDepth 20000 in
theorem k190_17 : mjCode 190 17 = some (.iushr, 1, 0, 0) := by decide +kernel
theorem p190_17 {s0 s1 s2 : Int} {q0 : MV} {ds : Ds} {m : Mm} {Q : Ds → Mm → List MV → Prop} : WP 190 17 [q0] [(0, s0), (0, s1), (0, s2)] ds m Q = (WP 190 18 [q0] [(0, jushr s1 s0), (0, s2)] ds m Q) := P_nx k190_17 rfl
set_option maxRecDepth 20000 in
theorem k190_18 : mjCode 190 18 = some (.ldc_w 266, 3, 858993459, 0) := by decide +kernel
theorem p190_18 {s0 s1 : Int} {q0 : MV} {ds : Ds} {m : Mm} {Q : Ds → Mm → List MV → Prop} : WP 190 18 [q0] [(0, s0), (0, s1)] ds m Q = (WP 190 21 [q0] [(0, 858993459), (0, s0), (0, s1)] ds m Q) := P_nx k190_18 rfl
set_option maxRecDepth 20000 in
theorem k190_21 : mjCode 190 21 = some (.iand, 1, 0, 0) := by decide +kernel
theorem p190_21 {s0 s1 s2 : Int} {q0 : MV} {ds : Ds} {m : Mm} {Q : Ds → Mm → List MV → Prop} : WP 190 21 [q0] [(0, s0), (0, s1), (0, s2)] ds m Q = (WP 190 22 [q0] [(0, jand s1 s0), (0, s2)] ds m Q) := P_nx k190_21 rfl
set_option maxRecDepth 20000 in
theorem k190_22 : mjCode 190 22 = some (.iadd, 1, 0, 0) := by decide +kernel
theorem p190_22 {s0 s1 : Int} {q0 : MV} {ds : Ds} {m : Mm} {Q : Ds → Mm → List MV → Prop} : WP 190 22 [q0] [(0, s0), (0, s1)] ds m Q = (WP 190 23 [q0] [(0, w32 (s1 + s0))] ds m Q) := P_nx k190_22 rfl
set_option maxRecDepth 20000 in
theorem k190_23 : mjCode 190 23 = some (.istore_n 0, 1, 0, 0) := by decide +kernel
theorem p190_23 {s0 : Int} {q0 : MV} {ds : Ds} {m : Mm} {Q : Ds → Mm → List MV → Prop} : WP 190 23 [q0] [(0, s0)] ds m Q = (WP 190 24 [(0, s0)] [] ds m Q) := P_nx k190_23 rfl
set_option maxRecDepth 20000 in
theorem k190_24 : mjCode 190 24 = some (.iload_n 0, 1, 0, 0) := by decide +kernel
theorem p190_24 {l0 : Int} {ds : Ds} {m : Mm} {Q : Ds → Mm → List MV → Prop} : WP 190 24 [(0, l0)] [] ds m Q = (WP 190 25 [(0, l0)] [(0, l0)] ds m Q) := P_nx k190_24 rfl
set_option maxRecDepth 20000 in
theorem k190_25 : mjCode 190 25 = some (.iload_n 0, 1, 0, 0) := by decide +kernel
theorem p190_25 {l0 s0 : Int} {ds : Ds} {m : Mm} {Q : Ds → Mm → List MV → Prop} : WP 190 25 [(0, l0)] [(0, s0)] ds m Q = (WP 190 26 [(0, l0)] [(0, l0), (0, s0)] ds m Q) := P_nx k190_25 rfl
set_option maxRecDepth 20000 in
theorem k190_26 : mjCode 190 26 = some (.iconst 4, 1, 0, 0) := by decide +kernel
theorem p190_26 {s0 s1 : Int} {q0 : MV} {ds : Ds} {m : Mm} {Q : Ds → Mm → List MV → Prop} : WP 190 26 [q0] [(0, s0), (0, s1)] ds m Q = (WP 190 27 [q0] [(0, 4), (0, s0), (0, s1)] ds m Q) := P_nx k190_26 rfl
set_option maxRecDepth 20000 in
theorem k190_27 : mjCode 190 27 = some (.iushr, 1, 0, 0) := by decide +kernel
theorem p190_27 {s0 s1 s2 : Int} {q0 : MV} {ds : Ds} {m : Mm} {Q : Ds → Mm → List MV → Prop} : WP 190 27 [q0] [(0, s0), (0, s1), (0, s2)] ds m Q = (WP 190 28 [q0] [(0, jushr s1 s0), (0, s2)] ds m Q) := P_nx k190_27 rfl
set_option maxRecDepth 20000 in
theorem k190_28 : mjCode 190 28 = some (.iadd, 1, 0, 0) := by decide +kernel
theorem p190_28 {s0 s1 : Int} {q0 : MV} {ds : Ds} {m : Mm} {Q : Ds → Mm → List MV → Prop} : WP 190 28 [q0] [(0, s0), (0, s1)] ds m Q = (WP 190 29 [q0] [(0, w32 (s1 + s0))] ds m Q) := P_nx k190_28 rfl
set_option maxRecDepth 20000 in
theorem k190_29 : mjCode 190 29 = some (.ldc_w 267, 3, 252645135, 0) := by decide +kernel
theorem p190_29 {s0 : Int} {q0 : MV} {ds : Ds} {m : Mm} {Q : Ds → Mm → List MV → Prop} : WP 190 29 [q0] [(0, s0)] ds m Q = (WP 190 32 [q0] [(0, 252645135), (0, s0)] ds m Q) := P_nx k190_29 rfl
set_option maxRecDepth 20000 in
theorem k190_32 : mjCode 190 32 = some (.iand, 1, 0, 0) := by decide +kernel
theorem p190_32 {s0 s1 : Int} {q0 : MV} {ds : Ds} {m : Mm} {Q : Ds → Mm → List MV → Prop} : WP 190 32 [q0] [(0, s0), (0, s1)] ds m Q = (WP 190 33 [q0] [(0, jand s1 s0)] ds m Q) := P_nx k190_32 rfl
set_option maxRecDepth 20000 in
theorem k190_33 : mjCode 190 33 = some (.istore_n 0, 1, 0, 0) := by decide +kernel
theorem p190_33 {s0 : Int} {q0 : MV} {ds : Ds} {m : Mm} {Q : Ds → Mm → List MV → Prop} : WP 190 33 [q0] [(0, s0)] ds m Q = (WP 190 34 [(0, s0)] [] ds m Q) := P_nx k190_33 rfl
set_option maxRecDepth 20000 in
theorem k190_34 : mjCode 190 34 = some (.iload_n 0, 1, 0, 0) := by decide +kernel
theorem p190_34 {l0 : Int} {ds : Ds} {m : Mm} {Q : Ds → Mm → List MV → Prop} : WP 190 34 [(0, l0)] [] ds m Q = (WP 190 35 [(0, l0)] [(0, l0)] ds m Q) := P_nx k190_34 rfl
set_option maxRecDepth 20000 in
theorem k190_35 : mjCode 190 35 = some (.iload_n 0, 1, 0, 0) := by decide +kernel
theorem p190_35 {l0 s0 : Int} {ds : Ds} {m : Mm} {Q : Ds → Mm → List MV → Prop} : WP 190 35 [(0, l0)] [(0, s0)] ds m Q = (WP 190 36 [(0, l0)] [(0, l0), (0, s0)] ds m Q) := P_nx k190_35 rfl
set_option maxRecDepth 20000 in
theorem k190_36 : mjCode 190 36 = some (.bipush 8, 2, 0, 0) := by decide +kernel
theorem p190_36 {s0 s1 : Int} {q0 : MV} {ds : Ds} {m : Mm} {Q : Ds → Mm → List MV → Prop} : WP 190 36 [q0] [(0, s0), (0, s1)] ds m Q = (WP 190 38 [q0] [(0, 8), (0, s0), (0, s1)] ds m Q) := P_nx k190_36 rfl
set_option maxRecDepth 20000 in
theorem k190_38 : mjCode 190 38 = some (.iushr, 1, 0, 0) := by decide +kernel
theorem p190_38 {s0 s1 s2 : Int} {q0 : MV} {ds : Ds} {m : Mm} {Q : Ds → Mm → List MV → Prop} : WP 190 38 [q0] [(0, s0), (0, s1), (0, s2)] ds m Q = (WP 190 39 [q0] [(0, jushr s1 s0), (0, s2)] ds m Q) := P_nx k190_38 rfl
set_option maxRecDepth 20000 in
theorem k190_39 : mjCode 190 39 = some (.iadd, 1, 0, 0) := by decide +kernel
theorem p190_39 {s0 s1 : Int} {q0 : MV} {ds : Ds} {m : Mm} {Q : Ds → Mm → List MV → Prop} : WP 190 39 [q0] [(0, s0), (0, s1)] ds m Q = (WP 190 40 [q0] [(0, w32 (s1 + s0))] ds m Q) := P_nx k190_39 rfl
set_option maxRecDepth 20000 in
theorem k190_40 : mjCode 190 40 = some (.istore_n 0, 1, 0, 0) := by decide +kernel
theorem p190_40 {s0 : Int} {q0 : MV} {ds : Ds} {m : Mm} {Q : Ds → Mm → List MV → Prop} : WP 190 40 [q0] [(0, s0)] ds m Q = (WP 190 41 [(0, s0)] [] ds m Q) := P_nx k190_40 rfl
set_option maxRecDepth 20000 in
theorem k190_41 : mjCode 190 41 = some (.iload_n 0, 1, 0, 0) := by decide +kernel
theorem p190_41 {l0 : Int} {ds : Ds} {m : Mm} {Q : Ds → Mm → List MV → Prop} : WP 190 41 [(0, l0)] [] ds m Q = (WP 190 42 [(0, l0)] [(0, l0)] ds m Q) := P_nx k190_41 rfl
set_option maxRecDepth 20000 in
theorem k190_42 : mjCode 190 42 = some (.iload_n 0, 1, 0, 0) := by decide +kernel
theorem p190_42 {l0 s0 : Int} {ds : Ds} {m : Mm} {Q : Ds → Mm → List MV → Prop} : WP 190 42 [(0, l0)] [(0, s0)] ds m Q = (WP 190 43 [(0, l0)] [(0, l0), (0, s0)] ds m Q) := P_nx k190_42 rfl
set_option maxRecDepth 20000 in
theorem k190_43 : mjCode 190 43 = some (.bipush 16, 2, 0, 0) := by decide +kernel
theorem p190_43 {s0 s1 : Int} {q0 : MV} {ds : Ds} {m : Mm} {Q : Ds → Mm → List MV → Prop} : WP 190 43 [q0] [(0, s0), (0, s1)] ds m Q = (WP 190 45 [q0] [(0, 16), (0, s0), (0, s1)] ds m Q) := P_nx k190_43 rfl
set_option maxRecDepth 20000 in
theorem k190_45 : mjCode 190 45 = some (.iushr, 1, 0, 0) := by decide +kernel
theorem p190_45 {s0 s1 s2 : Int} {q0 : MV} {ds : Ds} {m : Mm} {Q : Ds → Mm → List MV → Prop} : WP 190 45 [q0] [(0, s0), (0, s1), (0, s2)] ds m Q = (WP 190 46 [q0] [(0, jushr s1 s0), (0, s2)] ds m Q) := P_nx k190_45 rfl
set_option maxRecDepth 20000 in
theorem k190_46 : mjCode 190 46 = some (.iadd, 1, 0, 0) := by decide +kernel
theorem p190_46 {s0 s1 : Int} {q0 : MV} {ds : Ds} {m : Mm} {Q : Ds → Mm → List MV → Prop} : WP 190 46 [q0] [(0, s0), (0, s1)] ds m Q = (WP 190 47 [q0] [(0, w32 (s1 + s0))] ds m Q) := P_nx k190_46 rfl
set_option maxRecDepth 20000 in
theorem k190_47 : mjCode 190 47 = some (.istore_n 0, 1, 0, 0) := by decide +kernel
theorem p190_47 {s0 : Int} {q0 : MV} {ds : Ds} {m : Mm} {Q : Ds → Mm → List MV → Prop} : WP 190 47 [q0] [(0, s0)] ds m Q = (WP 190 48 [(0, s0)] [] ds m Q) := P_nx k190_47 rfl
set_option maxRecDepth 20000 in
theorem k190_48 : mjCode 190 48 = some (.iload_n 0, 1, 0, 0) := by decide +kernel
theorem p190_48 {l0 : Int} {ds : Ds} {m : Mm} {Q : Ds → Mm → List MV → Prop} : WP 190 48 [(0, l0)] [] ds m Q = (WP 190 49 [(0, l0)] [(0, l0)] ds m Q) := P_nx k190_48 rfl
set_option maxRecDepth 20000 in
theorem k190_49 : mjCode 190 49 = some (.bipush 63, 2, 0, 0) := by decide +kernel
theorem p190_49 {s0 : Int} {q0 : MV} {ds : Ds} {m : Mm} {Q : Ds → Mm → List MV → Prop} : WP 190 49 [q0] [(0, s0)] ds m Q = (WP 190 51 [q0] [(0, 63), (0, s0)] ds m Q) := P_nx k190_49 rfl
set_option maxRecDepth 20000 in
theorem k190_51 : mjCode 190 51 = some (.iand, 1, 0, 0) := by decide +kernel
theorem p190_51 {s0 s1 : Int} {q0 : MV} {ds : Ds} {m : Mm} {Q : Ds → Mm → List MV → Prop} : WP 190 51 [q0] [(0, s0), (0, s1)] ds m Q = (WP 190 52 [q0] [(0, jand s1 s0)] ds m Q) := P_nx k190_51 rfl
set_option maxRecDepth 20000 in
theorem k190_52 : mjCode 190 52 = some (.ireturn, 1, 0, 0) := by decide +kernel
theorem p190_52 {s0 : Int} {q0 : MV} {ds : Ds} {m : Mm} {Q : Ds → Mm → List MV → Prop} : WP 190 52 [q0] [(0, s0)] ds m Q = (Q ds m [(0, s0)]) := P_ri k190_52 rk190
