/-! the steps, entry by entry -/
set_option maxRecDepth 20000 in
theorem k63_0 : mjCode 63 0 = some (.aload_n 0, 1, 0, 0) := by decide +kernel
theorem p63_0 {l0 : Int} {q1 q2 q3 q4 q5 q6 q7 : MV} {ds : Ds} {m : Mm} {Q : Ds → Mm → List MV → Prop} : WP 63 0 [(2, l0), q1, q2, q3, q4, q5, q6, q7] [] ds m Q = (WP 63 1 [(2, l0), q1, q2, q3, q4, q5, q6, q7] [(2, l0)] ds m Q) := P_nx k63_0 rfl
set_option maxRecDepth 20000 in
theorem k63_1 : mjCode 63 1 = some (.getfield 12, 3, 5, 2) := by decide +kernel
theorem p63_1 {s0 : Int} {q0 q1 q2 q3 q4 q5 q6 q7 : MV} {ds : Ds} {m : Mm} {Q : Ds → Mm → List MV → Prop} : WP 63 1 [q0, q1, q2, q3, q4, q5, q6, q7] [(2, s0)] ds m Q = ((dk ds s0 = 5 ∧ WP 63 4 [q0, q1, q2, q3, q4, q5, q6, q7] [(2, m s0 2)] ds m Q)) := P_gd k63_1 rfl
set_option maxRecDepth 20000 in
theorem k63_4 : mjCode 63 4 = some (.iload_n 1, 1, 0, 0) := by decide +kernel
theorem p63_4 {l1 s0 : Int} {q0 q2 q3 q4 q5 q6 q7 : MV} {ds : Ds} {m : Mm} {Q : Ds → Mm → List MV → Prop} : WP 63 4 [q0, (0, l1), q2, q3, q4, q5, q6, q7] [(2, s0)] ds m Q = (WP 63 5 [q0, (0, l1), q2, q3, q4, q5, q6, q7] [(0, l1), (2, s0)] ds m Q) := P_nx k63_4 rfl
set_option maxRecDepth 20000 in
theorem k63_5 : mjCode 63 5 = some (.invokevirtual 199, 3, 4, 2) := by decide +kernel
theorem p63_5 {s0 s1 : Int} {q0 q1 q2 q3 q4 q5 q6 q7 : MV} {ds : Ds} {m : Mm} {Q : Ds → Mm → List MV → Prop} : WP 63 5 [q0, q1, q2, q3, q4, q5, q6, q7] [(0, s0), (2, s1)] ds m Q = ((dk ds s1 = 0 ∧ WP 3 0 [(2, s1), (0, s0)] [] ds m (fun d2 m2 r2 => WP 63 8 [q0, q1, q2, q3, q4, q5, q6, q7] (r2 ++ []) d2 m2 Q))) := P_cv k63_5 mx3 mo3 rfl rfl rfl rfl rfl rfl rfl rfl
set_option maxRecDepth 20000 in
theorem k63_8 : mjCode 63 8 = some (.istore 4, 2, 0, 0) := by decide +kernel
theorem p63_8 {l3 s0 : Int} {q0 q1 q2 q4 q5 q6 q7 : MV} {ds : Ds} {m : Mm} {Q : Ds → Mm → List MV → Prop} : WP 63 8 [q0, q1, q2, (0, l3), q4, q5, q6, q7] [(0, s0)] ds m Q = (WP 63 10 [q0, q1, q2, (0, l3), (0, s0), q5, q6, q7] [] ds m Q) := P_nx k63_8 rfl
set_option maxRecDepth 20000 in
theorem k63_10 : mjCode 63 10 = some (.iload_n 1, 1, 0, 0) := by decide +kernel
theorem p63_10 {l1 : Int} {q0 q2 q3 q4 q5 q6 q7 : MV} {ds : Ds} {m : Mm} {Q : Ds → Mm → List MV → Prop} : WP 63 10 [q0, (0, l1), q2, q3, q4, q5, q6, q7] [] ds m Q = (WP 63 11 [q0, (0, l1), q2, q3, q4, q5, q6, q7] [(0, l1)] ds m Q) := P_nx k63_10 rfl
set_option maxRecDepth 20000 in
theorem k63_11 : mjCode 63 11 = some (.invokestatic 75, 3, 108, 1) := by decide +kernel
theorem p63_11 {s0 : Int} {q0 q1 q2 q3 q4 q5 q6 q7 : MV} {ds : Ds} {m : Mm} {Q : Ds → Mm → List MV → Prop} : WP 63 11 [q0, q1, q2, q3, q4, q5, q6, q7] [(0, s0)] ds m Q = (WP 107 0 [(0, s0)] [] ds m (fun d2 m2 r2 => WP 63 14 [q0, q1, q2, q3, q4, q5, q6, q7] (r2 ++ []) d2 m2 Q)) := P_cs k63_11 mx107 rfl rfl rfl rfl rfl rfl rfl
set_option maxRecDepth 20000 in
theorem k63_14 : mjCode 63 14 = some (.ifCond .ne 4, 3, 18, 0) := by decide +kernel
theorem p63_14 {s0 : Int} {q0 q1 q2 q3 q4 q5 q6 q7 : MV} {ds : Ds} {m : Mm} {Q : Ds → Mm → List MV → Prop} : WP 63 14 [q0, q1, q2, q3, q4, q5, q6, q7] [(0, s0)] ds m Q = (if s0 = 0 then WP 63 17 [q0, q1, q2, q3, q4, q5, q6, q7] [] ds m Q else WP 63 18 [q0, q1, q2, q3, q4, q5, q6, q7] [] ds m Q) := P_if k63_14 rfl
set_option maxRecDepth 20000 in
theorem k63_17 : mjCode 63 17 = some (.return_, 1, 0, 0) := by decide +kernel
theorem p63_17 {q0 q1 q2 q3 q4 q5 q6 q7 : MV} {ds : Ds} {m : Mm} {Q : Ds → Mm → List MV → Prop} : WP 63 17 [q0, q1, q2, q3, q4, q5, q6, q7] [] ds m Q = (Q ds m []) := P_rv k63_17 rk63
set_option maxRecDepth 20000 in
theorem k63_18 : mjCode 63 18 = some (.iload 4, 2, 0, 0) := by decide +kernel
theorem p63_18 {l4 : Int} {q0 q1 q2 q3 q5 q6 q7 : MV} {ds : Ds} {m : Mm} {Q : Ds → Mm → List MV → Prop} : WP 63 18 [q0, q1, q2, q3, (0, l4), q5, q6, q7] [] ds m Q = (WP 63 20 [q0, q1, q2, q3, (0, l4), q5, q6, q7] [(0, l4)] ds m Q) := P_nx k63_18 rfl
set_option maxRecDepth 20000 in
theorem k63_20 : mjCode 63 20 = some (.iconst (-1), 1, 0, 0) := by decide +kernel
theorem p63_20 {s0 : Int} {q0 q1 q2 q3 q4 q5 q6 q7 : MV} {ds : Ds} {m : Mm} {Q : Ds → Mm → List MV → Prop} : WP 63 20 [q0, q1, q2, q3, q4, q5, q6, q7] [(0, s0)] ds m Q = (WP 63 21 [q0, q1, q2, q3, q4, q5, q6, q7] [(0, (-1)), (0, s0)] ds m Q) := P_nx k63_20 rfl
set_option maxRecDepth 20000 in
theorem k63_21 : mjCode 63 21 = some (.if_icmp .eq 58, 3, 79, 0) := by decide +kernel
theorem p63_21 {s0 s1 : Int} {q0 q1 q2 q3 q4 q5 q6 q7 : MV} {ds : Ds} {m : Mm} {Q : Ds → Mm → List MV → Prop} : WP 63 21 [q0, q1, q2, q3, q4, q5, q6, q7] [(0, s0), (0, s1)] ds m Q = (if s1 = s0 then WP 63 79 [q0, q1, q2, q3, q4, q5, q6, q7] [] ds m Q else WP 63 24 [q0, q1, q2, q3, q4, q5, q6, q7] [] ds m Q) := P_if k63_21 rfl
set_option maxRecDepth 20000 in
theorem k63_24 : mjCode 63 24 = some (.aload_n 0, 1, 0, 0) := by decide +kernel
theorem p63_24 {l0 : Int} {q1 q2 q3 q4 q5 q6 q7 : MV} {ds : Ds} {m : Mm} {Q : Ds → Mm → List MV → Prop} : WP 63 24 [(2, l0), q1, q2, q3, q4, q5, q6, q7] [] ds m Q = (WP 63 25 [(2, l0), q1, q2, q3, q4, q5, q6, q7] [(2, l0)] ds m Q) := P_nx k63_24 rfl
set_option maxRecDepth 20000 in
theorem k63_25 : mjCode 63 25 = some (.getfield 35, 3, 5, 8) := by decide +kernel
theorem p63_25 {s0 : Int} {q0 q1 q2 q3 q4 q5 q6 q7 : MV} {ds : Ds} {m : Mm} {Q : Ds → Mm → List MV → Prop} : WP 63 25 [q0, q1, q2, q3, q4, q5, q6, q7] [(2, s0)] ds m Q = ((dk ds s0 = 5 ∧ WP 63 28 [q0, q1, q2, q3, q4, q5, q6, q7] [(2, m s0 8)] ds m Q)) := P_gd k63_25 rfl
set_option maxRecDepth 20000 in
theorem k63_28 : mjCode 63 28 = some (.iload_n 1, 1, 0, 0) := by decide +kernel
theorem p63_28 {l1 s0 : Int} {q0 q2 q3 q4 q5 q6 q7 : MV} {ds : Ds} {m : Mm} {Q : Ds → Mm → List MV → Prop} : WP 63 28 [q0, (0, l1), q2, q3, q4, q5, q6, q7] [(2, s0)] ds m Q = (WP 63 29 [q0, (0, l1), q2, q3, q4, q5, q6, q7] [(0, l1), (2, s0)] ds m Q) := P_nx k63_28 rfl
set_option maxRecDepth 20000 in
theorem k63_29 : mjCode 63 29 = some (.invokevirtual 202, 3, 25, 2) := by decide +kernel
theorem p63_29 {s0 s1 : Int} {q0 q1 q2 q3 q4 q5 q6 q7 : MV} {ds : Ds} {m : Mm} {Q : Ds → Mm → List MV → Prop} : WP 63 29 [q0, q1, q2, q3, q4, q5, q6, q7] [(0, s0), (2, s1)] ds m Q = ((dk ds s1 = 3 ∧ WP 24 0 [(2, s1), (0, s0)] [] ds m (fun d2 m2 r2 => WP 63 32 [q0, q1, q2, q3, q4, q5, q6, q7] (r2 ++ []) d2 m2 Q))) := P_cv k63_29 mx24 mo24 rfl rfl rfl rfl rfl rfl rfl rfl
set_option maxRecDepth 20000 in
theorem k63_32 : mjCode 63 32 = some (.bipush 9, 2, 0, 0) := by decide +kernel
theorem p63_32 {s0 : Int} {q0 q1 q2 q3 q4 q5 q6 q7 : MV} {ds : Ds} {m : Mm} {Q : Ds → Mm → List MV → Prop} : WP 63 32 [q0, q1, q2, q3, q4, q5, q6, q7] [(0, s0)] ds m Q = (WP 63 34 [q0, q1, q2, q3, q4, q5, q6, q7] [(0, 9), (0, s0)] ds m Q) := P_nx k63_32 rfl
set_option maxRecDepth 20000 in
theorem k63_34 : mjCode 63 34 = some (.if_icmp .ne 22, 3, 56, 0) := by decide +kernel
theorem p63_34 {s0 s1 : Int} {q0 q1 q2 q3 q4 q5 q6 q7 : MV} {ds : Ds} {m : Mm} {Q : Ds → Mm → List MV → Prop} : WP 63 34 [q0, q1, q2, q3, q4, q5, q6, q7] [(0, s0), (0, s1)] ds m Q = (if s1 = s0 then WP 63 37 [q0, q1, q2, q3, q4, q5, q6, q7] [] ds m Q else WP 63 56 [q0, q1, q2, q3, q4, q5, q6, q7] [] ds m Q) := P_if k63_34 rfl
set_option maxRecDepth 20000 in
theorem k63_37 : mjCode 63 37 = some (.aload_n 0, 1, 0, 0) := by decide +kernel
theorem p63_37 {l0 : Int} {q1 q2 q3 q4 q5 q6 q7 : MV} {ds : Ds} {m : Mm} {Q : Ds → Mm → List MV → Prop} : WP 63 37 [(2, l0), q1, q2, q3, q4, q5, q6, q7] [] ds m Q = (WP 63 38 [(2, l0), q1, q2, q3, q4, q5, q6, q7] [(2, l0)] ds m Q) := P_nx k63_37 rfl
set_option maxRecDepth 20000 in
theorem k63_38 : mjCode 63 38 = some (.getfield 35, 3, 5, 8) := by decide +kernel
theorem p63_38 {s0 : Int} {q0 q1 q2 q3 q4 q5 q6 q7 : MV} {ds : Ds} {m : Mm} {Q : Ds → Mm → List MV → Prop} : WP 63 38 [q0, q1, q2, q3, q4, q5, q6, q7] [(2, s0)] ds m Q = ((dk ds s0 = 5 ∧ WP 63 41 [q0, q1, q2, q3, q4, q5, q6, q7] [(2, m s0 8)] ds m Q)) := P_gd k63_38 rfl
set_option maxRecDepth 20000 in
theorem k63_41 : mjCode 63 41 = some (.iload_n 1, 1, 0, 0) := by decide +kernel
theorem p63_41 {l1 s0 : Int} {q0 q2 q3 q4 q5 q6 q7 : MV} {ds : Ds} {m : Mm} {Q : Ds → Mm → List MV → Prop} : WP 63 41 [q0, (0, l1), q2, q3, q4, q5, q6, q7] [(2, s0)] ds m Q = (WP 63 42 [q0, (0, l1), q2, q3, q4, q5, q6, q7] [(0, l1), (2, s0)] ds m Q) := P_nx k63_41 rfl
set_option maxRecDepth 20000 in
theorem k63_42 : mjCode 63 42 = some (.iload_n 2, 1, 0, 0) := by decide +kernel
theorem p63_42 {l2 s0 s1 : Int} {q0 q1 q3 q4 q5 q6 q7 : MV} {ds : Ds} {m : Mm} {Q : Ds → Mm → List MV → Prop} : WP 63 42 [q0, q1, (0, l2), q3, q4, q5, q6, q7] [(0, s0), (2, s1)] ds m Q = (WP 63 43 [q0, q1, (0, l2), q3, q4, q5, q6, q7] [(0, l2), (0, s0), (2, s1)] ds m Q) := P_nx k63_42 rfl
set_option maxRecDepth 20000 in
theorem k63_43 : mjCode 63 43 = some (.invokestatic 159, 3, 111, 1) := by decide +kernel
theorem p63_43 {s0 s1 s2 : Int} {q0 q1 q2 q3 q4 q5 q6 q7 : MV} {ds : Ds} {m : Mm} {Q : Ds → Mm → List MV → Prop} : WP 63 43 [q0, q1, q2, q3, q4, q5, q6, q7] [(0, s0), (0, s1), (2, s2)] ds m Q = (WP 110 0 [(0, s0)] [] ds m (fun d2 m2 r2 => WP 63 46 [q0, q1, q2, q3, q4, q5, q6, q7] (r2 ++ [(0, s1), (2, s2)]) d2 m2 Q)) := P_cs k63_43 mx110 rfl rfl rfl rfl rfl rfl rfl
set_option maxRecDepth 20000 in
theorem k63_46 : mjCode 63 46 = some (.invokevirtual 205, 3, 32, 3) := by decide +kernel
theorem p63_46 {s0 s1 s2 : Int} {q0 q1 q2 q3 q4 q5 q6 q7 : MV} {ds : Ds} {m : Mm} {Q : Ds → Mm → List MV → Prop} : WP 63 46 [q0, q1, q2, q3, q4, q5, q6, q7] [(0, s0), (0, s1), (2, s2)] ds m Q = ((dk ds s2 = 3 ∧ WP 31 0 [(2, s2), (0, s1), (0, s0)] [] ds m (fun d2 m2 r2 => WP 63 49 [q0, q1, q2, q3, q4, q5, q6, q7] (r2 ++ []) d2 m2 Q))) := P_cv k63_46 mx31 mo31 rfl rfl rfl rfl rfl rfl rfl rfl
set_option maxRecDepth 20000 in
theorem k63_49 : mjCode 63 49 = some (.ifCond .ne 7, 3, 56, 0) := by decide +kernel
theorem p63_49 {s0 : Int} {q0 q1 q2 q3 q4 q5 q6 q7 : MV} {ds : Ds} {m : Mm} {Q : Ds → Mm → List MV → Prop} : WP 63 49 [q0, q1, q2, q3, q4, q5, q6, q7] [(0, s0)] ds m Q = (if s0 = 0 then WP 63 52 [q0, q1, q2, q3, q4, q5, q6, q7] [] ds m Q else WP 63 56 [q0, q1, q2, q3, q4, q5, q6, q7] [] ds m Q) := P_if k63_49 rfl
set_option maxRecDepth 20000 in
theorem k63_52 : mjCode 63 52 = some (.iconst 1, 1, 0, 0) := by decide +kernel
theorem p63_52 {q0 q1 q2 q3 q4 q5 q6 q7 : MV} {ds : Ds} {m : Mm} {Q : Ds → Mm → List MV → Prop} : WP 63 52 [q0, q1, q2, q3, q4, q5, q6, q7] [] ds m Q = (WP 63 53 [q0, q1, q2, q3, q4, q5, q6, q7] [(0, 1)] ds m Q) := P_nx k63_52 rfl
set_option maxRecDepth 20000 in
theorem k63_53 : mjCode 63 53 = some (.goto 4, 3, 57, 0) := by decide +kernel
theorem p63_53 {s0 : Int} {q0 q1 q2 q3 q4 q5 q6 q7 : MV} {ds : Ds} {m : Mm} {Q : Ds → Mm → List MV → Prop} : WP 63 53 [q0, q1, q2, q3, q4, q5, q6, q7] [(0, s0)] ds m Q = (WP 63 57 [q0, q1, q2, q3, q4, q5, q6, q7] [(0, s0)] ds m Q) := P_nx k63_53 rfl
set_option maxRecDepth 20000 in
theorem k63_56 : mjCode 63 56 = some (.iconst 0, 1, 0, 0) := by decide +kernel
theorem p63_56 {q0 q1 q2 q3 q4 q5 q6 q7 : MV} {ds : Ds} {m : Mm} {Q : Ds → Mm → List MV → Prop} : WP 63 56 [q0, q1, q2, q3, q4, q5, q6, q7] [] ds m Q = (WP 63 57 [q0, q1, q2, q3, q4, q5, q6, q7] [(0, 0)] ds m Q) := P_nx k63_56 rfl
set_option maxRecDepth 20000 in
theorem k63_57 : mjCode 63 57 = some (.istore 5, 2, 0, 0) := by decide +kernel
theorem p63_57 {l4 s0 : Int} {q0 q1 q2 q3 q5 q6 q7 : MV} {ds : Ds} {m : Mm} {Q : Ds → Mm → List MV → Prop} : WP 63 57 [q0, q1, q2, q3, (0, l4), q5, q6, q7] [(0, s0)] ds m Q = (WP 63 59 [q0, q1, q2, q3, (0, l4), (0, s0), q6, q7] [] ds m Q) := P_nx k63_57 rfl
set_option maxRecDepth 20000 in
theorem k63_59 : mjCode 63 59 = some (.iload 5, 2, 0, 0) := by decide +kernel
theorem p63_59 {l5 : Int} {q0 q1 q2 q3 q4 q6 q7 : MV} {ds : Ds} {m : Mm} {Q : Ds → Mm → List MV → Prop} : WP 63 59 [q0, q1, q2, q3, q4, (0, l5), q6, q7] [] ds m Q = (WP 63 61 [q0, q1, q2, q3, q4, (0, l5), q6, q7] [(0, l5)] ds m Q) := P_nx k63_59 rfl
set_option maxRecDepth 20000 in
theorem k63_61 : mjCode 63 61 = some (.ifCond .ne 17, 3, 78, 0) := by decide +kernel
theorem p63_61 {s0 : Int} {q0 q1 q2 q3 q4 q5 q6 q7 : MV} {ds : Ds} {m : Mm} {Q : Ds → Mm → List MV → Prop} : WP 63 61 [q0, q1, q2, q3, q4, q5, q6, q7] [(0, s0)] ds m Q = (if s0 = 0 then WP 63 64 [q0, q1, q2, q3, q4, q5, q6, q7] [] ds m Q else WP 63 78 [q0, q1, q2, q3, q4, q5, q6, q7] [] ds m Q) := P_if k63_61 rfl
set_option maxRecDepth 20000 in
theorem k63_64 : mjCode 63 64 = some (.aload_n 0, 1, 0, 0) := by decide +kernel
theorem p63_64 {l0 : Int} {q1 q2 q3 q4 q5 q6 q7 : MV} {ds : Ds} {m : Mm} {Q : Ds → Mm → List MV → Prop} : WP 63 64 [(2, l0), q1, q2, q3, q4, q5, q6, q7] [] ds m Q = (WP 63 65 [(2, l0), q1, q2, q3, q4, q5, q6, q7] [(2, l0)] ds m Q) := P_nx k63_64 rfl
set_option maxRecDepth 20000 in
theorem k63_65 : mjCode 63 65 = some (.getfield 12, 3, 5, 2) := by decide +kernel
theorem p63_65 {s0 : Int} {q0 q1 q2 q3 q4 q5 q6 q7 : MV} {ds : Ds} {m : Mm} {Q : Ds → Mm → List MV → Prop} : WP 63 65 [q0, q1, q2, q3, q4, q5, q6, q7] [(2, s0)] ds m Q = ((dk ds s0 = 5 ∧ WP 63 68 [q0, q1, q2, q3, q4, q5, q6, q7] [(2, m s0 2)] ds m Q)) := P_gd k63_65 rfl
set_option maxRecDepth 20000 in
theorem k63_68 : mjCode 63 68 = some (.iload 4, 2, 0, 0) := by decide +kernel
theorem p63_68 {l4 s0 : Int} {q0 q1 q2 q3 q5 q6 q7 : MV} {ds : Ds} {m : Mm} {Q : Ds → Mm → List MV → Prop} : WP 63 68 [q0, q1, q2, q3, (0, l4), q5, q6, q7] [(2, s0)] ds m Q = (WP 63 70 [q0, q1, q2, q3, (0, l4), q5, q6, q7] [(0, l4), (2, s0)] ds m Q) := P_nx k63_68 rfl
set_option maxRecDepth 20000 in
theorem k63_70 : mjCode 63 70 = some (.iload_n 2, 1, 0, 0) := by decide +kernel
theorem p63_70 {l2 s0 s1 : Int} {q0 q1 q3 q4 q5 q6 q7 : MV} {ds : Ds} {m : Mm} {Q : Ds → Mm → List MV → Prop} : WP 63 70 [q0, q1, (0, l2), q3, q4, q5, q6, q7] [(0, s0), (2, s1)] ds m Q = (WP 63 71 [q0, q1, (0, l2), q3, q4, q5, q6, q7] [(0, l2), (0, s0), (2, s1)] ds m Q) := P_nx k63_70 rfl
set_option maxRecDepth 20000 in
theorem k63_71 : mjCode 63 71 = some (.invokestatic 159, 3, 111, 1) := by decide +kernel
theorem p63_71 {s0 s1 s2 : Int} {q0 q1 q2 q3 q4 q5 q6 q7 : MV} {ds : Ds} {m : Mm} {Q : Ds → Mm → List MV → Prop} : WP 63 71 [q0, q1, q2, q3, q4, q5, q6, q7] [(0, s0), (0, s1), (2, s2)] ds m Q = (WP 110 0 [(0, s0)] [] ds m (fun d2 m2 r2 => WP 63 74 [q0, q1, q2, q3, q4, q5, q6, q7] (r2 ++ [(0, s1), (2, s2)]) d2 m2 Q)) := P_cs k63_71 mx110 rfl rfl rfl rfl rfl rfl rfl
set_option maxRecDepth 20000 in
theorem k63_74 : mjCode 63 74 = some (.iload_n 3, 1, 0, 0) := by decide +kernel
theorem p63_74 {l3 s0 s1 s2 : Int} {q0 q1 q2 q4 q5 q6 q7 : MV} {ds : Ds} {m : Mm} {Q : Ds → Mm → List MV → Prop} : WP 63 74 [q0, q1, q2, (0, l3), q4, q5, q6, q7] [(0, s0), (0, s1), (2, s2)] ds m Q = (WP 63 75 [q0, q1, q2, (0, l3), q4, q5, q6, q7] [(0, l3), (0, s0), (0, s1), (2, s2)] ds m Q) := P_nx k63_74 rfl
set_option maxRecDepth 20000 in
theorem k63_75 : mjCode 63 75 = some (.invokevirtual 211, 3, 7, 4) := by decide +kernel
theorem p63_75 {s0 s1 s2 s3 : Int} {q0 q1 q2 q3 q4 q5 q6 q7 : MV} {ds : Ds} {m : Mm} {Q : Ds → Mm → List MV → Prop} : WP 63 75 [q0, q1, q2, q3, q4, q5, q6, q7] [(0, s0), (0, s1), (0, s2), (2, s3)] ds m Q = ((dk ds s3 = 0 ∧ WP 6 0 [(2, s3), (0, s2), (0, s1), (0, s0)] [] ds m (fun d2 m2 r2 => WP 63 78 [q0, q1, q2, q3, q4, q5, q6, q7] (r2 ++ []) d2 m2 Q))) := P_cv k63_75 mx6 mo6 rfl rfl rfl rfl rfl rfl rfl rfl
set_option maxRecDepth 20000 in
theorem k63_78 : mjCode 63 78 = some (.return_, 1, 0, 0) := by decide +kernel
theorem p63_78 {q0 q1 q2 q3 q4 q5 q6 q7 : MV} {ds : Ds} {m : Mm} {Q : Ds → Mm → List MV → Prop} : WP 63 78 [q0, q1, q2, q3, q4, q5, q6, q7] [] ds m Q = (Q ds m []) := P_rv k63_78 rk63
set_option maxRecDepth 20000 in
theorem k63_79 : mjCode 63 79 = some (.aload_n 0, 1, 0, 0) := by decide +kernel
theorem p63_79 {l0 : Int} {q1 q2 q3 q4 q5 q6 q7 : MV} {ds : Ds} {m : Mm} {Q : Ds → Mm → List MV → Prop} : WP 63 79 [(2, l0), q1, q2, q3, q4, q5, q6, q7] [] ds m Q = (WP 63 80 [(2, l0), q1, q2, q3, q4, q5, q6, q7] [(2, l0)] ds m Q) := P_nx k63_79 rfl
set_option maxRecDepth 20000 in
theorem k63_80 : mjCode 63 80 = some (.getfield 35, 3, 5, 8) := by decide +kernel
theorem p63_80 {s0 : Int} {q0 q1 q2 q3 q4 q5 q6 q7 : MV} {ds : Ds} {m : Mm} {Q : Ds → Mm → List MV → Prop} : WP 63 80 [q0, q1, q2, q3, q4, q5, q6, q7] [(2, s0)] ds m Q = ((dk ds s0 = 5 ∧ WP 63 83 [q0, q1, q2, q3, q4, q5, q6, q7] [(2, m s0 8)] ds m Q)) := P_gd k63_80 rfl
set_option maxRecDepth 20000 in
theorem k63_83 : mjCode 63 83 = some (.iload_n 1, 1, 0, 0) := by decide +kernel
theorem p63_83 {l1 s0 : Int} {q0 q2 q3 q4 q5 q6 q7 : MV} {ds : Ds} {m : Mm} {Q : Ds → Mm → List MV → Prop} : WP 63 83 [q0, (0, l1), q2, q3, q4, q5, q6, q7] [(2, s0)] ds m Q = (WP 63 84 [q0, (0, l1), q2, q3, q4, q5, q6, q7] [(0, l1), (2, s0)] ds m Q) := P_nx k63_83 rfl
set_option maxRecDepth 20000 in
theorem k63_84 : mjCode 63 84 = some (.invokevirtual 214, 3, 26, 2) := by decide +kernel
theorem p63_84 {s0 s1 : Int} {q0 q1 q2 q3 q4 q5 q6 q7 : MV} {ds : Ds} {m : Mm} {Q : Ds → Mm → List MV → Prop} : WP 63 84 [q0, q1, q2, q3, q4, q5, q6, q7] [(0, s0), (2, s1)] ds m Q = ((dk ds s1 = 3 ∧ WP 25 0 [(2, s1), (0, s0)] [] ds m (fun d2 m2 r2 => WP 63 87 [q0, q1, q2, q3, q4, q5, q6, q7] (r2 ++ []) d2 m2 Q))) := P_cv k63_84 mx25 mo25 rfl rfl rfl rfl rfl rfl rfl rfl
set_option maxRecDepth 20000 in
theorem k63_87 : mjCode 63 87 = some (.istore 5, 2, 0, 0) := by decide +kernel
theorem p63_87 {l4 s0 : Int} {q0 q1 q2 q3 q5 q6 q7 : MV} {ds : Ds} {m : Mm} {Q : Ds → Mm → List MV → Prop} : WP 63 87 [q0, q1, q2, q3, (0, l4), q5, q6, q7] [(0, s0)] ds m Q = (WP 63 89 [q0, q1, q2, q3, (0, l4), (0, s0), q6, q7] [] ds m Q) := P_nx k63_87 rfl
set_option maxRecDepth 20000 in
theorem k63_89 : mjCode 63 89 = some (.aload_n 0, 1, 0, 0) := by decide +kernel
theorem p63_89 {l0 : Int} {q1 q2 q3 q4 q5 q6 q7 : MV} {ds : Ds} {m : Mm} {Q : Ds → Mm → List MV → Prop} : WP 63 89 [(2, l0), q1, q2, q3, q4, q5, q6, q7] [] ds m Q = (WP 63 90 [(2, l0), q1, q2, q3, q4, q5, q6, q7] [(2, l0)] ds m Q) := P_nx k63_89 rfl
set_option maxRecDepth 20000 in
theorem k63_90 : mjCode 63 90 = some (.getfield 35, 3, 5, 8) := by decide +kernel
theorem p63_90 {s0 : Int} {q0 q1 q2 q3 q4 q5 q6 q7 : MV} {ds : Ds} {m : Mm} {Q : Ds → Mm → List MV → Prop} : WP 63 90 [q0, q1, q2, q3, q4, q5, q6, q7] [(2, s0)] ds m Q = ((dk ds s0 = 5 ∧ WP 63 93 [q0, q1, q2, q3, q4, q5, q6, q7] [(2, m s0 8)] ds m Q)) := P_gd k63_90 rfl
set_option maxRecDepth 20000 in
theorem k63_93 : mjCode 63 93 = some (.iload_n 1, 1, 0, 0) := by decide +kernel
theorem p63_93 {l1 s0 : Int} {q0 q2 q3 q4 q5 q6 q7 : MV} {ds : Ds} {m : Mm} {Q : Ds → Mm → List MV → Prop} : WP 63 93 [q0, (0, l1), q2, q3, q4, q5, q6, q7] [(2, s0)] ds m Q = (WP 63 94 [q0, (0, l1), q2, q3, q4, q5, q6, q7] [(0, l1), (2, s0)] ds m Q) := P_nx k63_93 rfl
set_option maxRecDepth 20000 in
theorem k63_94 : mjCode 63 94 = some (.invokevirtual 202, 3, 25, 2) := by decide +kernel
theorem p63_94 {s0 s1 : Int} {q0 q1 q2 q3 q4 q5 q6 q7 : MV} {ds : Ds} {m : Mm} {Q : Ds → Mm → List MV → Prop} : WP 63 94 [q0, q1, q2, q3, q4, q5, q6, q7] [(0, s0), (2, s1)] ds m Q = ((dk ds s1 = 3 ∧ WP 24 0 [(2, s1), (0, s0)] [] ds m (fun d2 m2 r2 => WP 63 97 [q0, q1, q2, q3, q4, q5, q6, q7] (r2 ++ []) d2 m2 Q))) := P_cv k63_94 mx24 mo24 rfl rfl rfl rfl rfl rfl rfl rfl
set_option maxRecDepth 20000 in
theorem k63_97 : mjCode 63 97 = some (.tableswitch 274 1 7 #[43, 82, 101, 160, 190, 234, 264], 43, 0, 0) := by decide +kernel
theorem p63_97 {s0 : Int} {q0 q1 q2 q3 q4 q5 q6 q7 : MV} {ds : Ds} {m : Mm} {Q : Ds → Mm → List MV → Prop} : WP 63 97 [q0, q1, q2, q3, q4, q5, q6, q7] [(0, s0)] ds m Q = (if s0 = 1 then WP 63 140 [q0, q1, q2, q3, q4, q5, q6, q7] [] ds m Q else if s0 = 2 then WP 63 179 [q0, q1, q2, q3, q4, q5, q6, q7] [] ds m Q else if s0 = 3 then WP 63 198 [q0, q1, q2, q3, q4, q5, q6, q7] [] ds m Q else if s0 = 4 then WP 63 257 [q0, q1, q2, q3, q4, q5, q6, q7] [] ds m Q else if s0 = 5 then WP 63 287 [q0, q1, q2, q3, q4, q5, q6, q7] [] ds m Q else if s0 = 6 then WP 63 331 [q0, q1, q2, q3, q4, q5, q6, q7] [] ds m Q else if s0 = 7 then WP 63 361 [q0, q1, q2, q3, q4, q5, q6, q7] [] ds m Q else WP 63 371 [q0, q1, q2, q3, q4, q5, q6, q7] [] ds m Q) := by
  by_cases h1 : s0 = 1
  · subst h1
    rw [if_pos rfl]
    exact P_nx k63_97 rfl
  rw [if_neg h1]
  by_cases h2 : s0 = 2
  · subst h2
    rw [if_pos rfl]
    exact P_nx k63_97 rfl
  rw [if_neg h2]
  by_cases h3 : s0 = 3
  · subst h3
    rw [if_pos rfl]
    exact P_nx k63_97 rfl
  rw [if_neg h3]
  by_cases h4 : s0 = 4
  · subst h4
    rw [if_pos rfl]
    exact P_nx k63_97 rfl
  rw [if_neg h4]
  by_cases h5 : s0 = 5
  · subst h5
    rw [if_pos rfl]
    exact P_nx k63_97 rfl
  rw [if_neg h5]
  by_cases h6 : s0 = 6
  · subst h6
    rw [if_pos rfl]
    exact P_nx k63_97 rfl
  rw [if_neg h6]
  by_cases h7 : s0 = 7
  · subst h7
    rw [if_pos rfl]
    exact P_nx k63_97 rfl
  rw [if_neg h7]
  exact P_nx k63_97 (by simp only [stpI]; rw [if_pos (by omega)]; rfl)
set_option maxRecDepth 20000 in
theorem k63_140 : mjCode 63 140 = some (.aload_n 0, 1, 0, 0) := by decide +kernel
theorem p63_140 {l0 : Int} {q1 q2 q3 q4 q5 q6 q7 : MV} {ds : Ds} {m : Mm} {Q : Ds → Mm → List MV → Prop} : WP 63 140 [(2, l0), q1, q2, q3, q4, q5, q6, q7] [] ds m Q = (WP 63 141 [(2, l0), q1, q2, q3, q4, q5, q6, q7] [(2, l0)] ds m Q) := P_nx k63_140 rfl
set_option maxRecDepth 20000 in
theorem k63_141 : mjCode 63 141 = some (.getfield 28, 3, 5, 6) := by decide +kernel
theorem p63_141 {s0 : Int} {q0 q1 q2 q3 q4 q5 q6 q7 : MV} {ds : Ds} {m : Mm} {Q : Ds → Mm → List MV → Prop} : WP 63 141 [q0, q1, q2, q3, q4, q5, q6, q7] [(2, s0)] ds m Q = ((dk ds s0 = 5 ∧ WP 63 144 [q0, q1, q2, q3, q4, q5, q6, q7] [(2, m s0 6)] ds m Q)) := P_gd k63_141 rfl
set_option maxRecDepth 20000 in
theorem k63_144 : mjCode 63 144 = some (.iload_n 1, 1, 0, 0) := by decide +kernel
theorem p63_144 {l1 s0 : Int} {q0 q2 q3 q4 q5 q6 q7 : MV} {ds : Ds} {m : Mm} {Q : Ds → Mm → List MV → Prop} : WP 63 144 [q0, (0, l1), q2, q3, q4, q5, q6, q7] [(2, s0)] ds m Q = (WP 63 145 [q0, (0, l1), q2, q3, q4, q5, q6, q7] [(0, l1), (2, s0)] ds m Q) := P_nx k63_144 rfl
set_option maxRecDepth 20000 in
theorem k63_145 : mjCode 63 145 = some (.baload, 1, 0, 0) := by decide +kernel
theorem p63_145 {s0 s1 : Int} {q0 q1 q2 q3 q4 q5 q6 q7 : MV} {ds : Ds} {m : Mm} {Q : Ds → Mm → List MV → Prop} : WP 63 145 [q0, q1, q2, q3, q4, q5, q6, q7] [(0, s0), (2, s1)] ds m Q = ((dk ds s1 = 11 ∧ 0 ≤ s0 ∧ s0 < dl ds s1 ∧ WP 63 146 [q0, q1, q2, q3, q4, q5, q6, q7] [(0, m s1 s0)] ds m Q)) := P_g3 k63_145 rfl
set_option maxRecDepth 20000 in
theorem k63_146 : mjCode 63 146 = some (.ifCond .ne 225, 3, 371, 0) := by decide +kernel
theorem p63_146 {s0 : Int} {q0 q1 q2 q3 q4 q5 q6 q7 : MV} {ds : Ds} {m : Mm} {Q : Ds → Mm → List MV → Prop} : WP 63 146 [q0, q1, q2, q3, q4, q5, q6, q7] [(0, s0)] ds m Q = (if s0 = 0 then WP 63 149 [q0, q1, q2, q3, q4, q5, q6, q7] [] ds m Q else WP 63 371 [q0, q1, q2, q3, q4, q5, q6, q7] [] ds m Q) := P_if k63_146 rfl
set_option maxRecDepth 20000 in
theorem k63_149 : mjCode 63 149 = some (.iload_n 2, 1, 0, 0) := by decide +kernel
theorem p63_149 {l2 : Int} {q0 q1 q3 q4 q5 q6 q7 : MV} {ds : Ds} {m : Mm} {Q : Ds → Mm → List MV → Prop} : WP 63 149 [q0, q1, (0, l2), q3, q4, q5, q6, q7] [] ds m Q = (WP 63 150 [q0, q1, (0, l2), q3, q4, q5, q6, q7] [(0, l2)] ds m Q) := P_nx k63_149 rfl
set_option maxRecDepth 20000 in
theorem k63_150 : mjCode 63 150 = some (.iconst 2, 1, 0, 0) := by decide +kernel
theorem p63_150 {s0 : Int} {q0 q1 q2 q3 q4 q5 q6 q7 : MV} {ds : Ds} {m : Mm} {Q : Ds → Mm → List MV → Prop} : WP 63 150 [q0, q1, q2, q3, q4, q5, q6, q7] [(0, s0)] ds m Q = (WP 63 151 [q0, q1, q2, q3, q4, q5, q6, q7] [(0, 2), (0, s0)] ds m Q) := P_nx k63_150 rfl
set_option maxRecDepth 20000 in
theorem k63_151 : mjCode 63 151 = some (.irem, 1, 0, 0) := by decide +kernel
theorem p63_151 {s0 s1 : Int} {q0 q1 q2 q3 q4 q5 q6 q7 : MV} {ds : Ds} {m : Mm} {Q : Ds → Mm → List MV → Prop} : WP 63 151 [q0, q1, q2, q3, q4, q5, q6, q7] [(0, s0), (0, s1)] ds m Q = ((¬ s0 = 0 ∧ WP 63 152 [q0, q1, q2, q3, q4, q5, q6, q7] [(0, jrem s1 s0)] ds m Q)) := P_dv k63_151 rfl
set_option maxRecDepth 20000 in
theorem k63_152 : mjCode 63 152 = some (.iload 5, 2, 0, 0) := by decide +kernel
theorem p63_152 {l5 s0 : Int} {q0 q1 q2 q3 q4 q6 q7 : MV} {ds : Ds} {m : Mm} {Q : Ds → Mm → List MV → Prop} : WP 63 152 [q0, q1, q2, q3, q4, (0, l5), q6, q7] [(0, s0)] ds m Q = (WP 63 154 [q0, q1, q2, q3, q4, (0, l5), q6, q7] [(0, l5), (0, s0)] ds m Q) := P_nx k63_152 rfl
set_option maxRecDepth 20000 in
theorem k63_154 : mjCode 63 154 = some (.if_icmp .ne 217, 3, 371, 0) := by decide +kernel
theorem p63_154 {s0 s1 : Int} {q0 q1 q2 q3 q4 q5 q6 q7 : MV} {ds : Ds} {m : Mm} {Q : Ds → Mm → List MV → Prop} : WP 63 154 [q0, q1, q2, q3, q4, q5, q6, q7] [(0, s0), (0, s1)] ds m Q = (if s1 = s0 then WP 63 157 [q0, q1, q2, q3, q4, q5, q6, q7] [] ds m Q else WP 63 371 [q0, q1, q2, q3, q4, q5, q6, q7] [] ds m Q) := P_if k63_154 rfl
set_option maxRecDepth 20000 in
theorem k63_157 : mjCode 63 157 = some (.aload_n 0, 1, 0, 0) := by decide +kernel
theorem p63_157 {l0 : Int} {q1 q2 q3 q4 q5 q6 q7 : MV} {ds : Ds} {m : Mm} {Q : Ds → Mm → List MV → Prop} : WP 63 157 [(2, l0), q1, q2, q3, q4, q5, q6, q7] [] ds m Q = (WP 63 158 [(2, l0), q1, q2, q3, q4, q5, q6, q7] [(2, l0)] ds m Q) := P_nx k63_157 rfl
set_option maxRecDepth 20000 in
theorem k63_158 : mjCode 63 158 = some (.getfield 28, 3, 5, 6) := by decide +kernel
theorem p63_158 {s0 : Int} {q0 q1 q2 q3 q4 q5 q6 q7 : MV} {ds : Ds} {m : Mm} {Q : Ds → Mm → List MV → Prop} : WP 63 158 [q0, q1, q2, q3, q4, q5, q6, q7] [(2, s0)] ds m Q = ((dk ds s0 = 5 ∧ WP 63 161 [q0, q1, q2, q3, q4, q5, q6, q7] [(2, m s0 6)] ds m Q)) := P_gd k63_158 rfl
set_option maxRecDepth 20000 in
theorem k63_161 : mjCode 63 161 = some (.iload_n 1, 1, 0, 0) := by decide +kernel
theorem p63_161 {l1 s0 : Int} {q0 q2 q3 q4 q5 q6 q7 : MV} {ds : Ds} {m : Mm} {Q : Ds → Mm → List MV → Prop} : WP 63 161 [q0, (0, l1), q2, q3, q4, q5, q6, q7] [(2, s0)] ds m Q = (WP 63 162 [q0, (0, l1), q2, q3, q4, q5, q6, q7] [(0, l1), (2, s0)] ds m Q) := P_nx k63_161 rfl
set_option maxRecDepth 20000 in
theorem k63_162 : mjCode 63 162 = some (.iconst 1, 1, 0, 0) := by decide +kernel
theorem p63_162 {s0 s1 : Int} {q0 q1 q2 q3 q4 q5 q6 q7 : MV} {ds : Ds} {m : Mm} {Q : Ds → Mm → List MV → Prop} : WP 63 162 [q0, q1, q2, q3, q4, q5, q6, q7] [(0, s0), (2, s1)] ds m Q = (WP 63 163 [q0, q1, q2, q3, q4, q5, q6, q7] [(0, 1), (0, s0), (2, s1)] ds m Q) := P_nx k63_162 rfl
set_option maxRecDepth 20000 in
theorem k63_163 : mjCode 63 163 = some (.bastore, 1, 0, 0) := by decide +kernel
theorem p63_163 {s0 s1 s2 : Int} {q0 q1 q2 q3 q4 q5 q6 q7 : MV} {ds : Ds} {m : Mm} {Q : Ds → Mm → List MV → Prop} : WP 63 163 [q0, q1, q2, q3, q4, q5, q6, q7] [(0, s0), (0, s1), (2, s2)] ds m Q = (((s0 = 0 ∨ s0 = 1) ∧ dk ds s2 = 11 ∧ 0 ≤ s1 ∧ s1 < dl ds s2 ∧ WP 63 164 [q0, q1, q2, q3, q4, q5, q6, q7] [] ds (up m s2 s1 s0) Q)) := P_s4 k63_163 rfl
set_option maxRecDepth 20000 in
theorem k63_164 : mjCode 63 164 = some (.aload_n 0, 1, 0, 0) := by decide +kernel
theorem p63_164 {l0 : Int} {q1 q2 q3 q4 q5 q6 q7 : MV} {ds : Ds} {m : Mm} {Q : Ds → Mm → List MV → Prop} : WP 63 164 [(2, l0), q1, q2, q3, q4, q5, q6, q7] [] ds m Q = (WP 63 165 [(2, l0), q1, q2, q3, q4, q5, q6, q7] [(2, l0)] ds m Q) := P_nx k63_164 rfl
set_option maxRecDepth 20000 in
theorem k63_165 : mjCode 63 165 = some (.iconst 2, 1, 0, 0) := by decide +kernel
theorem p63_165 {s0 : Int} {q0 q1 q2 q3 q4 q5 q6 q7 : MV} {ds : Ds} {m : Mm} {Q : Ds → Mm → List MV → Prop} : WP 63 165 [q0, q1, q2, q3, q4, q5, q6, q7] [(2, s0)] ds m Q = (WP 63 166 [q0, q1, q2, q3, q4, q5, q6, q7] [(0, 2), (2, s0)] ds m Q) := P_nx k63_165 rfl
set_option maxRecDepth 20000 in
theorem k63_166 : mjCode 63 166 = some (.iload_n 1, 1, 0, 0) := by decide +kernel
theorem p63_166 {l1 s0 s1 : Int} {q0 q2 q3 q4 q5 q6 q7 : MV} {ds : Ds} {m : Mm} {Q : Ds → Mm → List MV → Prop} : WP 63 166 [q0, (0, l1), q2, q3, q4, q5, q6, q7] [(0, s0), (2, s1)] ds m Q = (WP 63 167 [q0, (0, l1), q2, q3, q4, q5, q6, q7] [(0, l1), (0, s0), (2, s1)] ds m Q) := P_nx k63_166 rfl
set_option maxRecDepth 20000 in
theorem k63_167 : mjCode 63 167 = some (.iload_n 2, 1, 0, 0) := by decide +kernel
theorem p63_167 {l2 s0 s1 s2 : Int} {q0 q1 q3 q4 q5 q6 q7 : MV} {ds : Ds} {m : Mm} {Q : Ds → Mm → List MV → Prop} : WP 63 167 [q0, q1, (0, l2), q3, q4, q5, q6, q7] [(0, s0), (0, s1), (2, s2)] ds m Q = (WP 63 168 [q0, q1, (0, l2), q3, q4, q5, q6, q7] [(0, l2), (0, s0), (0, s1), (2, s2)] ds m Q) := P_nx k63_167 rfl
set_option maxRecDepth 20000 in
theorem k63_168 : mjCode 63 168 = some (.invokestatic 159, 3, 111, 1) := by decide +kernel
theorem p63_168 {s0 s1 s2 s3 : Int} {q0 q1 q2 q3 q4 q5 q6 q7 : MV} {ds : Ds} {m : Mm} {Q : Ds → Mm → List MV → Prop} : WP 63 168 [q0, q1, q2, q3, q4, q5, q6, q7] [(0, s0), (0, s1), (0, s2), (2, s3)] ds m Q = (WP 110 0 [(0, s0)] [] ds m (fun d2 m2 r2 => WP 63 171 [q0, q1, q2, q3, q4, q5, q6, q7] (r2 ++ [(0, s1), (0, s2), (2, s3)]) d2 m2 Q)) := P_cs k63_168 mx110 rfl rfl rfl rfl rfl rfl rfl
set_option maxRecDepth 20000 in
theorem k63_171 : mjCode 63 171 = some (.iload_n 3, 1, 0, 0) := by decide +kernel
theorem p63_171 {l3 s0 s1 s2 s3 : Int} {q0 q1 q2 q4 q5 q6 q7 : MV} {ds : Ds} {m : Mm} {Q : Ds → Mm → List MV → Prop} : WP 63 171 [q0, q1, q2, (0, l3), q4, q5, q6, q7] [(0, s0), (0, s1), (0, s2), (2, s3)] ds m Q = (WP 63 172 [q0, q1, q2, (0, l3), q4, q5, q6, q7] [(0, l3), (0, s0), (0, s1), (0, s2), (2, s3)] ds m Q) := P_nx k63_171 rfl
set_option maxRecDepth 20000 in
theorem k63_172 : mjCode 63 172 = some (.iconst 1, 1, 0, 0) := by decide +kernel
theorem p63_172 {s0 s1 s2 s3 s4 : Int} {q0 q1 q2 q3 q4 q5 q6 q7 : MV} {ds : Ds} {m : Mm} {Q : Ds → Mm → List MV → Prop} : WP 63 172 [q0, q1, q2, q3, q4, q5, q6, q7] [(0, s0), (0, s1), (0, s2), (0, s3), (2, s4)] ds m Q = (WP 63 173 [q0, q1, q2, q3, q4, q5, q6, q7] [(0, 1), (0, s0), (0, s1), (0, s2), (0, s3), (2, s4)] ds m Q) := P_nx k63_172 rfl
set_option maxRecDepth 20000 in
theorem k63_173 : mjCode 63 173 = some (.invokevirtual 217, 3, 65, 6) := by decide +kernel
theorem p63_173 {s0 s1 s2 s3 s4 s5 : Int} {q0 q1 q2 q3 q4 q5 q6 q7 : MV} {ds : Ds} {m : Mm} {Q : Ds → Mm → List MV → Prop} : WP 63 173 [q0, q1, q2, q3, q4, q5, q6, q7] [(0, s0), (0, s1), (0, s2), (0, s3), (0, s4), (2, s5)] ds m Q = ((dk ds s5 = 5 ∧ WP 64 0 [(2, s5), (0, s4), (0, s3), (0, s2), (0, s1), (0, s0), (3, 0)] [] ds m (fun d2 m2 r2 => WP 63 176 [q0, q1, q2, q3, q4, q5, q6, q7] (r2 ++ []) d2 m2 Q))) := P_cv k63_173 mx64 mo64 rfl rfl rfl rfl rfl rfl rfl rfl
set_option maxRecDepth 20000 in
theorem k63_176 : mjCode 63 176 = some (.goto 195, 3, 371, 0) := by decide +kernel
theorem p63_176 {q0 q1 q2 q3 q4 q5 q6 q7 : MV} {ds : Ds} {m : Mm} {Q : Ds → Mm → List MV → Prop} : WP 63 176 [q0, q1, q2, q3, q4, q5, q6, q7] [] ds m Q = (WP 63 371 [q0, q1, q2, q3, q4, q5, q6, q7] [] ds m Q) := P_nx k63_176 rfl
set_option maxRecDepth 20000 in
theorem k63_179 : mjCode 63 179 = some (.iload_n 2, 1, 0, 0) := by decide +kernel
theorem p63_179 {l2 : Int} {q0 q1 q3 q4 q5 q6 q7 : MV} {ds : Ds} {m : Mm} {Q : Ds → Mm → List MV → Prop} : WP 63 179 [q0, q1, (0, l2), q3, q4, q5, q6, q7] [] ds m Q = (WP 63 180 [q0, q1, (0, l2), q3, q4, q5, q6, q7] [(0, l2)] ds m Q) := P_nx k63_179 rfl
set_option maxRecDepth 20000 in
theorem k63_180 : mjCode 63 180 = some (.iload 5, 2, 0, 0) := by decide +kernel
theorem p63_180 {l5 s0 : Int} {q0 q1 q2 q3 q4 q6 q7 : MV} {ds : Ds} {m : Mm} {Q : Ds → Mm → List MV → Prop} : WP 63 180 [q0, q1, q2, q3, q4, (0, l5), q6, q7] [(0, s0)] ds m Q = (WP 63 182 [q0, q1, q2, q3, q4, (0, l5), q6, q7] [(0, l5), (0, s0)] ds m Q) := P_nx k63_180 rfl
set_option maxRecDepth 20000 in
theorem k63_182 : mjCode 63 182 = some (.if_icmp .eq 189, 3, 371, 0) := by decide +kernel
theorem p63_182 {s0 s1 : Int} {q0 q1 q2 q3 q4 q5 q6 q7 : MV} {ds : Ds} {m : Mm} {Q : Ds → Mm → List MV → Prop} : WP 63 182 [q0, q1, q2, q3, q4, q5, q6, q7] [(0, s0), (0, s1)] ds m Q = (if s1 = s0 then WP 63 371 [q0, q1, q2, q3, q4, q5, q6, q7] [] ds m Q else WP 63 185 [q0, q1, q2, q3, q4, q5, q6, q7] [] ds m Q) := P_if k63_182 rfl
set_option maxRecDepth 20000 in
theorem k63_185 : mjCode 63 185 = some (.aload_n 0, 1, 0, 0) := by decide +kernel
theorem p63_185 {l0 : Int} {q1 q2 q3 q4 q5 q6 q7 : MV} {ds : Ds} {m : Mm} {Q : Ds → Mm → List MV → Prop} : WP 63 185 [(2, l0), q1, q2, q3, q4, q5, q6, q7] [] ds m Q = (WP 63 186 [(2, l0), q1, q2, q3, q4, q5, q6, q7] [(2, l0)] ds m Q) := P_nx k63_185 rfl
set_option maxRecDepth 20000 in
theorem k63_186 : mjCode 63 186 = some (.iconst 1, 1, 0, 0) := by decide +kernel
theorem p63_186 {s0 : Int} {q0 q1 q2 q3 q4 q5 q6 q7 : MV} {ds : Ds} {m : Mm} {Q : Ds → Mm → List MV → Prop} : WP 63 186 [q0, q1, q2, q3, q4, q5, q6, q7] [(2, s0)] ds m Q = (WP 63 187 [q0, q1, q2, q3, q4, q5, q6, q7] [(0, 1), (2, s0)] ds m Q) := P_nx k63_186 rfl
set_option maxRecDepth 20000 in
theorem k63_187 : mjCode 63 187 = some (.iload_n 1, 1, 0, 0) := by decide +kernel
theorem p63_187 {l1 s0 s1 : Int} {q0 q2 q3 q4 q5 q6 q7 : MV} {ds : Ds} {m : Mm} {Q : Ds → Mm → List MV → Prop} : WP 63 187 [q0, (0, l1), q2, q3, q4, q5, q6, q7] [(0, s0), (2, s1)] ds m Q = (WP 63 188 [q0, (0, l1), q2, q3, q4, q5, q6, q7] [(0, l1), (0, s0), (2, s1)] ds m Q) := P_nx k63_187 rfl
set_option maxRecDepth 20000 in
theorem k63_188 : mjCode 63 188 = some (.iload 5, 2, 0, 0) := by decide +kernel
theorem p63_188 {l5 s0 s1 s2 : Int} {q0 q1 q2 q3 q4 q6 q7 : MV} {ds : Ds} {m : Mm} {Q : Ds → Mm → List MV → Prop} : WP 63 188 [q0, q1, q2, q3, q4, (0, l5), q6, q7] [(0, s0), (0, s1), (2, s2)] ds m Q = (WP 63 190 [q0, q1, q2, q3, q4, (0, l5), q6, q7] [(0, l5), (0, s0), (0, s1), (2, s2)] ds m Q) := P_nx k63_188 rfl
set_option maxRecDepth 20000 in
theorem k63_190 : mjCode 63 190 = some (.iload_n 3, 1, 0, 0) := by decide +kernel
theorem p63_190 {l3 s0 s1 s2 s3 : Int} {q0 q1 q2 q4 q5 q6 q7 : MV} {ds : Ds} {m : Mm} {Q : Ds → Mm → List MV → Prop} : WP 63 190 [q0, q1, q2, (0, l3), q4, q5, q6, q7] [(0, s0), (0, s1), (0, s2), (2, s3)] ds m Q = (WP 63 191 [q0, q1, q2, (0, l3), q4, q5, q6, q7] [(0, l3), (0, s0), (0, s1), (0, s2), (2, s3)] ds m Q) := P_nx k63_190 rfl
set_option maxRecDepth 20000 in
theorem k63_191 : mjCode 63 191 = some (.iconst 0, 1, 0, 0) := by decide +kernel
theorem p63_191 {s0 s1 s2 s3 s4 : Int} {q0 q1 q2 q3 q4 q5 q6 q7 : MV} {ds : Ds} {m : Mm} {Q : Ds → Mm → List MV → Prop} : WP 63 191 [q0, q1, q2, q3, q4, q5, q6, q7] [(0, s0), (0, s1), (0, s2), (0, s3), (2, s4)] ds m Q = (WP 63 192 [q0, q1, q2, q3, q4, q5, q6, q7] [(0, 0), (0, s0), (0, s1), (0, s2), (0, s3), (2, s4)] ds m Q) := P_nx k63_191 rfl
set_option maxRecDepth 20000 in
theorem k63_192 : mjCode 63 192 = some (.invokevirtual 217, 3, 65, 6) := by decide +kernel
theorem p63_192 {s0 s1 s2 s3 s4 s5 : Int} {q0 q1 q2 q3 q4 q5 q6 q7 : MV} {ds : Ds} {m : Mm} {Q : Ds → Mm → List MV → Prop} : WP 63 192 [q0, q1, q2, q3, q4, q5, q6, q7] [(0, s0), (0, s1), (0, s2), (0, s3), (0, s4), (2, s5)] ds m Q = ((dk ds s5 = 5 ∧ WP 64 0 [(2, s5), (0, s4), (0, s3), (0, s2), (0, s1), (0, s0), (3, 0)] [] ds m (fun d2 m2 r2 => WP 63 195 [q0, q1, q2, q3, q4, q5, q6, q7] (r2 ++ []) d2 m2 Q))) := P_cv k63_192 mx64 mo64 rfl rfl rfl rfl rfl rfl rfl rfl
set_option maxRecDepth 20000 in
theorem k63_195 : mjCode 63 195 = some (.goto 176, 3, 371, 0) := by decide +kernel
theorem p63_195 {q0 q1 q2 q3 q4 q5 q6 q7 : MV} {ds : Ds} {m : Mm} {Q : Ds → Mm → List MV → Prop} : WP 63 195 [q0, q1, q2, q3, q4, q5, q6, q7] [] ds m Q = (WP 63 371 [q0, q1, q2, q3, q4, q5, q6, q7] [] ds m Q) := P_nx k63_195 rfl
set_option maxRecDepth 20000 in
theorem k63_198 : mjCode 63 198 = some (.aload_n 0, 1, 0, 0) := by decide +kernel
theorem p63_198 {l0 : Int} {q1 q2 q3 q4 q5 q6 q7 : MV} {ds : Ds} {m : Mm} {Q : Ds → Mm → List MV → Prop} : WP 63 198 [(2, l0), q1, q2, q3, q4, q5, q6, q7] [] ds m Q = (WP 63 199 [(2, l0), q1, q2, q3, q4, q5, q6, q7] [(2, l0)] ds m Q) := P_nx k63_198 rfl
set_option maxRecDepth 20000 in
theorem k63_199 : mjCode 63 199 = some (.getfield 35, 3, 5, 8) := by decide +kernel
theorem p63_199 {s0 : Int} {q0 q1 q2 q3 q4 q5 q6 q7 : MV} {ds : Ds} {m : Mm} {Q : Ds → Mm → List MV → Prop} : WP 63 199 [q0, q1, q2, q3, q4, q5, q6, q7] [(2, s0)] ds m Q = ((dk ds s0 = 5 ∧ WP 63 202 [q0, q1, q2, q3, q4, q5, q6, q7] [(2, m s0 8)] ds m Q)) := P_gd k63_199 rfl
set_option maxRecDepth 20000 in
theorem k63_202 : mjCode 63 202 = some (.iload_n 1, 1, 0, 0) := by decide +kernel
theorem p63_202 {l1 s0 : Int} {q0 q2 q3 q4 q5 q6 q7 : MV} {ds : Ds} {m : Mm} {Q : Ds → Mm → List MV → Prop} : WP 63 202 [q0, (0, l1), q2, q3, q4, q5, q6, q7] [(2, s0)] ds m Q = (WP 63 203 [q0, (0, l1), q2, q3, q4, q5, q6, q7] [(0, l1), (2, s0)] ds m Q) := P_nx k63_202 rfl
set_option maxRecDepth 20000 in
theorem k63_203 : mjCode 63 203 = some (.invokevirtual 221, 3, 28, 2) := by decide +kernel
theorem p63_203 {s0 s1 : Int} {q0 q1 q2 q3 q4 q5 q6 q7 : MV} {ds : Ds} {m : Mm} {Q : Ds → Mm → List MV → Prop} : WP 63 203 [q0, q1, q2, q3, q4, q5, q6, q7] [(0, s0), (2, s1)] ds m Q = ((dk ds s1 = 3 ∧ WP 27 0 [(2, s1), (0, s0)] [] ds m (fun d2 m2 r2 => WP 63 206 [q0, q1, q2, q3, q4, q5, q6, q7] (r2 ++ []) d2 m2 Q))) := P_cv k63_203 mx27 mo27 rfl rfl rfl rfl rfl rfl rfl rfl
set_option maxRecDepth 20000 in
theorem k63_206 : mjCode 63 206 = some (.istore 6, 2, 0, 0) := by decide +kernel
theorem p63_206 {l5 s0 : Int} {q0 q1 q2 q3 q4 q6 q7 : MV} {ds : Ds} {m : Mm} {Q : Ds → Mm → List MV → Prop} : WP 63 206 [q0, q1, q2, q3, q4, (0, l5), q6, q7] [(0, s0)] ds m Q = (WP 63 208 [q0, q1, q2, q3, q4, (0, l5), (0, s0), q7] [] ds m Q) := P_nx k63_206 rfl
set_option maxRecDepth 20000 in
theorem k63_208 : mjCode 63 208 = some (.iload 6, 2, 0, 0) := by decide +kernel
theorem p63_208 {l6 : Int} {q0 q1 q2 q3 q4 q5 q7 : MV} {ds : Ds} {m : Mm} {Q : Ds → Mm → List MV → Prop} : WP 63 208 [q0, q1, q2, q3, q4, q5, (0, l6), q7] [] ds m Q = (WP 63 210 [q0, q1, q2, q3, q4, q5, (0, l6), q7] [(0, l6)] ds m Q) := P_nx k63_208 rfl
set_option maxRecDepth 20000 in
theorem k63_210 : mjCode 63 210 = some (.invokestatic 75, 3, 108, 1) := by decide +kernel
theorem p63_210 {s0 : Int} {q0 q1 q2 q3 q4 q5 q6 q7 : MV} {ds : Ds} {m : Mm} {Q : Ds → Mm → List MV → Prop} : WP 63 210 [q0, q1, q2, q3, q4, q5, q6, q7] [(0, s0)] ds m Q = (WP 107 0 [(0, s0)] [] ds m (fun d2 m2 r2 => WP 63 213 [q0, q1, q2, q3, q4, q5, q6, q7] (r2 ++ []) d2 m2 Q)) := P_cs k63_210 mx107 rfl rfl rfl rfl rfl rfl rfl
set_option maxRecDepth 20000 in
theorem k63_213 : mjCode 63 213 = some (.ifCond .eq 158, 3, 371, 0) := by decide +kernel
theorem p63_213 {s0 : Int} {q0 q1 q2 q3 q4 q5 q6 q7 : MV} {ds : Ds} {m : Mm} {Q : Ds → Mm → List MV → Prop} : WP 63 213 [q0, q1, q2, q3, q4, q5, q6, q7] [(0, s0)] ds m Q = (if s0 = 0 then WP 63 371 [q0, q1, q2, q3, q4, q5, q6, q7] [] ds m Q else WP 63 216 [q0, q1, q2, q3, q4, q5, q6, q7] [] ds m Q) := P_if k63_213 rfl
set_option maxRecDepth 20000 in
theorem k63_216 : mjCode 63 216 = some (.aload_n 0, 1, 0, 0) := by decide +kernel
theorem p63_216 {l0 : Int} {q1 q2 q3 q4 q5 q6 q7 : MV} {ds : Ds} {m : Mm} {Q : Ds → Mm → List MV → Prop} : WP 63 216 [(2, l0), q1, q2, q3, q4, q5, q6, q7] [] ds m Q = (WP 63 217 [(2, l0), q1, q2, q3, q4, q5, q6, q7] [(2, l0)] ds m Q) := P_nx k63_216 rfl
set_option maxRecDepth 20000 in
theorem k63_217 : mjCode 63 217 = some (.getfield 18, 3, 5, 3) := by decide +kernel
theorem p63_217 {s0 : Int} {q0 q1 q2 q3 q4 q5 q6 q7 : MV} {ds : Ds} {m : Mm} {Q : Ds → Mm → List MV → Prop} : WP 63 217 [q0, q1, q2, q3, q4, q5, q6, q7] [(2, s0)] ds m Q = ((dk ds s0 = 5 ∧ WP 63 220 [q0, q1, q2, q3, q4, q5, q6, q7] [(2, m s0 3)] ds m Q)) := P_gd k63_217 rfl
set_option maxRecDepth 20000 in
theorem k63_220 : mjCode 63 220 = some (.iload_n 1, 1, 0, 0) := by decide +kernel
theorem p63_220 {l1 s0 : Int} {q0 q2 q3 q4 q5 q6 q7 : MV} {ds : Ds} {m : Mm} {Q : Ds → Mm → List MV → Prop} : WP 63 220 [q0, (0, l1), q2, q3, q4, q5, q6, q7] [(2, s0)] ds m Q = (WP 63 221 [q0, (0, l1), q2, q3, q4, q5, q6, q7] [(0, l1), (2, s0)] ds m Q) := P_nx k63_220 rfl
set_option maxRecDepth 20000 in
theorem k63_221 : mjCode 63 221 = some (.iaload, 1, 0, 0) := by decide +kernel
theorem p63_221 {s0 s1 : Int} {q0 q1 q2 q3 q4 q5 q6 q7 : MV} {ds : Ds} {m : Mm} {Q : Ds → Mm → List MV → Prop} : WP 63 221 [q0, q1, q2, q3, q4, q5, q6, q7] [(0, s0), (2, s1)] ds m Q = ((dk ds s1 = 10 ∧ 0 ≤ s0 ∧ s0 < dl ds s1 ∧ WP 63 222 [q0, q1, q2, q3, q4, q5, q6, q7] [(0, m s1 s0)] ds m Q)) := P_g3 k63_221 rfl
set_option maxRecDepth 20000 in
theorem k63_222 : mjCode 63 222 = some (.iconst 1, 1, 0, 0) := by decide +kernel
theorem p63_222 {s0 : Int} {q0 q1 q2 q3 q4 q5 q6 q7 : MV} {ds : Ds} {m : Mm} {Q : Ds → Mm → List MV → Prop} : WP 63 222 [q0, q1, q2, q3, q4, q5, q6, q7] [(0, s0)] ds m Q = (WP 63 223 [q0, q1, q2, q3, q4, q5, q6, q7] [(0, 1), (0, s0)] ds m Q) := P_nx k63_222 rfl
set_option maxRecDepth 20000 in
theorem k63_223 : mjCode 63 223 = some (.if_icmp .ne 148, 3, 371, 0) := by decide +kernel
theorem p63_223 {s0 s1 : Int} {q0 q1 q2 q3 q4 q5 q6 q7 : MV} {ds : Ds} {m : Mm} {Q : Ds → Mm → List MV → Prop} : WP 63 223 [q0, q1, q2, q3, q4, q5, q6, q7] [(0, s0), (0, s1)] ds m Q = (if s1 = s0 then WP 63 226 [q0, q1, q2, q3, q4, q5, q6, q7] [] ds m Q else WP 63 371 [q0, q1, q2, q3, q4, q5, q6, q7] [] ds m Q) := P_if k63_223 rfl
set_option maxRecDepth 20000 in
theorem k63_226 : mjCode 63 226 = some (.aload_n 0, 1, 0, 0) := by decide +kernel
theorem p63_226 {l0 : Int} {q1 q2 q3 q4 q5 q6 q7 : MV} {ds : Ds} {m : Mm} {Q : Ds → Mm → List MV → Prop} : WP 63 226 [(2, l0), q1, q2, q3, q4, q5, q6, q7] [] ds m Q = (WP 63 227 [(2, l0), q1, q2, q3, q4, q5, q6, q7] [(2, l0)] ds m Q) := P_nx k63_226 rfl
set_option maxRecDepth 20000 in
theorem k63_227 : mjCode 63 227 = some (.getfield 18, 3, 5, 3) := by decide +kernel
theorem p63_227 {s0 : Int} {q0 q1 q2 q3 q4 q5 q6 q7 : MV} {ds : Ds} {m : Mm} {Q : Ds → Mm → List MV → Prop} : WP 63 227 [q0, q1, q2, q3, q4, q5, q6, q7] [(2, s0)] ds m Q = ((dk ds s0 = 5 ∧ WP 63 230 [q0, q1, q2, q3, q4, q5, q6, q7] [(2, m s0 3)] ds m Q)) := P_gd k63_227 rfl
set_option maxRecDepth 20000 in
theorem k63_230 : mjCode 63 230 = some (.iload 6, 2, 0, 0) := by decide +kernel
theorem p63_230 {l6 s0 : Int} {q0 q1 q2 q3 q4 q5 q7 : MV} {ds : Ds} {m : Mm} {Q : Ds → Mm → List MV → Prop} : WP 63 230 [q0, q1, q2, q3, q4, q5, (0, l6), q7] [(2, s0)] ds m Q = (WP 63 232 [q0, q1, q2, q3, q4, q5, (0, l6), q7] [(0, l6), (2, s0)] ds m Q) := P_nx k63_230 rfl
set_option maxRecDepth 20000 in
theorem k63_232 : mjCode 63 232 = some (.iaload, 1, 0, 0) := by decide +kernel
theorem p63_232 {s0 s1 : Int} {q0 q1 q2 q3 q4 q5 q6 q7 : MV} {ds : Ds} {m : Mm} {Q : Ds → Mm → List MV → Prop} : WP 63 232 [q0, q1, q2, q3, q4, q5, q6, q7] [(0, s0), (2, s1)] ds m Q = ((dk ds s1 = 10 ∧ 0 ≤ s0 ∧ s0 < dl ds s1 ∧ WP 63 233 [q0, q1, q2, q3, q4, q5, q6, q7] [(0, m s1 s0)] ds m Q)) := P_g3 k63_232 rfl
set_option maxRecDepth 20000 in
theorem k63_233 : mjCode 63 233 = some (.ifCond .ne 138, 3, 371, 0) := by decide +kernel
theorem p63_233 {s0 : Int} {q0 q1 q2 q3 q4 q5 q6 q7 : MV} {ds : Ds} {m : Mm} {Q : Ds → Mm → List MV → Prop} : WP 63 233 [q0, q1, q2, q3, q4, q5, q6, q7] [(0, s0)] ds m Q = (if s0 = 0 then WP 63 236 [q0, q1, q2, q3, q4, q5, q6, q7] [] ds m Q else WP 63 371 [q0, q1, q2, q3, q4, q5, q6, q7] [] ds m Q) := P_if k63_233 rfl
set_option maxRecDepth 20000 in
theorem k63_236 : mjCode 63 236 = some (.aload_n 0, 1, 0, 0) := by decide +kernel
theorem p63_236 {l0 : Int} {q1 q2 q3 q4 q5 q6 q7 : MV} {ds : Ds} {m : Mm} {Q : Ds → Mm → List MV → Prop} : WP 63 236 [(2, l0), q1, q2, q3, q4, q5, q6, q7] [] ds m Q = (WP 63 237 [(2, l0), q1, q2, q3, q4, q5, q6, q7] [(2, l0)] ds m Q) := P_nx k63_236 rfl
set_option maxRecDepth 20000 in
theorem k63_237 : mjCode 63 237 = some (.iconst 1, 1, 0, 0) := by decide +kernel
theorem p63_237 {s0 : Int} {q0 q1 q2 q3 q4 q5 q6 q7 : MV} {ds : Ds} {m : Mm} {Q : Ds → Mm → List MV → Prop} : WP 63 237 [q0, q1, q2, q3, q4, q5, q6, q7] [(2, s0)] ds m Q = (WP 63 238 [q0, q1, q2, q3, q4, q5, q6, q7] [(0, 1), (2, s0)] ds m Q) := P_nx k63_237 rfl
set_option maxRecDepth 20000 in
theorem k63_238 : mjCode 63 238 = some (.iload 6, 2, 0, 0) := by decide +kernel
theorem p63_238 {l6 s0 s1 : Int} {q0 q1 q2 q3 q4 q5 q7 : MV} {ds : Ds} {m : Mm} {Q : Ds → Mm → List MV → Prop} : WP 63 238 [q0, q1, q2, q3, q4, q5, (0, l6), q7] [(0, s0), (2, s1)] ds m Q = (WP 63 240 [q0, q1, q2, q3, q4, q5, (0, l6), q7] [(0, l6), (0, s0), (2, s1)] ds m Q) := P_nx k63_238 rfl
set_option maxRecDepth 20000 in
theorem k63_240 : mjCode 63 240 = some (.aload_n 0, 1, 0, 0) := by decide +kernel
theorem p63_240 {l0 s0 s1 s2 : Int} {q1 q2 q3 q4 q5 q6 q7 : MV} {ds : Ds} {m : Mm} {Q : Ds → Mm → List MV → Prop} : WP 63 240 [(2, l0), q1, q2, q3, q4, q5, q6, q7] [(0, s0), (0, s1), (2, s2)] ds m Q = (WP 63 241 [(2, l0), q1, q2, q3, q4, q5, q6, q7] [(2, l0), (0, s0), (0, s1), (2, s2)] ds m Q) := P_nx k63_240 rfl
set_option maxRecDepth 20000 in
theorem k63_241 : mjCode 63 241 = some (.getfield 35, 3, 5, 8) := by decide +kernel
theorem p63_241 {s0 s1 s2 s3 : Int} {q0 q1 q2 q3 q4 q5 q6 q7 : MV} {ds : Ds} {m : Mm} {Q : Ds → Mm → List MV → Prop} : WP 63 241 [q0, q1, q2, q3, q4, q5, q6, q7] [(2, s0), (0, s1), (0, s2), (2, s3)] ds m Q = ((dk ds s0 = 5 ∧ WP 63 244 [q0, q1, q2, q3, q4, q5, q6, q7] [(2, m s0 8), (0, s1), (0, s2), (2, s3)] ds m Q)) := P_gd k63_241 rfl
set_option maxRecDepth 20000 in
theorem k63_244 : mjCode 63 244 = some (.iload 6, 2, 0, 0) := by decide +kernel
theorem p63_244 {l6 s0 s1 s2 s3 : Int} {q0 q1 q2 q3 q4 q5 q7 : MV} {ds : Ds} {m : Mm} {Q : Ds → Mm → List MV → Prop} : WP 63 244 [q0, q1, q2, q3, q4, q5, (0, l6), q7] [(2, s0), (0, s1), (0, s2), (2, s3)] ds m Q = (WP 63 246 [q0, q1, q2, q3, q4, q5, (0, l6), q7] [(0, l6), (2, s0), (0, s1), (0, s2), (2, s3)] ds m Q) := P_nx k63_244 rfl
set_option maxRecDepth 20000 in
theorem k63_246 : mjCode 63 246 = some (.invokevirtual 214, 3, 26, 2) := by decide +kernel
theorem p63_246 {s0 s1 s2 s3 s4 : Int} {q0 q1 q2 q3 q4 q5 q6 q7 : MV} {ds : Ds} {m : Mm} {Q : Ds → Mm → List MV → Prop} : WP 63 246 [q0, q1, q2, q3, q4, q5, q6, q7] [(0, s0), (2, s1), (0, s2), (0, s3), (2, s4)] ds m Q = ((dk ds s1 = 3 ∧ WP 25 0 [(2, s1), (0, s0)] [] ds m (fun d2 m2 r2 => WP 63 249 [q0, q1, q2, q3, q4, q5, q6, q7] (r2 ++ [(0, s2), (0, s3), (2, s4)]) d2 m2 Q))) := P_cv k63_246 mx25 mo25 rfl rfl rfl rfl rfl rfl rfl rfl
set_option maxRecDepth 20000 in
theorem k63_249 : mjCode 63 249 = some (.iload_n 3, 1, 0, 0) := by decide +kernel
theorem p63_249 {l3 s0 s1 s2 s3 : Int} {q0 q1 q2 q4 q5 q6 q7 : MV} {ds : Ds} {m : Mm} {Q : Ds → Mm → List MV → Prop} : WP 63 249 [q0, q1, q2, (0, l3), q4, q5, q6, q7] [(0, s0), (0, s1), (0, s2), (2, s3)] ds m Q = (WP 63 250 [q0, q1, q2, (0, l3), q4, q5, q6, q7] [(0, l3), (0, s0), (0, s1), (0, s2), (2, s3)] ds m Q) := P_nx k63_249 rfl
set_option maxRecDepth 20000 in
theorem k63_250 : mjCode 63 250 = some (.iconst 0, 1, 0, 0) := by decide +kernel
theorem p63_250 {s0 s1 s2 s3 s4 : Int} {q0 q1 q2 q3 q4 q5 q6 q7 : MV} {ds : Ds} {m : Mm} {Q : Ds → Mm → List MV → Prop} : WP 63 250 [q0, q1, q2, q3, q4, q5, q6, q7] [(0, s0), (0, s1), (0, s2), (0, s3), (2, s4)] ds m Q = (WP 63 251 [q0, q1, q2, q3, q4, q5, q6, q7] [(0, 0), (0, s0), (0, s1), (0, s2), (0, s3), (2, s4)] ds m Q) := P_nx k63_250 rfl
set_option maxRecDepth 20000 in
theorem k63_251 : mjCode 63 251 = some (.invokevirtual 217, 3, 65, 6) := by decide +kernel
theorem p63_251 {s0 s1 s2 s3 s4 s5 : Int} {q0 q1 q2 q3 q4 q5 q6 q7 : MV} {ds : Ds} {m : Mm} {Q : Ds → Mm → List MV → Prop} : WP 63 251 [q0, q1, q2, q3, q4, q5, q6, q7] [(0, s0), (0, s1), (0, s2), (0, s3), (0, s4), (2, s5)] ds m Q = ((dk ds s5 = 5 ∧ WP 64 0 [(2, s5), (0, s4), (0, s3), (0, s2), (0, s1), (0, s0), (3, 0)] [] ds m (fun d2 m2 r2 => WP 63 254 [q0, q1, q2, q3, q4, q5, q6, q7] (r2 ++ []) d2 m2 Q))) := P_cv k63_251 mx64 mo64 rfl rfl rfl rfl rfl rfl rfl rfl
set_option maxRecDepth 20000 in
theorem k63_254 : mjCode 63 254 = some (.goto 117, 3, 371, 0) := by decide +kernel
theorem p63_254 {q0 q1 q2 q3 q4 q5 q6 q7 : MV} {ds : Ds} {m : Mm} {Q : Ds → Mm → List MV → Prop} : WP 63 254 [q0, q1, q2, q3, q4, q5, q6, q7] [] ds m Q = (WP 63 371 [q0, q1, q2, q3, q4, q5, q6, q7] [] ds m Q) := P_nx k63_254 rfl
set_option maxRecDepth 20000 in
theorem k63_257 : mjCode 63 257 = some (.aload_n 0, 1, 0, 0) := by decide +kernel
theorem p63_257 {l0 : Int} {q1 q2 q3 q4 q5 q6 q7 : MV} {ds : Ds} {m : Mm} {Q : Ds → Mm → List MV → Prop} : WP 63 257 [(2, l0), q1, q2, q3, q4, q5, q6, q7] [] ds m Q = (WP 63 258 [(2, l0), q1, q2, q3, q4, q5, q6, q7] [(2, l0)] ds m Q) := P_nx k63_257 rfl
set_option maxRecDepth 20000 in
theorem k63_258 : mjCode 63 258 = some (.getfield 18, 3, 5, 3) := by decide +kernel
theorem p63_258 {s0 : Int} {q0 q1 q2 q3 q4 q5 q6 q7 : MV} {ds : Ds} {m : Mm} {Q : Ds → Mm → List MV → Prop} : WP 63 258 [q0, q1, q2, q3, q4, q5, q6, q7] [(2, s0)] ds m Q = ((dk ds s0 = 5 ∧ WP 63 261 [q0, q1, q2, q3, q4, q5, q6, q7] [(2, m s0 3)] ds m Q)) := P_gd k63_258 rfl
set_option maxRecDepth 20000 in
theorem k63_261 : mjCode 63 261 = some (.iload_n 1, 1, 0, 0) := by decide +kernel
theorem p63_261 {l1 s0 : Int} {q0 q2 q3 q4 q5 q6 q7 : MV} {ds : Ds} {m : Mm} {Q : Ds → Mm → List MV → Prop} : WP 63 261 [q0, (0, l1), q2, q3, q4, q5, q6, q7] [(2, s0)] ds m Q = (WP 63 262 [q0, (0, l1), q2, q3, q4, q5, q6, q7] [(0, l1), (2, s0)] ds m Q) := P_nx k63_261 rfl
set_option maxRecDepth 20000 in
theorem k63_262 : mjCode 63 262 = some (.iaload, 1, 0, 0) := by decide +kernel
theorem p63_262 {s0 s1 : Int} {q0 q1 q2 q3 q4 q5 q6 q7 : MV} {ds : Ds} {m : Mm} {Q : Ds → Mm → List MV → Prop} : WP 63 262 [q0, q1, q2, q3, q4, q5, q6, q7] [(0, s0), (2, s1)] ds m Q = ((dk ds s1 = 10 ∧ 0 ≤ s0 ∧ s0 < dl ds s1 ∧ WP 63 263 [q0, q1, q2, q3, q4, q5, q6, q7] [(0, m s1 s0)] ds m Q)) := P_g3 k63_262 rfl
set_option maxRecDepth 20000 in
theorem k63_263 : mjCode 63 263 = some (.iconst 1, 1, 0, 0) := by decide +kernel
theorem p63_263 {s0 : Int} {q0 q1 q2 q3 q4 q5 q6 q7 : MV} {ds : Ds} {m : Mm} {Q : Ds → Mm → List MV → Prop} : WP 63 263 [q0, q1, q2, q3, q4, q5, q6, q7] [(0, s0)] ds m Q = (WP 63 264 [q0, q1, q2, q3, q4, q5, q6, q7] [(0, 1), (0, s0)] ds m Q) := P_nx k63_263 rfl
set_option maxRecDepth 20000 in
theorem k63_264 : mjCode 63 264 = some (.if_icmp .ne 107, 3, 371, 0) := by decide +kernel
theorem p63_264 {s0 s1 : Int} {q0 q1 q2 q3 q4 q5 q6 q7 : MV} {ds : Ds} {m : Mm} {Q : Ds → Mm → List MV → Prop} : WP 63 264 [q0, q1, q2, q3, q4, q5, q6, q7] [(0, s0), (0, s1)] ds m Q = (if s1 = s0 then WP 63 267 [q0, q1, q2, q3, q4, q5, q6, q7] [] ds m Q else WP 63 371 [q0, q1, q2, q3, q4, q5, q6, q7] [] ds m Q) := P_if k63_264 rfl
set_option maxRecDepth 20000 in
theorem k63_267 : mjCode 63 267 = some (.aload_n 0, 1, 0, 0) := by decide +kernel
theorem p63_267 {l0 : Int} {q1 q2 q3 q4 q5 q6 q7 : MV} {ds : Ds} {m : Mm} {Q : Ds → Mm → List MV → Prop} : WP 63 267 [(2, l0), q1, q2, q3, q4, q5, q6, q7] [] ds m Q = (WP 63 268 [(2, l0), q1, q2, q3, q4, q5, q6, q7] [(2, l0)] ds m Q) := P_nx k63_267 rfl
set_option maxRecDepth 20000 in
theorem k63_268 : mjCode 63 268 = some (.aload_n 0, 1, 0, 0) := by decide +kernel
theorem p63_268 {l0 s0 : Int} {q1 q2 q3 q4 q5 q6 q7 : MV} {ds : Ds} {m : Mm} {Q : Ds → Mm → List MV → Prop} : WP 63 268 [(2, l0), q1, q2, q3, q4, q5, q6, q7] [(2, s0)] ds m Q = (WP 63 269 [(2, l0), q1, q2, q3, q4, q5, q6, q7] [(2, l0), (2, s0)] ds m Q) := P_nx k63_268 rfl
set_option maxRecDepth 20000 in
theorem k63_269 : mjCode 63 269 = some (.getfield 35, 3, 5, 8) := by decide +kernel
theorem p63_269 {s0 s1 : Int} {q0 q1 q2 q3 q4 q5 q6 q7 : MV} {ds : Ds} {m : Mm} {Q : Ds → Mm → List MV → Prop} : WP 63 269 [q0, q1, q2, q3, q4, q5, q6, q7] [(2, s0), (2, s1)] ds m Q = ((dk ds s0 = 5 ∧ WP 63 272 [q0, q1, q2, q3, q4, q5, q6, q7] [(2, m s0 8), (2, s1)] ds m Q)) := P_gd k63_269 rfl
set_option maxRecDepth 20000 in
theorem k63_272 : mjCode 63 272 = some (.iload_n 1, 1, 0, 0) := by decide +kernel
theorem p63_272 {l1 s0 s1 : Int} {q0 q2 q3 q4 q5 q6 q7 : MV} {ds : Ds} {m : Mm} {Q : Ds → Mm → List MV → Prop} : WP 63 272 [q0, (0, l1), q2, q3, q4, q5, q6, q7] [(2, s0), (2, s1)] ds m Q = (WP 63 273 [q0, (0, l1), q2, q3, q4, q5, q6, q7] [(0, l1), (2, s0), (2, s1)] ds m Q) := P_nx k63_272 rfl
set_option maxRecDepth 20000 in
theorem k63_273 : mjCode 63 273 = some (.invokevirtual 224, 3, 27, 2) := by decide +kernel
theorem p63_273 {s0 s1 s2 : Int} {q0 q1 q2 q3 q4 q5 q6 q7 : MV} {ds : Ds} {m : Mm} {Q : Ds → Mm → List MV → Prop} : WP 63 273 [q0, q1, q2, q3, q4, q5, q6, q7] [(0, s0), (2, s1), (2, s2)] ds m Q = ((dk ds s1 = 3 ∧ WP 26 0 [(2, s1), (0, s0)] [] ds m (fun d2 m2 r2 => WP 63 276 [q0, q1, q2, q3, q4, q5, q6, q7] (r2 ++ [(2, s2)]) d2 m2 Q))) := P_cv k63_273 mx26 mo26 rfl rfl rfl rfl rfl rfl rfl rfl
set_option maxRecDepth 20000 in
theorem k63_276 : mjCode 63 276 = some (.iload_n 1, 1, 0, 0) := by decide +kernel
theorem p63_276 {l1 s0 s1 : Int} {q0 q2 q3 q4 q5 q6 q7 : MV} {ds : Ds} {m : Mm} {Q : Ds → Mm → List MV → Prop} : WP 63 276 [q0, (0, l1), q2, q3, q4, q5, q6, q7] [(0, s0), (2, s1)] ds m Q = (WP 63 277 [q0, (0, l1), q2, q3, q4, q5, q6, q7] [(0, l1), (0, s0), (2, s1)] ds m Q) := P_nx k63_276 rfl
set_option maxRecDepth 20000 in
theorem k63_277 : mjCode 63 277 = some (.iload 5, 2, 0, 0) := by decide +kernel
theorem p63_277 {l5 s0 s1 s2 : Int} {q0 q1 q2 q3 q4 q6 q7 : MV} {ds : Ds} {m : Mm} {Q : Ds → Mm → List MV → Prop} : WP 63 277 [q0, q1, q2, q3, q4, (0, l5), q6, q7] [(0, s0), (0, s1), (2, s2)] ds m Q = (WP 63 279 [q0, q1, q2, q3, q4, (0, l5), q6, q7] [(0, l5), (0, s0), (0, s1), (2, s2)] ds m Q) := P_nx k63_277 rfl
set_option maxRecDepth 20000 in
theorem k63_279 : mjCode 63 279 = some (.iload_n 3, 1, 0, 0) := by decide +kernel
theorem p63_279 {l3 s0 s1 s2 s3 : Int} {q0 q1 q2 q4 q5 q6 q7 : MV} {ds : Ds} {m : Mm} {Q : Ds → Mm → List MV → Prop} : WP 63 279 [q0, q1, q2, (0, l3), q4, q5, q6, q7] [(0, s0), (0, s1), (0, s2), (2, s3)] ds m Q = (WP 63 280 [q0, q1, q2, (0, l3), q4, q5, q6, q7] [(0, l3), (0, s0), (0, s1), (0, s2), (2, s3)] ds m Q) := P_nx k63_279 rfl
set_option maxRecDepth 20000 in
theorem k63_280 : mjCode 63 280 = some (.iconst 0, 1, 0, 0) := by decide +kernel
theorem p63_280 {s0 s1 s2 s3 s4 : Int} {q0 q1 q2 q3 q4 q5 q6 q7 : MV} {ds : Ds} {m : Mm} {Q : Ds → Mm → List MV → Prop} : WP 63 280 [q0, q1, q2, q3, q4, q5, q6, q7] [(0, s0), (0, s1), (0, s2), (0, s3), (2, s4)] ds m Q = (WP 63 281 [q0, q1, q2, q3, q4, q5, q6, q7] [(0, 0), (0, s0), (0, s1), (0, s2), (0, s3), (2, s4)] ds m Q) := P_nx k63_280 rfl
set_option maxRecDepth 20000 in
theorem k63_281 : mjCode 63 281 = some (.invokevirtual 217, 3, 65, 6) := by decide +kernel
theorem p63_281 {s0 s1 s2 s3 s4 s5 : Int} {q0 q1 q2 q3 q4 q5 q6 q7 : MV} {ds : Ds} {m : Mm} {Q : Ds → Mm → List MV → Prop} : WP 63 281 [q0, q1, q2, q3, q4, q5, q6, q7] [(0, s0), (0, s1), (0, s2), (0, s3), (0, s4), (2, s5)] ds m Q = ((dk ds s5 = 5 ∧ WP 64 0 [(2, s5), (0, s4), (0, s3), (0, s2), (0, s1), (0, s0), (3, 0)] [] ds m (fun d2 m2 r2 => WP 63 284 [q0, q1, q2, q3, q4, q5, q6, q7] (r2 ++ []) d2 m2 Q))) := P_cv k63_281 mx64 mo64 rfl rfl rfl rfl rfl rfl rfl rfl
set_option maxRecDepth 20000 in
theorem k63_284 : mjCode 63 284 = some (.goto 87, 3, 371, 0) := by decide +kernel
theorem p63_284 {q0 q1 q2 q3 q4 q5 q6 q7 : MV} {ds : Ds} {m : Mm} {Q : Ds → Mm → List MV → Prop} : WP 63 284 [q0, q1, q2, q3, q4, q5, q6, q7] [] ds m Q = (WP 63 371 [q0, q1, q2, q3, q4, q5, q6, q7] [] ds m Q) := P_nx k63_284 rfl
set_option maxRecDepth 20000 in
theorem k63_287 : mjCode 63 287 = some (.iconst 0, 1, 0, 0) := by decide +kernel
theorem p63_287 {q0 q1 q2 q3 q4 q5 q6 q7 : MV} {ds : Ds} {m : Mm} {Q : Ds → Mm → List MV → Prop} : WP 63 287 [q0, q1, q2, q3, q4, q5, q6, q7] [] ds m Q = (WP 63 288 [q0, q1, q2, q3, q4, q5, q6, q7] [(0, 0)] ds m Q) := P_nx k63_287 rfl
set_option maxRecDepth 20000 in
theorem k63_288 : mjCode 63 288 = some (.istore 7, 2, 0, 0) := by decide +kernel
theorem p63_288 {l6 s0 : Int} {q0 q1 q2 q3 q4 q5 q7 : MV} {ds : Ds} {m : Mm} {Q : Ds → Mm → List MV → Prop} : WP 63 288 [q0, q1, q2, q3, q4, q5, (3, l6), q7] [(0, s0)] ds m Q = (WP 63 290 [q0, q1, q2, q3, q4, q5, (3, l6), (0, s0)] [] ds m Q) := P_nx k63_288 rfl
set_option maxRecDepth 20000 in
theorem k63_290 : mjCode 63 290 = some (.iload 7, 2, 0, 0) := by decide +kernel
theorem p63_290 {l7 : Int} {q0 q1 q2 q3 q4 q5 q6 : MV} {ds : Ds} {m : Mm} {Q : Ds → Mm → List MV → Prop} : WP 63 290 [q0, q1, q2, q3, q4, q5, q6, (0, l7)] [] ds m Q = (WP 63 292 [q0, q1, q2, q3, q4, q5, q6, (0, l7)] [(0, l7)] ds m Q) := P_nx k63_290 rfl
set_option maxRecDepth 20000 in
theorem k63_292 : mjCode 63 292 = some (.iconst 4, 1, 0, 0) := by decide +kernel
theorem p63_292 {s0 : Int} {q0 q1 q2 q3 q4 q5 q6 q7 : MV} {ds : Ds} {m : Mm} {Q : Ds → Mm → List MV → Prop} : WP 63 292 [q0, q1, q2, q3, q4, q5, q6, q7] [(0, s0)] ds m Q = (WP 63 293 [q0, q1, q2, q3, q4, q5, q6, q7] [(0, 4), (0, s0)] ds m Q) := P_nx k63_292 rfl
set_option maxRecDepth 20000 in
theorem k63_293 : mjCode 63 293 = some (.if_icmp .ge 35, 3, 328, 0) := by decide +kernel
theorem p63_293 {s0 s1 : Int} {q0 q1 q2 q3 q4 q5 q6 q7 : MV} {ds : Ds} {m : Mm} {Q : Ds → Mm → List MV → Prop} : WP 63 293 [q0, q1, q2, q3, q4, q5, q6, q7] [(0, s0), (0, s1)] ds m Q = (if s1 < s0 then WP 63 296 [q0, q1, q2, q3, q4, q5, q6, q7] [] ds m Q else WP 63 328 [q0, q1, q2, q3, q4, q5, q6, q7] [] ds m Q) := P_if k63_293 rfl
set_option maxRecDepth 20000 in
theorem k63_296 : mjCode 63 296 = some (.aload_n 0, 1, 0, 0) := by decide +kernel
theorem p63_296 {l0 : Int} {q1 q2 q3 q4 q5 q6 q7 : MV} {ds : Ds} {m : Mm} {Q : Ds → Mm → List MV → Prop} : WP 63 296 [(2, l0), q1, q2, q3, q4, q5, q6, q7] [] ds m Q = (WP 63 297 [(2, l0), q1, q2, q3, q4, q5, q6, q7] [(2, l0)] ds m Q) := P_nx k63_296 rfl
set_option maxRecDepth 20000 in
theorem k63_297 : mjCode 63 297 = some (.getfield 18, 3, 5, 3) := by decide +kernel
theorem p63_297 {s0 : Int} {q0 q1 q2 q3 q4 q5 q6 q7 : MV} {ds : Ds} {m : Mm} {Q : Ds → Mm → List MV → Prop} : WP 63 297 [q0, q1, q2, q3, q4, q5, q6, q7] [(2, s0)] ds m Q = ((dk ds s0 = 5 ∧ WP 63 300 [q0, q1, q2, q3, q4, q5, q6, q7] [(2, m s0 3)] ds m Q)) := P_gd k63_297 rfl
set_option maxRecDepth 20000 in
theorem k63_300 : mjCode 63 300 = some (.iload_n 1, 1, 0, 0) := by decide +kernel
theorem p63_300 {l1 s0 : Int} {q0 q2 q3 q4 q5 q6 q7 : MV} {ds : Ds} {m : Mm} {Q : Ds → Mm → List MV → Prop} : WP 63 300 [q0, (0, l1), q2, q3, q4, q5, q6, q7] [(2, s0)] ds m Q = (WP 63 301 [q0, (0, l1), q2, q3, q4, q5, q6, q7] [(0, l1), (2, s0)] ds m Q) := P_nx k63_300 rfl
set_option maxRecDepth 20000 in
theorem k63_301 : mjCode 63 301 = some (.iaload, 1, 0, 0) := by decide +kernel
theorem p63_301 {s0 s1 : Int} {q0 q1 q2 q3 q4 q5 q6 q7 : MV} {ds : Ds} {m : Mm} {Q : Ds → Mm → List MV → Prop} : WP 63 301 [q0, q1, q2, q3, q4, q5, q6, q7] [(0, s0), (2, s1)] ds m Q = ((dk ds s1 = 10 ∧ 0 ≤ s0 ∧ s0 < dl ds s1 ∧ WP 63 302 [q0, q1, q2, q3, q4, q5, q6, q7] [(0, m s1 s0)] ds m Q)) := P_g3 k63_301 rfl
set_option maxRecDepth 20000 in
theorem k63_302 : mjCode 63 302 = some (.iconst 1, 1, 0, 0) := by decide +kernel
theorem p63_302 {s0 : Int} {q0 q1 q2 q3 q4 q5 q6 q7 : MV} {ds : Ds} {m : Mm} {Q : Ds → Mm → List MV → Prop} : WP 63 302 [q0, q1, q2, q3, q4, q5, q6, q7] [(0, s0)] ds m Q = (WP 63 303 [q0, q1, q2, q3, q4, q5, q6, q7] [(0, 1), (0, s0)] ds m Q) := P_nx k63_302 rfl
set_option maxRecDepth 20000 in
theorem k63_303 : mjCode 63 303 = some (.if_icmp .ne 25, 3, 328, 0) := by decide +kernel
theorem p63_303 {s0 s1 : Int} {q0 q1 q2 q3 q4 q5 q6 q7 : MV} {ds : Ds} {m : Mm} {Q : Ds → Mm → List MV → Prop} : WP 63 303 [q0, q1, q2, q3, q4, q5, q6, q7] [(0, s0), (0, s1)] ds m Q = (if s1 = s0 then WP 63 306 [q0, q1, q2, q3, q4, q5, q6, q7] [] ds m Q else WP 63 328 [q0, q1, q2, q3, q4, q5, q6, q7] [] ds m Q) := P_if k63_303 rfl
set_option maxRecDepth 20000 in
theorem k63_306 : mjCode 63 306 = some (.iload 7, 2, 0, 0) := by decide +kernel
theorem p63_306 {l7 : Int} {q0 q1 q2 q3 q4 q5 q6 : MV} {ds : Ds} {m : Mm} {Q : Ds → Mm → List MV → Prop} : WP 63 306 [q0, q1, q2, q3, q4, q5, q6, (0, l7)] [] ds m Q = (WP 63 308 [q0, q1, q2, q3, q4, q5, q6, (0, l7)] [(0, l7)] ds m Q) := P_nx k63_306 rfl
set_option maxRecDepth 20000 in
theorem k63_308 : mjCode 63 308 = some (.iload_n 2, 1, 0, 0) := by decide +kernel
theorem p63_308 {l2 s0 : Int} {q0 q1 q3 q4 q5 q6 q7 : MV} {ds : Ds} {m : Mm} {Q : Ds → Mm → List MV → Prop} : WP 63 308 [q0, q1, (0, l2), q3, q4, q5, q6, q7] [(0, s0)] ds m Q = (WP 63 309 [q0, q1, (0, l2), q3, q4, q5, q6, q7] [(0, l2), (0, s0)] ds m Q) := P_nx k63_308 rfl
set_option maxRecDepth 20000 in
theorem k63_309 : mjCode 63 309 = some (.if_icmp .eq 13, 3, 322, 0) := by decide +kernel
theorem p63_309 {s0 s1 : Int} {q0 q1 q2 q3 q4 q5 q6 q7 : MV} {ds : Ds} {m : Mm} {Q : Ds → Mm → List MV → Prop} : WP 63 309 [q0, q1, q2, q3, q4, q5, q6, q7] [(0, s0), (0, s1)] ds m Q = (if s1 = s0 then WP 63 322 [q0, q1, q2, q3, q4, q5, q6, q7] [] ds m Q else WP 63 312 [q0, q1, q2, q3, q4, q5, q6, q7] [] ds m Q) := P_if k63_309 rfl
set_option maxRecDepth 20000 in
theorem k63_312 : mjCode 63 312 = some (.aload_n 0, 1, 0, 0) := by decide +kernel
theorem p63_312 {l0 : Int} {q1 q2 q3 q4 q5 q6 q7 : MV} {ds : Ds} {m : Mm} {Q : Ds → Mm → List MV → Prop} : WP 63 312 [(2, l0), q1, q2, q3, q4, q5, q6, q7] [] ds m Q = (WP 63 313 [(2, l0), q1, q2, q3, q4, q5, q6, q7] [(2, l0)] ds m Q) := P_nx k63_312 rfl
set_option maxRecDepth 20000 in
theorem k63_313 : mjCode 63 313 = some (.iconst 1, 1, 0, 0) := by decide +kernel
theorem p63_313 {s0 : Int} {q0 q1 q2 q3 q4 q5 q6 q7 : MV} {ds : Ds} {m : Mm} {Q : Ds → Mm → List MV → Prop} : WP 63 313 [q0, q1, q2, q3, q4, q5, q6, q7] [(2, s0)] ds m Q = (WP 63 314 [q0, q1, q2, q3, q4, q5, q6, q7] [(0, 1), (2, s0)] ds m Q) := P_nx k63_313 rfl
set_option maxRecDepth 20000 in
theorem k63_314 : mjCode 63 314 = some (.iload_n 1, 1, 0, 0) := by decide +kernel
theorem p63_314 {l1 s0 s1 : Int} {q0 q2 q3 q4 q5 q6 q7 : MV} {ds : Ds} {m : Mm} {Q : Ds → Mm → List MV → Prop} : WP 63 314 [q0, (0, l1), q2, q3, q4, q5, q6, q7] [(0, s0), (2, s1)] ds m Q = (WP 63 315 [q0, (0, l1), q2, q3, q4, q5, q6, q7] [(0, l1), (0, s0), (2, s1)] ds m Q) := P_nx k63_314 rfl
set_option maxRecDepth 20000 in
theorem k63_315 : mjCode 63 315 = some (.iload 7, 2, 0, 0) := by decide +kernel
theorem p63_315 {l7 s0 s1 s2 : Int} {q0 q1 q2 q3 q4 q5 q6 : MV} {ds : Ds} {m : Mm} {Q : Ds → Mm → List MV → Prop} : WP 63 315 [q0, q1, q2, q3, q4, q5, q6, (0, l7)] [(0, s0), (0, s1), (2, s2)] ds m Q = (WP 63 317 [q0, q1, q2, q3, q4, q5, q6, (0, l7)] [(0, l7), (0, s0), (0, s1), (2, s2)] ds m Q) := P_nx k63_315 rfl
set_option maxRecDepth 20000 in
theorem k63_317 : mjCode 63 317 = some (.iload_n 3, 1, 0, 0) := by decide +kernel
theorem p63_317 {l3 s0 s1 s2 s3 : Int} {q0 q1 q2 q4 q5 q6 q7 : MV} {ds : Ds} {m : Mm} {Q : Ds → Mm → List MV → Prop} : WP 63 317 [q0, q1, q2, (0, l3), q4, q5, q6, q7] [(0, s0), (0, s1), (0, s2), (2, s3)] ds m Q = (WP 63 318 [q0, q1, q2, (0, l3), q4, q5, q6, q7] [(0, l3), (0, s0), (0, s1), (0, s2), (2, s3)] ds m Q) := P_nx k63_317 rfl
set_option maxRecDepth 20000 in
theorem k63_318 : mjCode 63 318 = some (.iconst 0, 1, 0, 0) := by decide +kernel
theorem p63_318 {s0 s1 s2 s3 s4 : Int} {q0 q1 q2 q3 q4 q5 q6 q7 : MV} {ds : Ds} {m : Mm} {Q : Ds → Mm → List MV → Prop} : WP 63 318 [q0, q1, q2, q3, q4, q5, q6, q7] [(0, s0), (0, s1), (0, s2), (0, s3), (2, s4)] ds m Q = (WP 63 319 [q0, q1, q2, q3, q4, q5, q6, q7] [(0, 0), (0, s0), (0, s1), (0, s2), (0, s3), (2, s4)] ds m Q) := P_nx k63_318 rfl
set_option maxRecDepth 20000 in
theorem k63_319 : mjCode 63 319 = some (.invokevirtual 217, 3, 65, 6) := by decide +kernel
theorem p63_319 {s0 s1 s2 s3 s4 s5 : Int} {q0 q1 q2 q3 q4 q5 q6 q7 : MV} {ds : Ds} {m : Mm} {Q : Ds → Mm → List MV → Prop} : WP 63 319 [q0, q1, q2, q3, q4, q5, q6, q7] [(0, s0), (0, s1), (0, s2), (0, s3), (0, s4), (2, s5)] ds m Q = ((dk ds s5 = 5 ∧ WP 64 0 [(2, s5), (0, s4), (0, s3), (0, s2), (0, s1), (0, s0), (3, 0)] [] ds m (fun d2 m2 r2 => WP 63 322 [q0, q1, q2, q3, q4, q5, q6, q7] (r2 ++ []) d2 m2 Q))) := P_cv k63_319 mx64 mo64 rfl rfl rfl rfl rfl rfl rfl rfl
set_option maxRecDepth 20000 in
theorem k63_322 : mjCode 63 322 = some (.iinc 7 1, 3, 0, 0) := by decide +kernel
theorem p63_322 {l7 : Int} {q0 q1 q2 q3 q4 q5 q6 : MV} {ds : Ds} {m : Mm} {Q : Ds → Mm → List MV → Prop} : WP 63 322 [q0, q1, q2, q3, q4, q5, q6, (0, l7)] [] ds m Q = (WP 63 325 [q0, q1, q2, q3, q4, q5, q6, (0, w32 (l7 + 1))] [] ds m Q) := P_nx k63_322 rfl
set_option maxRecDepth 20000 in
theorem k63_325 : mjCode 63 325 = some (.goto (-35), 3, 290, 0) := by decide +kernel
theorem p63_325 {q0 q1 q2 q3 q4 q5 q6 q7 : MV} {ds : Ds} {m : Mm} {Q : Ds → Mm → List MV → Prop} : WP 63 325 [q0, q1, q2, q3, q4, q5, q6, q7] [] ds m Q = (WP 63 290 [q0, q1, q2, q3, q4, q5, q6, q7] [] ds m Q) := P_nx k63_325 rfl
set_option maxRecDepth 20000 in
theorem k63_328 : mjCode 63 328 = some (.goto 43, 3, 371, 0) := by decide +kernel
theorem p63_328 {q0 q1 q2 q3 q4 q5 q6 q7 : MV} {ds : Ds} {m : Mm} {Q : Ds → Mm → List MV → Prop} : WP 63 328 [q0, q1, q2, q3, q4, q5, q6, q7] [] ds m Q = (WP 63 371 [q0, q1, q2, q3, q4, q5, q6, q7] [] ds m Q) := P_nx k63_328 rfl
set_option maxRecDepth 20000 in
theorem k63_331 : mjCode 63 331 = some (.aload_n 0, 1, 0, 0) := by decide +kernel
theorem p63_331 {l0 : Int} {q1 q2 q3 q4 q5 q6 q7 : MV} {ds : Ds} {m : Mm} {Q : Ds → Mm → List MV → Prop} : WP 63 331 [(2, l0), q1, q2, q3, q4, q5, q6, q7] [] ds m Q = (WP 63 332 [(2, l0), q1, q2, q3, q4, q5, q6, q7] [(2, l0)] ds m Q) := P_nx k63_331 rfl
set_option maxRecDepth 20000 in
theorem k63_332 : mjCode 63 332 = some (.getfield 18, 3, 5, 3) := by decide +kernel
theorem p63_332 {s0 : Int} {q0 q1 q2 q3 q4 q5 q6 q7 : MV} {ds : Ds} {m : Mm} {Q : Ds → Mm → List MV → Prop} : WP 63 332 [q0, q1, q2, q3, q4, q5, q6, q7] [(2, s0)] ds m Q = ((dk ds s0 = 5 ∧ WP 63 335 [q0, q1, q2, q3, q4, q5, q6, q7] [(2, m s0 3)] ds m Q)) := P_gd k63_332 rfl
set_option maxRecDepth 20000 in
theorem k63_335 : mjCode 63 335 = some (.iload_n 1, 1, 0, 0) := by decide +kernel
theorem p63_335 {l1 s0 : Int} {q0 q2 q3 q4 q5 q6 q7 : MV} {ds : Ds} {m : Mm} {Q : Ds → Mm → List MV → Prop} : WP 63 335 [q0, (0, l1), q2, q3, q4, q5, q6, q7] [(2, s0)] ds m Q = (WP 63 336 [q0, (0, l1), q2, q3, q4, q5, q6, q7] [(0, l1), (2, s0)] ds m Q) := P_nx k63_335 rfl
set_option maxRecDepth 20000 in
theorem k63_336 : mjCode 63 336 = some (.iaload, 1, 0, 0) := by decide +kernel
theorem p63_336 {s0 s1 : Int} {q0 q1 q2 q3 q4 q5 q6 q7 : MV} {ds : Ds} {m : Mm} {Q : Ds → Mm → List MV → Prop} : WP 63 336 [q0, q1, q2, q3, q4, q5, q6, q7] [(0, s0), (2, s1)] ds m Q = ((dk ds s1 = 10 ∧ 0 ≤ s0 ∧ s0 < dl ds s1 ∧ WP 63 337 [q0, q1, q2, q3, q4, q5, q6, q7] [(0, m s1 s0)] ds m Q)) := P_g3 k63_336 rfl
set_option maxRecDepth 20000 in
theorem k63_337 : mjCode 63 337 = some (.aload_n 0, 1, 0, 0) := by decide +kernel
theorem p63_337 {l0 s0 : Int} {q1 q2 q3 q4 q5 q6 q7 : MV} {ds : Ds} {m : Mm} {Q : Ds → Mm → List MV → Prop} : WP 63 337 [(2, l0), q1, q2, q3, q4, q5, q6, q7] [(0, s0)] ds m Q = (WP 63 338 [(2, l0), q1, q2, q3, q4, q5, q6, q7] [(2, l0), (0, s0)] ds m Q) := P_nx k63_337 rfl
set_option maxRecDepth 20000 in
theorem k63_338 : mjCode 63 338 = some (.getfield 35, 3, 5, 8) := by decide +kernel
theorem p63_338 {s0 s1 : Int} {q0 q1 q2 q3 q4 q5 q6 q7 : MV} {ds : Ds} {m : Mm} {Q : Ds → Mm → List MV → Prop} : WP 63 338 [q0, q1, q2, q3, q4, q5, q6, q7] [(2, s0), (0, s1)] ds m Q = ((dk ds s0 = 5 ∧ WP 63 341 [q0, q1, q2, q3, q4, q5, q6, q7] [(2, m s0 8), (0, s1)] ds m Q)) := P_gd k63_338 rfl
set_option maxRecDepth 20000 in
theorem k63_341 : mjCode 63 341 = some (.iload_n 1, 1, 0, 0) := by decide +kernel
theorem p63_341 {l1 s0 s1 : Int} {q0 q2 q3 q4 q5 q6 q7 : MV} {ds : Ds} {m : Mm} {Q : Ds → Mm → List MV → Prop} : WP 63 341 [q0, (0, l1), q2, q3, q4, q5, q6, q7] [(2, s0), (0, s1)] ds m Q = (WP 63 342 [q0, (0, l1), q2, q3, q4, q5, q6, q7] [(0, l1), (2, s0), (0, s1)] ds m Q) := P_nx k63_341 rfl
set_option maxRecDepth 20000 in
theorem k63_342 : mjCode 63 342 = some (.invokevirtual 224, 3, 27, 2) := by decide +kernel
theorem p63_342 {s0 s1 s2 : Int} {q0 q1 q2 q3 q4 q5 q6 q7 : MV} {ds : Ds} {m : Mm} {Q : Ds → Mm → List MV → Prop} : WP 63 342 [q0, q1, q2, q3, q4, q5, q6, q7] [(0, s0), (2, s1), (0, s2)] ds m Q = ((dk ds s1 = 3 ∧ WP 26 0 [(2, s1), (0, s0)] [] ds m (fun d2 m2 r2 => WP 63 345 [q0, q1, q2, q3, q4, q5, q6, q7] (r2 ++ [(0, s2)]) d2 m2 Q))) := P_cv k63_342 mx26 mo26 rfl rfl rfl rfl rfl rfl rfl rfl
set_option maxRecDepth 20000 in
theorem k63_345 : mjCode 63 345 = some (.if_icmp .ne 26, 3, 371, 0) := by decide +kernel
theorem p63_345 {s0 s1 : Int} {q0 q1 q2 q3 q4 q5 q6 q7 : MV} {ds : Ds} {m : Mm} {Q : Ds → Mm → List MV → Prop} : WP 63 345 [q0, q1, q2, q3, q4, q5, q6, q7] [(0, s0), (0, s1)] ds m Q = (if s1 = s0 then WP 63 348 [q0, q1, q2, q3, q4, q5, q6, q7] [] ds m Q else WP 63 371 [q0, q1, q2, q3, q4, q5, q6, q7] [] ds m Q) := P_if k63_345 rfl
set_option maxRecDepth 20000 in
theorem k63_348 : mjCode 63 348 = some (.aload_n 0, 1, 0, 0) := by decide +kernel
theorem p63_348 {l0 : Int} {q1 q2 q3 q4 q5 q6 q7 : MV} {ds : Ds} {m : Mm} {Q : Ds → Mm → List MV → Prop} : WP 63 348 [(2, l0), q1, q2, q3, q4, q5, q6, q7] [] ds m Q = (WP 63 349 [(2, l0), q1, q2, q3, q4, q5, q6, q7] [(2, l0)] ds m Q) := P_nx k63_348 rfl
set_option maxRecDepth 20000 in
theorem k63_349 : mjCode 63 349 = some (.iconst 1, 1, 0, 0) := by decide +kernel
theorem p63_349 {s0 : Int} {q0 q1 q2 q3 q4 q5 q6 q7 : MV} {ds : Ds} {m : Mm} {Q : Ds → Mm → List MV → Prop} : WP 63 349 [q0, q1, q2, q3, q4, q5, q6, q7] [(2, s0)] ds m Q = (WP 63 350 [q0, q1, q2, q3, q4, q5, q6, q7] [(0, 1), (2, s0)] ds m Q) := P_nx k63_349 rfl
set_option maxRecDepth 20000 in
theorem k63_350 : mjCode 63 350 = some (.iload_n 1, 1, 0, 0) := by decide +kernel
theorem p63_350 {l1 s0 s1 : Int} {q0 q2 q3 q4 q5 q6 q7 : MV} {ds : Ds} {m : Mm} {Q : Ds → Mm → List MV → Prop} : WP 63 350 [q0, (0, l1), q2, q3, q4, q5, q6, q7] [(0, s0), (2, s1)] ds m Q = (WP 63 351 [q0, (0, l1), q2, q3, q4, q5, q6, q7] [(0, l1), (0, s0), (2, s1)] ds m Q) := P_nx k63_350 rfl
set_option maxRecDepth 20000 in
theorem k63_351 : mjCode 63 351 = some (.iload 5, 2, 0, 0) := by decide +kernel
theorem p63_351 {l5 s0 s1 s2 : Int} {q0 q1 q2 q3 q4 q6 q7 : MV} {ds : Ds} {m : Mm} {Q : Ds → Mm → List MV → Prop} : WP 63 351 [q0, q1, q2, q3, q4, (0, l5), q6, q7] [(0, s0), (0, s1), (2, s2)] ds m Q = (WP 63 353 [q0, q1, q2, q3, q4, (0, l5), q6, q7] [(0, l5), (0, s0), (0, s1), (2, s2)] ds m Q) := P_nx k63_351 rfl
set_option maxRecDepth 20000 in
theorem k63_353 : mjCode 63 353 = some (.iload_n 3, 1, 0, 0) := by decide +kernel
theorem p63_353 {l3 s0 s1 s2 s3 : Int} {q0 q1 q2 q4 q5 q6 q7 : MV} {ds : Ds} {m : Mm} {Q : Ds → Mm → List MV → Prop} : WP 63 353 [q0, q1, q2, (0, l3), q4, q5, q6, q7] [(0, s0), (0, s1), (0, s2), (2, s3)] ds m Q = (WP 63 354 [q0, q1, q2, (0, l3), q4, q5, q6, q7] [(0, l3), (0, s0), (0, s1), (0, s2), (2, s3)] ds m Q) := P_nx k63_353 rfl
set_option maxRecDepth 20000 in
theorem k63_354 : mjCode 63 354 = some (.iconst 0, 1, 0, 0) := by decide +kernel
theorem p63_354 {s0 s1 s2 s3 s4 : Int} {q0 q1 q2 q3 q4 q5 q6 q7 : MV} {ds : Ds} {m : Mm} {Q : Ds → Mm → List MV → Prop} : WP 63 354 [q0, q1, q2, q3, q4, q5, q6, q7] [(0, s0), (0, s1), (0, s2), (0, s3), (2, s4)] ds m Q = (WP 63 355 [q0, q1, q2, q3, q4, q5, q6, q7] [(0, 0), (0, s0), (0, s1), (0, s2), (0, s3), (2, s4)] ds m Q) := P_nx k63_354 rfl
set_option maxRecDepth 20000 in
theorem k63_355 : mjCode 63 355 = some (.invokevirtual 217, 3, 65, 6) := by decide +kernel
theorem p63_355 {s0 s1 s2 s3 s4 s5 : Int} {q0 q1 q2 q3 q4 q5 q6 q7 : MV} {ds : Ds} {m : Mm} {Q : Ds → Mm → List MV → Prop} : WP 63 355 [q0, q1, q2, q3, q4, q5, q6, q7] [(0, s0), (0, s1), (0, s2), (0, s3), (0, s4), (2, s5)] ds m Q = ((dk ds s5 = 5 ∧ WP 64 0 [(2, s5), (0, s4), (0, s3), (0, s2), (0, s1), (0, s0), (3, 0)] [] ds m (fun d2 m2 r2 => WP 63 358 [q0, q1, q2, q3, q4, q5, q6, q7] (r2 ++ []) d2 m2 Q))) := P_cv k63_355 mx64 mo64 rfl rfl rfl rfl rfl rfl rfl rfl
set_option maxRecDepth 20000 in
theorem k63_358 : mjCode 63 358 = some (.goto 13, 3, 371, 0) := by decide +kernel
theorem p63_358 {q0 q1 q2 q3 q4 q5 q6 q7 : MV} {ds : Ds} {m : Mm} {Q : Ds → Mm → List MV → Prop} : WP 63 358 [q0, q1, q2, q3, q4, q5, q6, q7] [] ds m Q = (WP 63 371 [q0, q1, q2, q3, q4, q5, q6, q7] [] ds m Q) := P_nx k63_358 rfl
set_option maxRecDepth 20000 in
theorem k63_361 : mjCode 63 361 = some (.aload_n 0, 1, 0, 0) := by decide +kernel
theorem p63_361 {l0 : Int} {q1 q2 q3 q4 q5 q6 q7 : MV} {ds : Ds} {m : Mm} {Q : Ds → Mm → List MV → Prop} : WP 63 361 [(2, l0), q1, q2, q3, q4, q5, q6, q7] [] ds m Q = (WP 63 362 [(2, l0), q1, q2, q3, q4, q5, q6, q7] [(2, l0)] ds m Q) := P_nx k63_361 rfl
set_option maxRecDepth 20000 in
theorem k63_362 : mjCode 63 362 = some (.getfield 28, 3, 5, 6) := by decide +kernel
theorem p63_362 {s0 : Int} {q0 q1 q2 q3 q4 q5 q6 q7 : MV} {ds : Ds} {m : Mm} {Q : Ds → Mm → List MV → Prop} : WP 63 362 [q0, q1, q2, q3, q4, q5, q6, q7] [(2, s0)] ds m Q = ((dk ds s0 = 5 ∧ WP 63 365 [q0, q1, q2, q3, q4, q5, q6, q7] [(2, m s0 6)] ds m Q)) := P_gd k63_362 rfl
set_option maxRecDepth 20000 in
theorem k63_365 : mjCode 63 365 = some (.iload_n 1, 1, 0, 0) := by decide +kernel
theorem p63_365 {l1 s0 : Int} {q0 q2 q3 q4 q5 q6 q7 : MV} {ds : Ds} {m : Mm} {Q : Ds → Mm → List MV → Prop} : WP 63 365 [q0, (0, l1), q2, q3, q4, q5, q6, q7] [(2, s0)] ds m Q = (WP 63 366 [q0, (0, l1), q2, q3, q4, q5, q6, q7] [(0, l1), (2, s0)] ds m Q) := P_nx k63_365 rfl
set_option maxRecDepth 20000 in
theorem k63_366 : mjCode 63 366 = some (.iconst 1, 1, 0, 0) := by decide +kernel
theorem p63_366 {s0 s1 : Int} {q0 q1 q2 q3 q4 q5 q6 q7 : MV} {ds : Ds} {m : Mm} {Q : Ds → Mm → List MV → Prop} : WP 63 366 [q0, q1, q2, q3, q4, q5, q6, q7] [(0, s0), (2, s1)] ds m Q = (WP 63 367 [q0, q1, q2, q3, q4, q5, q6, q7] [(0, 1), (0, s0), (2, s1)] ds m Q) := P_nx k63_366 rfl
set_option maxRecDepth 20000 in
theorem k63_367 : mjCode 63 367 = some (.bastore, 1, 0, 0) := by decide +kernel
theorem p63_367 {s0 s1 s2 : Int} {q0 q1 q2 q3 q4 q5 q6 q7 : MV} {ds : Ds} {m : Mm} {Q : Ds → Mm → List MV → Prop} : WP 63 367 [q0, q1, q2, q3, q4, q5, q6, q7] [(0, s0), (0, s1), (2, s2)] ds m Q = (((s0 = 0 ∨ s0 = 1) ∧ dk ds s2 = 11 ∧ 0 ≤ s1 ∧ s1 < dl ds s2 ∧ WP 63 368 [q0, q1, q2, q3, q4, q5, q6, q7] [] ds (up m s2 s1 s0) Q)) := P_s4 k63_367 rfl
set_option maxRecDepth 20000 in
theorem k63_368 : mjCode 63 368 = some (.goto 3, 3, 371, 0) := by decide +kernel
theorem p63_368 {q0 q1 q2 q3 q4 q5 q6 q7 : MV} {ds : Ds} {m : Mm} {Q : Ds → Mm → List MV → Prop} : WP 63 368 [q0, q1, q2, q3, q4, q5, q6, q7] [] ds m Q = (WP 63 371 [q0, q1, q2, q3, q4, q5, q6, q7] [] ds m Q) := P_nx k63_368 rfl
set_option maxRecDepth 20000 in
theorem k63_371 : mjCode 63 371 = some (.return_, 1, 0, 0) := by decide +kernel
theorem p63_371 {q0 q1 q2 q3 q4 q5 q6 q7 : MV} {ds : Ds} {m : Mm} {Q : Ds → Mm → List MV → Prop} : WP 63 371 [q0, q1, q2, q3, q4, q5, q6, q7] [] ds m Q = (Q ds m []) := P_rv k63_371 rk63
set_option maxRecDepth 20000 in
theorem k64_0 : mjCode 64 0 = some (.iload_n 2, 1, 0, 0) := by decide +kernel
theorem p64_0 {l2 : Int} {q0 q1 q3 q4 q5 q6 : MV} {ds : Ds} {m : Mm} {Q : Ds → Mm → List MV → Prop} : WP 64 0 [q0, q1, (0, l2), q3, q4, q5, q6] [] ds m Q = (WP 64 1 [q0, q1, (0, l2), q3, q4, q5, q6] [(0, l2)] ds m Q) := P_nx k64_0 rfl
set_option maxRecDepth 20000 in
theorem k64_1 : mjCode 64 1 = some (.iload_n 3, 1, 0, 0) := by decide +kernel
theorem p64_1 {l3 s0 : Int} {q0 q1 q2 q4 q5 q6 : MV} {ds : Ds} {m : Mm} {Q : Ds → Mm → List MV → Prop} : WP 64 1 [q0, q1, q2, (0, l3), q4, q5, q6] [(0, s0)] ds m Q = (WP 64 2 [q0, q1, q2, (0, l3), q4, q5, q6] [(0, l3), (0, s0)] ds m Q) := P_nx k64_1 rfl
set_option maxRecDepth 20000 in
theorem k64_2 : mjCode 64 2 = some (.invokestatic 162, 3, 112, 2) := by decide +kernel
theorem p64_2 {s0 s1 : Int} {q0 q1 q2 q3 q4 q5 q6 : MV} {ds : Ds} {m : Mm} {Q : Ds → Mm → List MV → Prop} : WP 64 2 [q0, q1, q2, q3, q4, q5, q6] [(0, s0), (0, s1)] ds m Q = (WP 111 0 [(0, s1), (0, s0), (3, 0), (3, 0)] [] ds m (fun d2 m2 r2 => WP 64 5 [q0, q1, q2, q3, q4, q5, q6] (r2 ++ []) d2 m2 Q)) := P_cs k64_2 mx111 rfl rfl rfl rfl rfl rfl rfl
set_option maxRecDepth 20000 in
theorem k64_5 : mjCode 64 5 = some (.istore 6, 2, 0, 0) := by decide +kernel
theorem p64_5 {l5 s0 : Int} {q0 q1 q2 q3 q4 q6 : MV} {ds : Ds} {m : Mm} {Q : Ds → Mm → List MV → Prop} : WP 64 5 [q0, q1, q2, q3, q4, (0, l5), q6] [(0, s0)] ds m Q = (WP 64 7 [q0, q1, q2, q3, q4, (0, l5), (0, s0)] [] ds m Q) := P_nx k64_5 rfl
set_option maxRecDepth 20000 in
theorem k64_7 : mjCode 64 7 = some (.iload 6, 2, 0, 0) := by decide +kernel
theorem p64_7 {l6 : Int} {q0 q1 q2 q3 q4 q5 : MV} {ds : Ds} {m : Mm} {Q : Ds → Mm → List MV → Prop} : WP 64 7 [q0, q1, q2, q3, q4, q5, (0, l6)] [] ds m Q = (WP 64 9 [q0, q1, q2, q3, q4, q5, (0, l6)] [(0, l6)] ds m Q) := P_nx k64_7 rfl
set_option maxRecDepth 20000 in
theorem k64_9 : mjCode 64 9 = some (.iconst (-1), 1, 0, 0) := by decide +kernel
theorem p64_9 {s0 : Int} {q0 q1 q2 q3 q4 q5 q6 : MV} {ds : Ds} {m : Mm} {Q : Ds → Mm → List MV → Prop} : WP 64 9 [q0, q1, q2, q3, q4, q5, q6] [(0, s0)] ds m Q = (WP 64 10 [q0, q1, q2, q3, q4, q5, q6] [(0, (-1)), (0, s0)] ds m Q) := P_nx k64_9 rfl
set_option maxRecDepth 20000 in
theorem k64_10 : mjCode 64 10 = some (.if_icmp .eq 29, 3, 39, 0) := by decide +kernel
theorem p64_10 {s0 s1 : Int} {q0 q1 q2 q3 q4 q5 q6 : MV} {ds : Ds} {m : Mm} {Q : Ds → Mm → List MV → Prop} : WP 64 10 [q0, q1, q2, q3, q4, q5, q6] [(0, s0), (0, s1)] ds m Q = (if s1 = s0 then WP 64 39 [q0, q1, q2, q3, q4, q5, q6] [] ds m Q else WP 64 13 [q0, q1, q2, q3, q4, q5, q6] [] ds m Q) := P_if k64_10 rfl
set_option maxRecDepth 20000 in
theorem k64_13 : mjCode 64 13 = some (.aload_n 0, 1, 0, 0) := by decide +kernel
theorem p64_13 {l0 : Int} {q1 q2 q3 q4 q5 q6 : MV} {ds : Ds} {m : Mm} {Q : Ds → Mm → List MV → Prop} : WP 64 13 [(2, l0), q1, q2, q3, q4, q5, q6] [] ds m Q = (WP 64 14 [(2, l0), q1, q2, q3, q4, q5, q6] [(2, l0)] ds m Q) := P_nx k64_13 rfl
set_option maxRecDepth 20000 in
theorem k64_14 : mjCode 64 14 = some (.getfield 39, 3, 5, 0) := by decide +kernel
theorem p64_14 {s0 : Int} {q0 q1 q2 q3 q4 q5 q6 : MV} {ds : Ds} {m : Mm} {Q : Ds → Mm → List MV → Prop} : WP 64 14 [q0, q1, q2, q3, q4, q5, q6] [(2, s0)] ds m Q = ((dk ds s0 = 5 ∧ WP 64 17 [q0, q1, q2, q3, q4, q5, q6] [(2, m s0 0)] ds m Q)) := P_gd k64_14 rfl
set_option maxRecDepth 20000 in
theorem k64_17 : mjCode 64 17 = some (.aload_n 0, 1, 0, 0) := by decide +kernel
theorem p64_17 {l0 s0 : Int} {q1 q2 q3 q4 q5 q6 : MV} {ds : Ds} {m : Mm} {Q : Ds → Mm → List MV → Prop} : WP 64 17 [(2, l0), q1, q2, q3, q4, q5, q6] [(2, s0)] ds m Q = (WP 64 18 [(2, l0), q1, q2, q3, q4, q5, q6] [(2, l0), (2, s0)] ds m Q) := P_nx k64_17 rfl
set_option maxRecDepth 20000 in
theorem k64_18 : mjCode 64 18 = some (.getfield 51, 3, 5, 9) := by decide +kernel
theorem p64_18 {s0 s1 : Int} {q0 q1 q2 q3 q4 q5 q6 : MV} {ds : Ds} {m : Mm} {Q : Ds → Mm → List MV → Prop} : WP 64 18 [q0, q1, q2, q3, q4, q5, q6] [(2, s0), (2, s1)] ds m Q = ((dk ds s0 = 5 ∧ WP 64 21 [q0, q1, q2, q3, q4, q5, q6] [(0, m s0 9), (2, s1)] ds m Q)) := P_gd k64_18 rfl
set_option maxRecDepth 20000 in
theorem k64_21 : mjCode 64 21 = some (.iload_n 1, 1, 0, 0) := by decide +kernel
theorem p64_21 {l1 s0 s1 : Int} {q0 q2 q3 q4 q5 q6 : MV} {ds : Ds} {m : Mm} {Q : Ds → Mm → List MV → Prop} : WP 64 21 [q0, (0, l1), q2, q3, q4, q5, q6] [(0, s0), (2, s1)] ds m Q = (WP 64 22 [q0, (0, l1), q2, q3, q4, q5, q6] [(0, l1), (0, s0), (2, s1)] ds m Q) := P_nx k64_21 rfl
set_option maxRecDepth 20000 in
theorem k64_22 : mjCode 64 22 = some (.iadd, 1, 0, 0) := by decide +kernel
theorem p64_22 {s0 s1 s2 : Int} {q0 q1 q2 q3 q4 q5 q6 : MV} {ds : Ds} {m : Mm} {Q : Ds → Mm → List MV → Prop} : WP 64 22 [q0, q1, q2, q3, q4, q5, q6] [(0, s0), (0, s1), (2, s2)] ds m Q = (WP 64 23 [q0, q1, q2, q3, q4, q5, q6] [(0, w32 (s1 + s0)), (2, s2)] ds m Q) := P_nx k64_22 rfl
set_option maxRecDepth 20000 in
theorem k64_23 : mjCode 64 23 = some (.iload 6, 2, 0, 0) := by decide +kernel
theorem p64_23 {l6 s0 s1 : Int} {q0 q1 q2 q3 q4 q5 : MV} {ds : Ds} {m : Mm} {Q : Ds → Mm → List MV → Prop} : WP 64 23 [q0, q1, q2, q3, q4, q5, (0, l6)] [(0, s0), (2, s1)] ds m Q = (WP 64 25 [q0, q1, q2, q3, q4, q5, (0, l6)] [(0, l6), (0, s0), (2, s1)] ds m Q) := P_nx k64_23 rfl
set_option maxRecDepth 20000 in
theorem k64_25 : mjCode 64 25 = some (.iconst 4, 1, 0, 0) := by decide +kernel
theorem p64_25 {s0 s1 s2 : Int} {q0 q1 q2 q3 q4 q5 q6 : MV} {ds : Ds} {m : Mm} {Q : Ds → Mm → List MV → Prop} : WP 64 25 [q0, q1, q2, q3, q4, q5, q6] [(0, s0), (0, s1), (2, s2)] ds m Q = (WP 64 26 [q0, q1, q2, q3, q4, q5, q6] [(0, 4), (0, s0), (0, s1), (2, s2)] ds m Q) := P_nx k64_25 rfl
set_option maxRecDepth 20000 in
theorem k64_26 : mjCode 64 26 = some (.imul, 1, 0, 0) := by decide +kernel
theorem p64_26 {s0 s1 s2 s3 : Int} {q0 q1 q2 q3 q4 q5 q6 : MV} {ds : Ds} {m : Mm} {Q : Ds → Mm → List MV → Prop} : WP 64 26 [q0, q1, q2, q3, q4, q5, q6] [(0, s0), (0, s1), (0, s2), (2, s3)] ds m Q = (WP 64 27 [q0, q1, q2, q3, q4, q5, q6] [(0, w32 (s1 * s0)), (0, s2), (2, s3)] ds m Q) := P_nx k64_26 rfl
set_option maxRecDepth 20000 in
theorem k64_27 : mjCode 64 27 = some (.iload_n 3, 1, 0, 0) := by decide +kernel
theorem p64_27 {l3 s0 s1 s2 : Int} {q0 q1 q2 q4 q5 q6 : MV} {ds : Ds} {m : Mm} {Q : Ds → Mm → List MV → Prop} : WP 64 27 [q0, q1, q2, (0, l3), q4, q5, q6] [(0, s0), (0, s1), (2, s2)] ds m Q = (WP 64 28 [q0, q1, q2, (0, l3), q4, q5, q6] [(0, l3), (0, s0), (0, s1), (2, s2)] ds m Q) := P_nx k64_27 rfl
set_option maxRecDepth 20000 in
theorem k64_28 : mjCode 64 28 = some (.invokestatic 159, 3, 111, 1) := by decide +kernel
theorem p64_28 {s0 s1 s2 s3 : Int} {q0 q1 q2 q3 q4 q5 q6 : MV} {ds : Ds} {m : Mm} {Q : Ds → Mm → List MV → Prop} : WP 64 28 [q0, q1, q2, q3, q4, q5, q6] [(0, s0), (0, s1), (0, s2), (2, s3)] ds m Q = (WP 110 0 [(0, s0)] [] ds m (fun d2 m2 r2 => WP 64 31 [q0, q1, q2, q3, q4, q5, q6] (r2 ++ [(0, s1), (0, s2), (2, s3)]) d2 m2 Q)) := P_cs k64_28 mx110 rfl rfl rfl rfl rfl rfl rfl
set_option maxRecDepth 20000 in
theorem k64_31 : mjCode 64 31 = some (.iadd, 1, 0, 0) := by decide +kernel
theorem p64_31 {s0 s1 s2 s3 : Int} {q0 q1 q2 q3 q4 q5 q6 : MV} {ds : Ds} {m : Mm} {Q : Ds → Mm → List MV → Prop} : WP 64 31 [q0, q1, q2, q3, q4, q5, q6] [(0, s0), (0, s1), (0, s2), (2, s3)] ds m Q = (WP 64 32 [q0, q1, q2, q3, q4, q5, q6] [(0, w32 (s1 + s0)), (0, s2), (2, s3)] ds m Q) := P_nx k64_31 rfl
set_option maxRecDepth 20000 in
theorem k64_32 : mjCode 64 32 = some (.iload 4, 2, 0, 0) := by decide +kernel
theorem p64_32 {l4 s0 s1 s2 : Int} {q0 q1 q2 q3 q5 q6 : MV} {ds : Ds} {m : Mm} {Q : Ds → Mm → List MV → Prop} : WP 64 32 [q0, q1, q2, q3, (0, l4), q5, q6] [(0, s0), (0, s1), (2, s2)] ds m Q = (WP 64 34 [q0, q1, q2, q3, (0, l4), q5, q6] [(0, l4), (0, s0), (0, s1), (2, s2)] ds m Q) := P_nx k64_32 rfl
set_option maxRecDepth 20000 in
theorem k64_34 : mjCode 64 34 = some (.iload 5, 2, 0, 0) := by decide +kernel
theorem p64_34 {l5 s0 s1 s2 s3 : Int} {q0 q1 q2 q3 q4 q6 : MV} {ds : Ds} {m : Mm} {Q : Ds → Mm → List MV → Prop} : WP 64 34 [q0, q1, q2, q3, q4, (0, l5), q6] [(0, s0), (0, s1), (0, s2), (2, s3)] ds m Q = (WP 64 36 [q0, q1, q2, q3, q4, (0, l5), q6] [(0, l5), (0, s0), (0, s1), (0, s2), (2, s3)] ds m Q) := P_nx k64_34 rfl
set_option maxRecDepth 20000 in
theorem k64_36 : mjCode 64 36 = some (.invokevirtual 115, 3, 13, 5) := by decide +kernel
theorem p64_36 {s0 s1 s2 s3 s4 : Int} {q0 q1 q2 q3 q4 q5 q6 : MV} {ds : Ds} {m : Mm} {Q : Ds → Mm → List MV → Prop} : WP 64 36 [q0, q1, q2, q3, q4, q5, q6] [(0, s0), (0, s1), (0, s2), (0, s3), (2, s4)] ds m Q = ((dk ds s4 = 1 ∧ WP 12 0 [(2, s4), (0, s3), (0, s2), (0, s1), (0, s0), (3, 0)] [] ds m (fun d2 m2 r2 => WP 64 39 [q0, q1, q2, q3, q4, q5, q6] (r2 ++ []) d2 m2 Q))) := P_cv k64_36 mx12 mo12 rfl rfl rfl rfl rfl rfl rfl rfl
set_option maxRecDepth 20000 in
theorem k64_39 : mjCode 64 39 = some (.return_, 1, 0, 0) := by decide +kernel
theorem p64_39 {q0 q1 q2 q3 q4 q5 q6 : MV} {ds : Ds} {m : Mm} {Q : Ds → Mm → List MV → Prop} : WP 64 39 [q0, q1, q2, q3, q4, q5, q6] [] ds m Q = (Q ds m []) := P_rv k64_39 rk64
set_option maxRecDepth 20000 in
theorem k65_0 : mjCode 65 0 = some (.aload_n 0, 1, 0, 0) := by decide +kernel
theorem p65_0 {l0 : Int} {q1 q2 q3 : MV} {ds : Ds} {m : Mm} {Q : Ds → Mm → List MV → Prop} : WP 65 0 [(2, l0), q1, q2, q3] [] ds m Q = (WP 65 1 [(2, l0), q1, q2, q3] [(2, l0)] ds m Q) := P_nx k65_0 rfl
set_option maxRecDepth 20000 in
theorem k65_1 : mjCode 65 1 = some (.invokespecial 3, 3, 0, 1) := by decide +kernel
theorem p65_1 {s0 : Int} {q0 q1 q2 q3 : MV} {ds : Ds} {m : Mm} {Q : Ds → Mm → List MV → Prop} : WP 65 1 [q0, q1, q2, q3] [(2, s0)] ds m Q = (((0 ≤ s0 ∧ ([].map cat).sum ≤ 8) ∧ WP 65 4 [q0, q1, q2, q3] [] ds m Q)) := P_gd k65_1 rfl
set_option maxRecDepth 20000 in
theorem k65_4 : mjCode 65 4 = some (.aload_n 0, 1, 0, 0) := by decide +kernel
theorem p65_4 {l0 : Int} {q1 q2 q3 : MV} {ds : Ds} {m : Mm} {Q : Ds → Mm → List MV → Prop} : WP 65 4 [(2, l0), q1, q2, q3] [] ds m Q = (WP 65 5 [(2, l0), q1, q2, q3] [(2, l0)] ds m Q) := P_nx k65_4 rfl
set_option maxRecDepth 20000 in
theorem k65_5 : mjCode 65 5 = some (.bipush 8, 2, 0, 0) := by decide +kernel
theorem p65_5 {s0 : Int} {q0 q1 q2 q3 : MV} {ds : Ds} {m : Mm} {Q : Ds → Mm → List MV → Prop} : WP 65 5 [q0, q1, q2, q3] [(2, s0)] ds m Q = (WP 65 7 [q0, q1, q2, q3] [(0, 8), (2, s0)] ds m Q) := P_nx k65_5 rfl
set_option maxRecDepth 20000 in
theorem k65_7 : mjCode 65 7 = some (.anewarray 9, 3, 13, 0) := by decide +kernel
theorem p65_7 {s0 s1 : Int} {q0 q1 q2 q3 : MV} {ds : Ds} {m : Mm} {Q : Ds → Mm → List MV → Prop} : WP 65 7 [q0, q1, q2, q3] [(0, s0), (2, s1)] ds m Q = (((0 ≤ s0 ∧ s0 ≤ 30000) ∧ WP 65 10 [q0, q1, q2, q3] [(2, (ds.length : Int)), (2, s1)] (ds ++ [(13, s0.toNat)]) (al m (ds.length : Int) (dfl 13)) Q)) := P_gd k65_7 rfl
set_option maxRecDepth 20000 in
theorem k65_10 : mjCode 65 10 = some (.putfield 11, 3, 6, 2) := by decide +kernel
theorem p65_10 {s0 s1 : Int} {q0 q1 q2 q3 : MV} {ds : Ds} {m : Mm} {Q : Ds → Mm → List MV → Prop} : WP 65 10 [q0, q1, q2, q3] [(2, s0), (2, s1)] ds m Q = ((dk ds s1 = 6 ∧ WP 65 13 [q0, q1, q2, q3] [] ds (up m s1 2 s0) Q)) := P_pf k65_10 rfl
set_option maxRecDepth 20000 in
theorem k65_13 : mjCode 65 13 = some (.aload_n 0, 1, 0, 0) := by decide +kernel
theorem p65_13 {l0 : Int} {q1 q2 q3 : MV} {ds : Ds} {m : Mm} {Q : Ds → Mm → List MV → Prop} : WP 65 13 [(2, l0), q1, q2, q3] [] ds m Q = (WP 65 14 [(2, l0), q1, q2, q3] [(2, l0)] ds m Q) := P_nx k65_13 rfl
set_option maxRecDepth 20000 in
theorem k65_14 : mjCode 65 14 = some (.bipush 8, 2, 0, 0) := by decide +kernel
theorem p65_14 {s0 : Int} {q0 q1 q2 q3 : MV} {ds : Ds} {m : Mm} {Q : Ds → Mm → List MV → Prop} : WP 65 14 [q0, q1, q2, q3] [(2, s0)] ds m Q = (WP 65 16 [q0, q1, q2, q3] [(0, 8), (2, s0)] ds m Q) := P_nx k65_14 rfl
set_option maxRecDepth 20000 in
theorem k65_16 : mjCode 65 16 = some (.anewarray 15, 3, 14, 0) := by decide +kernel
theorem p65_16 {s0 s1 : Int} {q0 q1 q2 q3 : MV} {ds : Ds} {m : Mm} {Q : Ds → Mm → List MV → Prop} : WP 65 16 [q0, q1, q2, q3] [(0, s0), (2, s1)] ds m Q = (((0 ≤ s0 ∧ s0 ≤ 30000) ∧ WP 65 19 [q0, q1, q2, q3] [(2, (ds.length : Int)), (2, s1)] (ds ++ [(14, s0.toNat)]) (al m (ds.length : Int) (dfl 14)) Q)) := P_gd k65_16 rfl
set_option maxRecDepth 20000 in
theorem k65_19 : mjCode 65 19 = some (.putfield 17, 3, 6, 3) := by decide +kernel
theorem p65_19 {s0 s1 : Int} {q0 q1 q2 q3 : MV} {ds : Ds} {m : Mm} {Q : Ds → Mm → List MV → Prop} : WP 65 19 [q0, q1, q2, q3] [(2, s0), (2, s1)] ds m Q = ((dk ds s1 = 6 ∧ WP 65 22 [q0, q1, q2, q3] [] ds (up m s1 3 s0) Q)) := P_pf k65_19 rfl
set_option maxRecDepth 20000 in
theorem k65_22 : mjCode 65 22 = some (.aload_n 0, 1, 0, 0) := by decide +kernel
theorem p65_22 {l0 : Int} {q1 q2 q3 : MV} {ds : Ds} {m : Mm} {Q : Ds → Mm → List MV → Prop} : WP 65 22 [(2, l0), q1, q2, q3] [] ds m Q = (WP 65 23 [(2, l0), q1, q2, q3] [(2, l0)] ds m Q) := P_nx k65_22 rfl
set_option maxRecDepth 20000 in
theorem k65_23 : mjCode 65 23 = some (.bipush 8, 2, 0, 0) := by decide +kernel
theorem p65_23 {s0 : Int} {q0 q1 q2 q3 : MV} {ds : Ds} {m : Mm} {Q : Ds → Mm → List MV → Prop} : WP 65 23 [q0, q1, q2, q3] [(2, s0)] ds m Q = (WP 65 25 [q0, q1, q2, q3] [(0, 8), (2, s0)] ds m Q) := P_nx k65_23 rfl
set_option maxRecDepth 20000 in
theorem k65_25 : mjCode 65 25 = some (.newarray .int, 2, 10, 0) := by decide +kernel
theorem p65_25 {s0 s1 : Int} {q0 q1 q2 q3 : MV} {ds : Ds} {m : Mm} {Q : Ds → Mm → List MV → Prop} : WP 65 25 [q0, q1, q2, q3] [(0, s0), (2, s1)] ds m Q = (((0 ≤ s0 ∧ s0 ≤ 30000) ∧ WP 65 27 [q0, q1, q2, q3] [(2, (ds.length : Int)), (2, s1)] (ds ++ [(10, s0.toNat)]) (al m (ds.length : Int) (dfl 10)) Q)) := P_gd k65_25 rfl
set_option maxRecDepth 20000 in
theorem k65_27 : mjCode 65 27 = some (.putfield 21, 3, 6, 7) := by decide +kernel
theorem p65_27 {s0 s1 : Int} {q0 q1 q2 q3 : MV} {ds : Ds} {m : Mm} {Q : Ds → Mm → List MV → Prop} : WP 65 27 [q0, q1, q2, q3] [(2, s0), (2, s1)] ds m Q = ((dk ds s1 = 6 ∧ WP 65 30 [q0, q1, q2, q3] [] ds (up m s1 7 s0) Q)) := P_pf k65_27 rfl
set_option maxRecDepth 20000 in
theorem k65_30 : mjCode 65 30 = some (.aload_n 0, 1, 0, 0) := by decide +kernel
theorem p65_30 {l0 : Int} {q1 q2 q3 : MV} {ds : Ds} {m : Mm} {Q : Ds → Mm → List MV → Prop} : WP 65 30 [(2, l0), q1, q2, q3] [] ds m Q = (WP 65 31 [(2, l0), q1, q2, q3] [(2, l0)] ds m Q) := P_nx k65_30 rfl
set_option maxRecDepth 20000 in
theorem k65_31 : mjCode 65 31 = some (.sipush 384, 3, 0, 0) := by decide +kernel
theorem p65_31 {s0 : Int} {q0 q1 q2 q3 : MV} {ds : Ds} {m : Mm} {Q : Ds → Mm → List MV → Prop} : WP 65 31 [q0, q1, q2, q3] [(2, s0)] ds m Q = (WP 65 34 [q0, q1, q2, q3] [(0, 384), (2, s0)] ds m Q) := P_nx k65_31 rfl
set_option maxRecDepth 20000 in
theorem k65_34 : mjCode 65 34 = some (.newarray .int, 2, 10, 0) := by decide +kernel
theorem p65_34 {s0 s1 : Int} {q0 q1 q2 q3 : MV} {ds : Ds} {m : Mm} {Q : Ds → Mm → List MV → Prop} : WP 65 34 [q0, q1, q2, q3] [(0, s0), (2, s1)] ds m Q = (((0 ≤ s0 ∧ s0 ≤ 30000) ∧ WP 65 36 [q0, q1, q2, q3] [(2, (ds.length : Int)), (2, s1)] (ds ++ [(10, s0.toNat)]) (al m (ds.length : Int) (dfl 10)) Q)) := P_gd k65_34 rfl
set_option maxRecDepth 20000 in
theorem k65_36 : mjCode 65 36 = some (.putfield 25, 3, 6, 8) := by decide +kernel
theorem p65_36 {s0 s1 : Int} {q0 q1 q2 q3 : MV} {ds : Ds} {m : Mm} {Q : Ds → Mm → List MV → Prop} : WP 65 36 [q0, q1, q2, q3] [(2, s0), (2, s1)] ds m Q = ((dk ds s1 = 6 ∧ WP 65 39 [q0, q1, q2, q3] [] ds (up m s1 8 s0) Q)) := P_pf k65_36 rfl
set_option maxRecDepth 20000 in
theorem k65_39 : mjCode 65 39 = some (.aload_n 0, 1, 0, 0) := by decide +kernel
theorem p65_39 {l0 : Int} {q1 q2 q3 : MV} {ds : Ds} {m : Mm} {Q : Ds → Mm → List MV → Prop} : WP 65 39 [(2, l0), q1, q2, q3] [] ds m Q = (WP 65 40 [(2, l0), q1, q2, q3] [(2, l0)] ds m Q) := P_nx k65_39 rfl
set_option maxRecDepth 20000 in
theorem k65_40 : mjCode 65 40 = some (.bipush 62, 2, 0, 0) := by decide +kernel
theorem p65_40 {s0 : Int} {q0 q1 q2 q3 : MV} {ds : Ds} {m : Mm} {Q : Ds → Mm → List MV → Prop} : WP 65 40 [q0, q1, q2, q3] [(2, s0)] ds m Q = (WP 65 42 [q0, q1, q2, q3] [(0, 62), (2, s0)] ds m Q) := P_nx k65_40 rfl
set_option maxRecDepth 20000 in
theorem k65_42 : mjCode 65 42 = some (.newarray .int, 2, 10, 0) := by decide +kernel
theorem p65_42 {s0 s1 : Int} {q0 q1 q2 q3 : MV} {ds : Ds} {m : Mm} {Q : Ds → Mm → List MV → Prop} : WP 65 42 [q0, q1, q2, q3] [(0, s0), (2, s1)] ds m Q = (((0 ≤ s0 ∧ s0 ≤ 30000) ∧ WP 65 44 [q0, q1, q2, q3] [(2, (ds.length : Int)), (2, s1)] (ds ++ [(10, s0.toNat)]) (al m (ds.length : Int) (dfl 10)) Q)) := P_gd k65_42 rfl
set_option maxRecDepth 20000 in
theorem k65_44 : mjCode 65 44 = some (.putfield 28, 3, 6, 10) := by decide +kernel
theorem p65_44 {s0 s1 : Int} {q0 q1 q2 q3 : MV} {ds : Ds} {m : Mm} {Q : Ds → Mm → List MV → Prop} : WP 65 44 [q0, q1, q2, q3] [(2, s0), (2, s1)] ds m Q = ((dk ds s1 = 6 ∧ WP 65 47 [q0, q1, q2, q3] [] ds (up m s1 10 s0) Q)) := P_pf k65_44 rfl
set_option maxRecDepth 20000 in
theorem k65_47 : mjCode 65 47 = some (.aload_n 0, 1, 0, 0) := by decide +kernel
theorem p65_47 {l0 : Int} {q1 q2 q3 : MV} {ds : Ds} {m : Mm} {Q : Ds → Mm → List MV → Prop} : WP 65 47 [(2, l0), q1, q2, q3] [] ds m Q = (WP 65 48 [(2, l0), q1, q2, q3] [(2, l0)] ds m Q) := P_nx k65_47 rfl
set_option maxRecDepth 20000 in
theorem k65_48 : mjCode 65 48 = some (.iconst 2, 1, 0, 0) := by decide +kernel
theorem p65_48 {s0 : Int} {q0 q1 q2 q3 : MV} {ds : Ds} {m : Mm} {Q : Ds → Mm → List MV → Prop} : WP 65 48 [q0, q1, q2, q3] [(2, s0)] ds m Q = (WP 65 49 [q0, q1, q2, q3] [(0, 2), (2, s0)] ds m Q) := P_nx k65_48 rfl
set_option maxRecDepth 20000 in
theorem k65_49 : mjCode 65 49 = some (.newarray .int, 2, 10, 0) := by decide +kernel
theorem p65_49 {s0 s1 : Int} {q0 q1 q2 q3 : MV} {ds : Ds} {m : Mm} {Q : Ds → Mm → List MV → Prop} : WP 65 49 [q0, q1, q2, q3] [(0, s0), (2, s1)] ds m Q = (((0 ≤ s0 ∧ s0 ≤ 30000) ∧ WP 65 51 [q0, q1, q2, q3] [(2, (ds.length : Int)), (2, s1)] (ds ++ [(10, s0.toNat)]) (al m (ds.length : Int) (dfl 10)) Q)) := P_gd k65_49 rfl
set_option maxRecDepth 20000 in
theorem k65_51 : mjCode 65 51 = some (.putfield 31, 3, 6, 12) := by decide +kernel
theorem p65_51 {s0 s1 : Int} {q0 q1 q2 q3 : MV} {ds : Ds} {m : Mm} {Q : Ds → Mm → List MV → Prop} : WP 65 51 [q0, q1, q2, q3] [(2, s0), (2, s1)] ds m Q = ((dk ds s1 = 6 ∧ WP 65 54 [q0, q1, q2, q3] [] ds (up m s1 12 s0) Q)) := P_pf k65_51 rfl
set_option maxRecDepth 20000 in
theorem k65_54 : mjCode 65 54 = some (.aload_n 0, 1, 0, 0) := by decide +kernel
theorem p65_54 {l0 : Int} {q1 q2 q3 : MV} {ds : Ds} {m : Mm} {Q : Ds → Mm → List MV → Prop} : WP 65 54 [(2, l0), q1, q2, q3] [] ds m Q = (WP 65 55 [(2, l0), q1, q2, q3] [(2, l0)] ds m Q) := P_nx k65_54 rfl
set_option maxRecDepth 20000 in
theorem k65_55 : mjCode 65 55 = some (.bipush 96, 2, 0, 0) := by decide +kernel
theorem p65_55 {s0 : Int} {q0 q1 q2 q3 : MV} {ds : Ds} {m : Mm} {Q : Ds → Mm → List MV → Prop} : WP 65 55 [q0, q1, q2, q3] [(2, s0)] ds m Q = (WP 65 57 [q0, q1, q2, q3] [(0, 96), (2, s0)] ds m Q) := P_nx k65_55 rfl
set_option maxRecDepth 20000 in
theorem k65_57 : mjCode 65 57 = some (.newarray .boolean, 2, 11, 0) := by decide +kernel
theorem p65_57 {s0 s1 : Int} {q0 q1 q2 q3 : MV} {ds : Ds} {m : Mm} {Q : Ds → Mm → List MV → Prop} : WP 65 57 [q0, q1, q2, q3] [(0, s0), (2, s1)] ds m Q = (((0 ≤ s0 ∧ s0 ≤ 30000) ∧ WP 65 59 [q0, q1, q2, q3] [(2, (ds.length : Int)), (2, s1)] (ds ++ [(11, s0.toNat)]) (al m (ds.length : Int) (dfl 11)) Q)) := P_gd k65_57 rfl
set_option maxRecDepth 20000 in
theorem k65_59 : mjCode 65 59 = some (.putfield 34, 3, 6, 14) := by decide +kernel
theorem p65_59 {s0 s1 : Int} {q0 q1 q2 q3 : MV} {ds : Ds} {m : Mm} {Q : Ds → Mm → List MV → Prop} : WP 65 59 [q0, q1, q2, q3] [(2, s0), (2, s1)] ds m Q = ((dk ds s1 = 6 ∧ WP 65 62 [q0, q1, q2, q3] [] ds (up m s1 14 s0) Q)) := P_pf k65_59 rfl
set_option maxRecDepth 20000 in
theorem k65_62 : mjCode 65 62 = some (.aload_n 0, 1, 0, 0) := by decide +kernel
theorem p65_62 {l0 : Int} {q1 q2 q3 : MV} {ds : Ds} {m : Mm} {Q : Ds → Mm → List MV → Prop} : WP 65 62 [(2, l0), q1, q2, q3] [] ds m Q = (WP 65 63 [(2, l0), q1, q2, q3] [(2, l0)] ds m Q) := P_nx k65_62 rfl
set_option maxRecDepth 20000 in
theorem k65_63 : mjCode 65 63 = some (.bipush 96, 2, 0, 0) := by decide +kernel
theorem p65_63 {s0 : Int} {q0 q1 q2 q3 : MV} {ds : Ds} {m : Mm} {Q : Ds → Mm → List MV → Prop} : WP 65 63 [q0, q1, q2, q3] [(2, s0)] ds m Q = (WP 65 65 [q0, q1, q2, q3] [(0, 96), (2, s0)] ds m Q) := P_nx k65_63 rfl
set_option maxRecDepth 20000 in
theorem k65_65 : mjCode 65 65 = some (.newarray .boolean, 2, 11, 0) := by decide +kernel
theorem p65_65 {s0 s1 : Int} {q0 q1 q2 q3 : MV} {ds : Ds} {m : Mm} {Q : Ds → Mm → List MV → Prop} : WP 65 65 [q0, q1, q2, q3] [(0, s0), (2, s1)] ds m Q = (((0 ≤ s0 ∧ s0 ≤ 30000) ∧ WP 65 67 [q0, q1, q2, q3] [(2, (ds.length : Int)), (2, s1)] (ds ++ [(11, s0.toNat)]) (al m (ds.length : Int) (dfl 11)) Q)) := P_gd k65_65 rfl
set_option maxRecDepth 20000 in
theorem k65_67 : mjCode 65 67 = some (.putfield 38, 3, 6, 15) := by decide +kernel
theorem p65_67 {s0 s1 : Int} {q0 q1 q2 q3 : MV} {ds : Ds} {m : Mm} {Q : Ds → Mm → List MV → Prop} : WP 65 67 [q0, q1, q2, q3] [(2, s0), (2, s1)] ds m Q = ((dk ds s1 = 6 ∧ WP 65 70 [q0, q1, q2, q3] [] ds (up m s1 15 s0) Q)) := P_pf k65_67 rfl
set_option maxRecDepth 20000 in
theorem k65_70 : mjCode 65 70 = some (.new 15, 3, 3, 0) := by decide +kernel
theorem p65_70 {q0 q1 q2 q3 : MV} {ds : Ds} {m : Mm} {Q : Ds → Mm → List MV → Prop} : WP 65 70 [q0, q1, q2, q3] [] ds m Q = (WP 65 73 [q0, q1, q2, q3] [(2, (ds.length : Int))] (ds ++ [(3, 9)]) (al m (ds.length : Int) (dfl 3)) Q) := P_nx k65_70 rfl
set_option maxRecDepth 20000 in
theorem k65_73 : mjCode 65 73 = some (.dup, 1, 0, 0) := by decide +kernel
theorem p65_73 {s0 : Int} {q0 q1 q2 q3 : MV} {ds : Ds} {m : Mm} {Q : Ds → Mm → List MV → Prop} : WP 65 73 [q0, q1, q2, q3] [(2, s0)] ds m Q = (WP 65 74 [q0, q1, q2, q3] [(2, s0), (2, s0)] ds m Q) := P_nx k65_73 rfl
set_option maxRecDepth 20000 in
theorem k65_74 : mjCode 65 74 = some (.invokespecial 41, 3, 23, 1) := by decide +kernel
theorem p65_74 {s0 s1 : Int} {q0 q1 q2 q3 : MV} {ds : Ds} {m : Mm} {Q : Ds → Mm → List MV → Prop} : WP 65 74 [q0, q1, q2, q3] [(2, s0), (2, s1)] ds m Q = ((dk ds s0 = 3 ∧ WP 22 0 [(2, s0)] [] ds m (fun d2 m2 r2 => WP 65 77 [q0, q1, q2, q3] (r2 ++ [(2, s1)]) d2 m2 Q))) := P_cv k65_74 mx22 mo22 rfl rfl rfl rfl rfl rfl rfl rfl
set_option maxRecDepth 20000 in
theorem k65_77 : mjCode 65 77 = some (.astore_n 1, 1, 0, 0) := by decide +kernel
theorem p65_77 {l0 s0 : Int} {q1 q2 q3 : MV} {ds : Ds} {m : Mm} {Q : Ds → Mm → List MV → Prop} : WP 65 77 [(2, l0), q1, q2, q3] [(2, s0)] ds m Q = (WP 65 78 [(2, l0), (2, s0), q2, q3] [] ds m Q) := P_nx k65_77 rfl
set_option maxRecDepth 20000 in
theorem k65_78 : mjCode 65 78 = some (.new 15, 3, 3, 0) := by decide +kernel
theorem p65_78 {q0 q1 q2 q3 : MV} {ds : Ds} {m : Mm} {Q : Ds → Mm → List MV → Prop} : WP 65 78 [q0, q1, q2, q3] [] ds m Q = (WP 65 81 [q0, q1, q2, q3] [(2, (ds.length : Int))] (ds ++ [(3, 9)]) (al m (ds.length : Int) (dfl 3)) Q) := P_nx k65_78 rfl
set_option maxRecDepth 20000 in
theorem k65_81 : mjCode 65 81 = some (.dup, 1, 0, 0) := by decide +kernel
theorem p65_81 {s0 : Int} {q0 q1 q2 q3 : MV} {ds : Ds} {m : Mm} {Q : Ds → Mm → List MV → Prop} : WP 65 81 [q0, q1, q2, q3] [(2, s0)] ds m Q = (WP 65 82 [q0, q1, q2, q3] [(2, s0), (2, s0)] ds m Q) := P_nx k65_81 rfl
set_option maxRecDepth 20000 in
theorem k65_82 : mjCode 65 82 = some (.invokespecial 41, 3, 23, 1) := by decide +kernel
theorem p65_82 {s0 s1 : Int} {q0 q1 q2 q3 : MV} {ds : Ds} {m : Mm} {Q : Ds → Mm → List MV → Prop} : WP 65 82 [q0, q1, q2, q3] [(2, s0), (2, s1)] ds m Q = ((dk ds s0 = 3 ∧ WP 22 0 [(2, s0)] [] ds m (fun d2 m2 r2 => WP 65 85 [q0, q1, q2, q3] (r2 ++ [(2, s1)]) d2 m2 Q))) := P_cv k65_82 mx22 mo22 rfl rfl rfl rfl rfl rfl rfl rfl
set_option maxRecDepth 20000 in
theorem k65_85 : mjCode 65 85 = some (.astore_n 2, 1, 0, 0) := by decide +kernel
theorem p65_85 {l1 s0 : Int} {q0 q2 q3 : MV} {ds : Ds} {m : Mm} {Q : Ds → Mm → List MV → Prop} : WP 65 85 [q0, (2, l1), q2, q3] [(2, s0)] ds m Q = (WP 65 86 [q0, (2, l1), (2, s0), q3] [] ds m Q) := P_nx k65_85 rfl
set_option maxRecDepth 20000 in
theorem k65_86 : mjCode 65 86 = some (.new 42, 3, 1, 0) := by decide +kernel
theorem p65_86 {q0 q1 q2 q3 : MV} {ds : Ds} {m : Mm} {Q : Ds → Mm → List MV → Prop} : WP 65 86 [q0, q1, q2, q3] [] ds m Q = (WP 65 89 [q0, q1, q2, q3] [(2, (ds.length : Int))] (ds ++ [(1, 8)]) (al m (ds.length : Int) (dfl 1)) Q) := P_nx k65_86 rfl
set_option maxRecDepth 20000 in
theorem k65_89 : mjCode 65 89 = some (.dup, 1, 0, 0) := by decide +kernel
theorem p65_89 {s0 : Int} {q0 q1 q2 q3 : MV} {ds : Ds} {m : Mm} {Q : Ds → Mm → List MV → Prop} : WP 65 89 [q0, q1, q2, q3] [(2, s0)] ds m Q = (WP 65 90 [q0, q1, q2, q3] [(2, s0), (2, s0)] ds m Q) := P_nx k65_89 rfl
set_option maxRecDepth 20000 in
theorem k65_90 : mjCode 65 90 = some (.invokespecial 44, 3, 11, 1) := by decide +kernel
theorem p65_90 {s0 s1 : Int} {q0 q1 q2 q3 : MV} {ds : Ds} {m : Mm} {Q : Ds → Mm → List MV → Prop} : WP 65 90 [q0, q1, q2, q3] [(2, s0), (2, s1)] ds m Q = ((dk ds s0 = 1 ∧ WP 10 0 [(2, s0)] [] ds m (fun d2 m2 r2 => WP 65 93 [q0, q1, q2, q3] (r2 ++ [(2, s1)]) d2 m2 Q))) := P_cv k65_90 mx10 mo10 rfl rfl rfl rfl rfl rfl rfl rfl
set_option maxRecDepth 20000 in
theorem k65_93 : mjCode 65 93 = some (.astore_n 3, 1, 0, 0) := by decide +kernel
theorem p65_93 {l2 s0 : Int} {q0 q1 q3 : MV} {ds : Ds} {m : Mm} {Q : Ds → Mm → List MV → Prop} : WP 65 93 [q0, q1, (2, l2), q3] [(2, s0)] ds m Q = (WP 65 94 [q0, q1, (2, l2), (2, s0)] [] ds m Q) := P_nx k65_93 rfl
set_option maxRecDepth 20000 in
theorem k65_94 : mjCode 65 94 = some (.aload_n 0, 1, 0, 0) := by decide +kernel
theorem p65_94 {l0 : Int} {q1 q2 q3 : MV} {ds : Ds} {m : Mm} {Q : Ds → Mm → List MV → Prop} : WP 65 94 [(2, l0), q1, q2, q3] [] ds m Q = (WP 65 95 [(2, l0), q1, q2, q3] [(2, l0)] ds m Q) := P_nx k65_94 rfl
set_option maxRecDepth 20000 in
theorem k65_95 : mjCode 65 95 = some (.aload_n 1, 1, 0, 0) := by decide +kernel
theorem p65_95 {l1 s0 : Int} {q0 q2 q3 : MV} {ds : Ds} {m : Mm} {Q : Ds → Mm → List MV → Prop} : WP 65 95 [q0, (2, l1), q2, q3] [(2, s0)] ds m Q = (WP 65 96 [q0, (2, l1), q2, q3] [(2, l1), (2, s0)] ds m Q) := P_nx k65_95 rfl
set_option maxRecDepth 20000 in
theorem k65_96 : mjCode 65 96 = some (.putfield 45, 3, 6, 0) := by decide +kernel
theorem p65_96 {s0 s1 : Int} {q0 q1 q2 q3 : MV} {ds : Ds} {m : Mm} {Q : Ds → Mm → List MV → Prop} : WP 65 96 [q0, q1, q2, q3] [(2, s0), (2, s1)] ds m Q = ((dk ds s1 = 6 ∧ WP 65 99 [q0, q1, q2, q3] [] ds (up m s1 0 s0) Q)) := P_pf k65_96 rfl
set_option maxRecDepth 20000 in
theorem k65_99 : mjCode 65 99 = some (.aload_n 0, 1, 0, 0) := by decide +kernel
theorem p65_99 {l0 : Int} {q1 q2 q3 : MV} {ds : Ds} {m : Mm} {Q : Ds → Mm → List MV → Prop} : WP 65 99 [(2, l0), q1, q2, q3] [] ds m Q = (WP 65 100 [(2, l0), q1, q2, q3] [(2, l0)] ds m Q) := P_nx k65_99 rfl
set_option maxRecDepth 20000 in
theorem k65_100 : mjCode 65 100 = some (.aload_n 2, 1, 0, 0) := by decide +kernel
theorem p65_100 {l2 s0 : Int} {q0 q1 q3 : MV} {ds : Ds} {m : Mm} {Q : Ds → Mm → List MV → Prop} : WP 65 100 [q0, q1, (2, l2), q3] [(2, s0)] ds m Q = (WP 65 101 [q0, q1, (2, l2), q3] [(2, l2), (2, s0)] ds m Q) := P_nx k65_100 rfl
set_option maxRecDepth 20000 in
theorem k65_101 : mjCode 65 101 = some (.putfield 49, 3, 6, 1) := by decide +kernel
theorem p65_101 {s0 s1 : Int} {q0 q1 q2 q3 : MV} {ds : Ds} {m : Mm} {Q : Ds → Mm → List MV → Prop} : WP 65 101 [q0, q1, q2, q3] [(2, s0), (2, s1)] ds m Q = ((dk ds s1 = 6 ∧ WP 65 104 [q0, q1, q2, q3] [] ds (up m s1 1 s0) Q)) := P_pf k65_101 rfl
set_option maxRecDepth 20000 in
theorem k65_104 : mjCode 65 104 = some (.aload_n 0, 1, 0, 0) := by decide +kernel
theorem p65_104 {l0 : Int} {q1 q2 q3 : MV} {ds : Ds} {m : Mm} {Q : Ds → Mm → List MV → Prop} : WP 65 104 [(2, l0), q1, q2, q3] [] ds m Q = (WP 65 105 [(2, l0), q1, q2, q3] [(2, l0)] ds m Q) := P_nx k65_104 rfl
set_option maxRecDepth 20000 in
theorem k65_105 : mjCode 65 105 = some (.new 52, 3, 5, 0) := by decide +kernel
theorem p65_105 {s0 : Int} {q0 q1 q2 q3 : MV} {ds : Ds} {m : Mm} {Q : Ds → Mm → List MV → Prop} : WP 65 105 [q0, q1, q2, q3] [(2, s0)] ds m Q = (WP 65 108 [q0, q1, q2, q3] [(2, (ds.length : Int)), (2, s0)] (ds ++ [(5, 13)]) (al m (ds.length : Int) (dfl 5)) Q) := P_nx k65_105 rfl
set_option maxRecDepth 20000 in
theorem k65_108 : mjCode 65 108 = some (.dup, 1, 0, 0) := by decide +kernel
theorem p65_108 {s0 s1 : Int} {q0 q1 q2 q3 : MV} {ds : Ds} {m : Mm} {Q : Ds → Mm → List MV → Prop} : WP 65 108 [q0, q1, q2, q3] [(2, s0), (2, s1)] ds m Q = (WP 65 109 [q0, q1, q2, q3] [(2, s0), (2, s0), (2, s1)] ds m Q) := P_nx k65_108 rfl
set_option maxRecDepth 20000 in
theorem k65_109 : mjCode 65 109 = some (.aload_n 1, 1, 0, 0) := by decide +kernel
theorem p65_109 {l1 s0 s1 s2 : Int} {q0 q2 q3 : MV} {ds : Ds} {m : Mm} {Q : Ds → Mm → List MV → Prop} : WP 65 109 [q0, (2, l1), q2, q3] [(2, s0), (2, s1), (2, s2)] ds m Q = (WP 65 110 [q0, (2, l1), q2, q3] [(2, l1), (2, s0), (2, s1), (2, s2)] ds m Q) := P_nx k65_109 rfl
set_option maxRecDepth 20000 in
theorem k65_110 : mjCode 65 110 = some (.aload_n 3, 1, 0, 0) := by decide +kernel
theorem p65_110 {l3 s0 s1 s2 s3 : Int} {q0 q1 q2 : MV} {ds : Ds} {m : Mm} {Q : Ds → Mm → List MV → Prop} : WP 65 110 [q0, q1, q2, (2, l3)] [(2, s0), (2, s1), (2, s2), (2, s3)] ds m Q = (WP 65 111 [q0, q1, q2, (2, l3)] [(2, l3), (2, s0), (2, s1), (2, s2), (2, s3)] ds m Q) := P_nx k65_110 rfl
set_option maxRecDepth 20000 in
theorem k65_111 : mjCode 65 111 = some (.new 54, 3, 2, 0) := by decide +kernel
theorem p65_111 {s0 s1 s2 s3 s4 : Int} {q0 q1 q2 q3 : MV} {ds : Ds} {m : Mm} {Q : Ds → Mm → List MV → Prop} : WP 65 111 [q0, q1, q2, q3] [(2, s0), (2, s1), (2, s2), (2, s3), (2, s4)] ds m Q = (WP 65 114 [q0, q1, q2, q3] [(2, (ds.length : Int)), (2, s0), (2, s1), (2, s2), (2, s3), (2, s4)] (ds ++ [(2, 5)]) (al m (ds.length : Int) (dfl 2)) Q) := P_nx k65_111 rfl
set_option maxRecDepth 20000 in
theorem k65_114 : mjCode 65 114 = some (.dup, 1, 0, 0) := by decide +kernel
theorem p65_114 {s0 s1 s2 s3 s4 s5 : Int} {q0 q1 q2 q3 : MV} {ds : Ds} {m : Mm} {Q : Ds → Mm → List MV → Prop} : WP 65 114 [q0, q1, q2, q3] [(2, s0), (2, s1), (2, s2), (2, s3), (2, s4), (2, s5)] ds m Q = (WP 65 115 [q0, q1, q2, q3] [(2, s0), (2, s0), (2, s1), (2, s2), (2, s3), (2, s4), (2, s5)] ds m Q) := P_nx k65_114 rfl
set_option maxRecDepth 20000 in
theorem k65_115 : mjCode 65 115 = some (.sipush 1000, 3, 0, 0) := by decide +kernel
theorem p65_115 {s0 s1 s2 s3 s4 s5 s6 : Int} {q0 q1 q2 q3 : MV} {ds : Ds} {m : Mm} {Q : Ds → Mm → List MV → Prop} : WP 65 115 [q0, q1, q2, q3] [(2, s0), (2, s1), (2, s2), (2, s3), (2, s4), (2, s5), (2, s6)] ds m Q = (WP 65 118 [q0, q1, q2, q3] [(0, 1000), (2, s0), (2, s1), (2, s2), (2, s3), (2, s4), (2, s5), (2, s6)] ds m Q) := P_nx k65_115 rfl
set_option maxRecDepth 20000 in
theorem k65_118 : mjCode 65 118 = some (.invokespecial 56, 3, 16, 2) := by decide +kernel
theorem p65_118 {s0 s1 s2 s3 s4 s5 s6 s7 : Int} {q0 q1 q2 q3 : MV} {ds : Ds} {m : Mm} {Q : Ds → Mm → List MV → Prop} : WP 65 118 [q0, q1, q2, q3] [(0, s0), (2, s1), (2, s2), (2, s3), (2, s4), (2, s5), (2, s6), (2, s7)] ds m Q = ((dk ds s1 = 2 ∧ WP 15 0 [(2, s1), (0, s0), (3, 0)] [] ds m (fun d2 m2 r2 => WP 65 121 [q0, q1, q2, q3] (r2 ++ [(2, s2), (2, s3), (2, s4), (2, s5), (2, s6), (2, s7)]) d2 m2 Q))) := P_cv k65_118 mx15 mo15 rfl rfl rfl rfl rfl rfl rfl rfl
set_option maxRecDepth 20000 in
theorem k65_121 : mjCode 65 121 = some (.invokespecial 59, 3, 51, 4) := by decide +kernel
theorem p65_121 {s0 s1 s2 s3 s4 s5 : Int} {q0 q1 q2 q3 : MV} {ds : Ds} {m : Mm} {Q : Ds → Mm → List MV → Prop} : WP 65 121 [q0, q1, q2, q3] [(2, s0), (2, s1), (2, s2), (2, s3), (2, s4), (2, s5)] ds m Q = ((dk ds s3 = 5 ∧ WP 50 0 [(2, s3), (2, s2), (2, s1), (2, s0)] [] ds m (fun d2 m2 r2 => WP 65 124 [q0, q1, q2, q3] (r2 ++ [(2, s4), (2, s5)]) d2 m2 Q))) := P_cv k65_121 mx50 mo50 rfl rfl rfl rfl rfl rfl rfl rfl
set_option maxRecDepth 20000 in
theorem k65_124 : mjCode 65 124 = some (.putfield 62, 3, 6, 4) := by decide +kernel
theorem p65_124 {s0 s1 : Int} {q0 q1 q2 q3 : MV} {ds : Ds} {m : Mm} {Q : Ds → Mm → List MV → Prop} : WP 65 124 [q0, q1, q2, q3] [(2, s0), (2, s1)] ds m Q = ((dk ds s1 = 6 ∧ WP 65 127 [q0, q1, q2, q3] [] ds (up m s1 4 s0) Q)) := P_pf k65_124 rfl
set_option maxRecDepth 20000 in
theorem k65_127 : mjCode 65 127 = some (.aload_n 0, 1, 0, 0) := by decide +kernel
theorem p65_127 {l0 : Int} {q1 q2 q3 : MV} {ds : Ds} {m : Mm} {Q : Ds → Mm → List MV → Prop} : WP 65 127 [(2, l0), q1, q2, q3] [] ds m Q = (WP 65 128 [(2, l0), q1, q2, q3] [(2, l0)] ds m Q) := P_nx k65_127 rfl
set_option maxRecDepth 20000 in
theorem k65_128 : mjCode 65 128 = some (.new 52, 3, 5, 0) := by decide +kernel
theorem p65_128 {s0 : Int} {q0 q1 q2 q3 : MV} {ds : Ds} {m : Mm} {Q : Ds → Mm → List MV → Prop} : WP 65 128 [q0, q1, q2, q3] [(2, s0)] ds m Q = (WP 65 131 [q0, q1, q2, q3] [(2, (ds.length : Int)), (2, s0)] (ds ++ [(5, 13)]) (al m (ds.length : Int) (dfl 5)) Q) := P_nx k65_128 rfl
set_option maxRecDepth 20000 in
theorem k65_131 : mjCode 65 131 = some (.dup, 1, 0, 0) := by decide +kernel
theorem p65_131 {s0 s1 : Int} {q0 q1 q2 q3 : MV} {ds : Ds} {m : Mm} {Q : Ds → Mm → List MV → Prop} : WP 65 131 [q0, q1, q2, q3] [(2, s0), (2, s1)] ds m Q = (WP 65 132 [q0, q1, q2, q3] [(2, s0), (2, s0), (2, s1)] ds m Q) := P_nx k65_131 rfl
set_option maxRecDepth 20000 in
theorem k65_132 : mjCode 65 132 = some (.aload_n 2, 1, 0, 0) := by decide +kernel
theorem p65_132 {l2 s0 s1 s2 : Int} {q0 q1 q3 : MV} {ds : Ds} {m : Mm} {Q : Ds → Mm → List MV → Prop} : WP 65 132 [q0, q1, (2, l2), q3] [(2, s0), (2, s1), (2, s2)] ds m Q = (WP 65 133 [q0, q1, (2, l2), q3] [(2, l2), (2, s0), (2, s1), (2, s2)] ds m Q) := P_nx k65_132 rfl
set_option maxRecDepth 20000 in
theorem k65_133 : mjCode 65 133 = some (.aload_n 3, 1, 0, 0) := by decide +kernel
theorem p65_133 {l3 s0 s1 s2 s3 : Int} {q0 q1 q2 : MV} {ds : Ds} {m : Mm} {Q : Ds → Mm → List MV → Prop} : WP 65 133 [q0, q1, q2, (2, l3)] [(2, s0), (2, s1), (2, s2), (2, s3)] ds m Q = (WP 65 134 [q0, q1, q2, (2, l3)] [(2, l3), (2, s0), (2, s1), (2, s2), (2, s3)] ds m Q) := P_nx k65_133 rfl
set_option maxRecDepth 20000 in
theorem k65_134 : mjCode 65 134 = some (.new 54, 3, 2, 0) := by decide +kernel
theorem p65_134 {s0 s1 s2 s3 s4 : Int} {q0 q1 q2 q3 : MV} {ds : Ds} {m : Mm} {Q : Ds → Mm → List MV → Prop} : WP 65 134 [q0, q1, q2, q3] [(2, s0), (2, s1), (2, s2), (2, s3), (2, s4)] ds m Q = (WP 65 137 [q0, q1, q2, q3] [(2, (ds.length : Int)), (2, s0), (2, s1), (2, s2), (2, s3), (2, s4)] (ds ++ [(2, 5)]) (al m (ds.length : Int) (dfl 2)) Q) := P_nx k65_134 rfl
set_option maxRecDepth 20000 in
theorem k65_137 : mjCode 65 137 = some (.dup, 1, 0, 0) := by decide +kernel
theorem p65_137 {s0 s1 s2 s3 s4 s5 : Int} {q0 q1 q2 q3 : MV} {ds : Ds} {m : Mm} {Q : Ds → Mm → List MV → Prop} : WP 65 137 [q0, q1, q2, q3] [(2, s0), (2, s1), (2, s2), (2, s3), (2, s4), (2, s5)] ds m Q = (WP 65 138 [q0, q1, q2, q3] [(2, s0), (2, s0), (2, s1), (2, s2), (2, s3), (2, s4), (2, s5)] ds m Q) := P_nx k65_137 rfl
set_option maxRecDepth 20000 in
theorem k65_138 : mjCode 65 138 = some (.iconst 0, 1, 0, 0) := by decide +kernel
theorem p65_138 {s0 s1 s2 s3 s4 s5 s6 : Int} {q0 q1 q2 q3 : MV} {ds : Ds} {m : Mm} {Q : Ds → Mm → List MV → Prop} : WP 65 138 [q0, q1, q2, q3] [(2, s0), (2, s1), (2, s2), (2, s3), (2, s4), (2, s5), (2, s6)] ds m Q = (WP 65 139 [q0, q1, q2, q3] [(0, 0), (2, s0), (2, s1), (2, s2), (2, s3), (2, s4), (2, s5), (2, s6)] ds m Q) := P_nx k65_138 rfl
set_option maxRecDepth 20000 in
theorem k65_139 : mjCode 65 139 = some (.invokespecial 56, 3, 16, 2) := by decide +kernel
theorem p65_139 {s0 s1 s2 s3 s4 s5 s6 s7 : Int} {q0 q1 q2 q3 : MV} {ds : Ds} {m : Mm} {Q : Ds → Mm → List MV → Prop} : WP 65 139 [q0, q1, q2, q3] [(0, s0), (2, s1), (2, s2), (2, s3), (2, s4), (2, s5), (2, s6), (2, s7)] ds m Q = ((dk ds s1 = 2 ∧ WP 15 0 [(2, s1), (0, s0), (3, 0)] [] ds m (fun d2 m2 r2 => WP 65 142 [q0, q1, q2, q3] (r2 ++ [(2, s2), (2, s3), (2, s4), (2, s5), (2, s6), (2, s7)]) d2 m2 Q))) := P_cv k65_139 mx15 mo15 rfl rfl rfl rfl rfl rfl rfl rfl
set_option maxRecDepth 20000 in
theorem k65_142 : mjCode 65 142 = some (.invokespecial 59, 3, 51, 4) := by decide +kernel
theorem p65_142 {s0 s1 s2 s3 s4 s5 : Int} {q0 q1 q2 q3 : MV} {ds : Ds} {m : Mm} {Q : Ds → Mm → List MV → Prop} : WP 65 142 [q0, q1, q2, q3] [(2, s0), (2, s1), (2, s2), (2, s3), (2, s4), (2, s5)] ds m Q = ((dk ds s3 = 5 ∧ WP 50 0 [(2, s3), (2, s2), (2, s1), (2, s0)] [] ds m (fun d2 m2 r2 => WP 65 145 [q0, q1, q2, q3] (r2 ++ [(2, s4), (2, s5)]) d2 m2 Q))) := P_cv k65_142 mx50 mo50 rfl rfl rfl rfl rfl rfl rfl rfl
set_option maxRecDepth 20000 in
theorem k65_145 : mjCode 65 145 = some (.putfield 66, 3, 6, 5) := by decide +kernel
theorem p65_145 {s0 s1 : Int} {q0 q1 q2 q3 : MV} {ds : Ds} {m : Mm} {Q : Ds → Mm → List MV → Prop} : WP 65 145 [q0, q1, q2, q3] [(2, s0), (2, s1)] ds m Q = ((dk ds s1 = 6 ∧ WP 65 148 [q0, q1, q2, q3] [] ds (up m s1 5 s0) Q)) := P_pf k65_145 rfl
set_option maxRecDepth 20000 in
theorem k65_148 : mjCode 65 148 = some (.return_, 1, 0, 0) := by decide +kernel
theorem p65_148 {q0 q1 q2 q3 : MV} {ds : Ds} {m : Mm} {Q : Ds → Mm → List MV → Prop} : WP 65 148 [q0, q1, q2, q3] [] ds m Q = (Q ds m []) := P_rv k65_148 rk65
set_option maxRecDepth 20000 in
theorem k66_0 : mjCode 66 0 = some (.iload_n 1, 1, 0, 0) := by decide +kernel
theorem p66_0 {l1 : Int} {q0 q2 q3 q4 : MV} {ds : Ds} {m : Mm} {Q : Ds → Mm → List MV → Prop} : WP 66 0 [q0, (0, l1), q2, q3, q4] [] ds m Q = (WP 66 1 [q0, (0, l1), q2, q3, q4] [(0, l1)] ds m Q) := P_nx k66_0 rfl
set_option maxRecDepth 20000 in
theorem k66_1 : mjCode 66 1 = some (.invokestatic 69, 3, 108, 1) := by decide +kernel
theorem p66_1 {s0 : Int} {q0 q1 q2 q3 q4 : MV} {ds : Ds} {m : Mm} {Q : Ds → Mm → List MV → Prop} : WP 66 1 [q0, q1, q2, q3, q4] [(0, s0)] ds m Q = (WP 107 0 [(0, s0)] [] ds m (fun d2 m2 r2 => WP 66 4 [q0, q1, q2, q3, q4] (r2 ++ []) d2 m2 Q)) := P_cs k66_1 mx107 rfl rfl rfl rfl rfl rfl rfl
set_option maxRecDepth 20000 in
theorem k66_4 : mjCode 66 4 = some (.ifCond .ne 9, 3, 13, 0) := by decide +kernel
theorem p66_4 {s0 : Int} {q0 q1 q2 q3 q4 : MV} {ds : Ds} {m : Mm} {Q : Ds → Mm → List MV → Prop} : WP 66 4 [q0, q1, q2, q3, q4] [(0, s0)] ds m Q = (if s0 = 0 then WP 66 7 [q0, q1, q2, q3, q4] [] ds m Q else WP 66 13 [q0, q1, q2, q3, q4] [] ds m Q) := P_if k66_4 rfl
set_option maxRecDepth 20000 in
theorem k66_7 : mjCode 66 7 = some (.aload_n 0, 1, 0, 0) := by decide +kernel
theorem p66_7 {l0 : Int} {q1 q2 q3 q4 : MV} {ds : Ds} {m : Mm} {Q : Ds → Mm → List MV → Prop} : WP 66 7 [(2, l0), q1, q2, q3, q4] [] ds m Q = (WP 66 8 [(2, l0), q1, q2, q3, q4] [(2, l0)] ds m Q) := P_nx k66_7 rfl
set_option maxRecDepth 20000 in
theorem k66_8 : mjCode 66 8 = some (.iconst (-1), 1, 0, 0) := by decide +kernel
theorem p66_8 {s0 : Int} {q0 q1 q2 q3 q4 : MV} {ds : Ds} {m : Mm} {Q : Ds → Mm → List MV → Prop} : WP 66 8 [q0, q1, q2, q3, q4] [(2, s0)] ds m Q = (WP 66 9 [q0, q1, q2, q3, q4] [(0, (-1)), (2, s0)] ds m Q) := P_nx k66_8 rfl
set_option maxRecDepth 20000 in
theorem k66_9 : mjCode 66 9 = some (.invokevirtual 73, 3, 96, 2) := by decide +kernel
theorem p66_9 {s0 s1 : Int} {q0 q1 q2 q3 q4 : MV} {ds : Ds} {m : Mm} {Q : Ds → Mm → List MV → Prop} : WP 66 9 [q0, q1, q2, q3, q4] [(0, s0), (2, s1)] ds m Q = ((dk ds s1 = 6 ∧ WP 95 0 [(2, s1), (0, s0), (3, 0)] [] ds m (fun d2 m2 r2 => WP 66 12 [q0, q1, q2, q3, q4] (r2 ++ []) d2 m2 Q))) := P_cv k66_9 mx95 mo95 rfl rfl rfl rfl rfl rfl rfl rfl
set_option maxRecDepth 20000 in
theorem k66_12 : mjCode 66 12 = some (.ireturn, 1, 0, 0) := by decide +kernel
theorem p66_12 {s0 : Int} {q0 q1 q2 q3 q4 : MV} {ds : Ds} {m : Mm} {Q : Ds → Mm → List MV → Prop} : WP 66 12 [q0, q1, q2, q3, q4] [(0, s0)] ds m Q = (Q ds m [(0, s0)]) := P_ri k66_12 rk66
set_option maxRecDepth 20000 in
theorem k66_13 : mjCode 66 13 = some (.aload_n 0, 1, 0, 0) := by decide +kernel
theorem p66_13 {l0 : Int} {q1 q2 q3 q4 : MV} {ds : Ds} {m : Mm} {Q : Ds → Mm → List MV → Prop} : WP 66 13 [(2, l0), q1, q2, q3, q4] [] ds m Q = (WP 66 14 [(2, l0), q1, q2, q3, q4] [(2, l0)] ds m Q) := P_nx k66_13 rfl
set_option maxRecDepth 20000 in
theorem k66_14 : mjCode 66 14 = some (.getfield 45, 3, 6, 0) := by decide +kernel
theorem p66_14 {s0 : Int} {q0 q1 q2 q3 q4 : MV} {ds : Ds} {m : Mm} {Q : Ds → Mm → List MV → Prop} : WP 66 14 [q0, q1, q2, q3, q4] [(2, s0)] ds m Q = ((dk ds s0 = 6 ∧ WP 66 17 [q0, q1, q2, q3, q4] [(2, m s0 0)] ds m Q)) := P_gd k66_14 rfl
set_option maxRecDepth 20000 in
theorem k66_17 : mjCode 66 17 = some (.iload_n 1, 1, 0, 0) := by decide +kernel
theorem p66_17 {l1 s0 : Int} {q0 q2 q3 q4 : MV} {ds : Ds} {m : Mm} {Q : Ds → Mm → List MV → Prop} : WP 66 17 [q0, (0, l1), q2, q3, q4] [(2, s0)] ds m Q = (WP 66 18 [q0, (0, l1), q2, q3, q4] [(0, l1), (2, s0)] ds m Q) := P_nx k66_17 rfl
set_option maxRecDepth 20000 in
theorem k66_18 : mjCode 66 18 = some (.iload_n 2, 1, 0, 0) := by decide +kernel
theorem p66_18 {l2 s0 s1 : Int} {q0 q1 q3 q4 : MV} {ds : Ds} {m : Mm} {Q : Ds → Mm → List MV → Prop} : WP 66 18 [q0, q1, (0, l2), q3, q4] [(0, s0), (2, s1)] ds m Q = (WP 66 19 [q0, q1, (0, l2), q3, q4] [(0, l2), (0, s0), (2, s1)] ds m Q) := P_nx k66_18 rfl
set_option maxRecDepth 20000 in
theorem k66_19 : mjCode 66 19 = some (.iload_n 3, 1, 0, 0) := by decide +kernel
theorem p66_19 {l3 s0 s1 s2 : Int} {q0 q1 q2 q4 : MV} {ds : Ds} {m : Mm} {Q : Ds → Mm → List MV → Prop} : WP 66 19 [q0, q1, q2, (0, l3), q4] [(0, s0), (0, s1), (2, s2)] ds m Q = (WP 66 20 [q0, q1, q2, (0, l3), q4] [(0, l3), (0, s0), (0, s1), (2, s2)] ds m Q) := P_nx k66_19 rfl
set_option maxRecDepth 20000 in
theorem k66_20 : mjCode 66 20 = some (.iload 4, 2, 0, 0) := by decide +kernel
theorem p66_20 {l4 s0 s1 s2 s3 : Int} {q0 q1 q2 q3 : MV} {ds : Ds} {m : Mm} {Q : Ds → Mm → List MV → Prop} : WP 66 20 [q0, q1, q2, q3, (0, l4)] [(0, s0), (0, s1), (0, s2), (2, s3)] ds m Q = (WP 66 22 [q0, q1, q2, q3, (0, l4)] [(0, l4), (0, s0), (0, s1), (0, s2), (2, s3)] ds m Q) := P_nx k66_20 rfl
set_option maxRecDepth 20000 in
theorem k66_22 : mjCode 66 22 = some (.invokevirtual 77, 3, 33, 5) := by decide +kernel
theorem p66_22 {s0 s1 s2 s3 s4 : Int} {q0 q1 q2 q3 q4 : MV} {ds : Ds} {m : Mm} {Q : Ds → Mm → List MV → Prop} : WP 66 22 [q0, q1, q2, q3, q4] [(0, s0), (0, s1), (0, s2), (0, s3), (2, s4)] ds m Q = ((dk ds s4 = 3 ∧ WP 32 0 [(2, s4), (0, s3), (0, s2), (0, s1), (0, s0), (3, 0)] [] ds m (fun d2 m2 r2 => WP 66 25 [q0, q1, q2, q3, q4] (r2 ++ []) d2 m2 Q))) := P_cv k66_22 mx32 mo32 rfl rfl rfl rfl rfl rfl rfl rfl
set_option maxRecDepth 20000 in
theorem k66_25 : mjCode 66 25 = some (.ifCond .ne 10, 3, 35, 0) := by decide +kernel
theorem p66_25 {s0 : Int} {q0 q1 q2 q3 q4 : MV} {ds : Ds} {m : Mm} {Q : Ds → Mm → List MV → Prop} : WP 66 25 [q0, q1, q2, q3, q4] [(0, s0)] ds m Q = (if s0 = 0 then WP 66 28 [q0, q1, q2, q3, q4] [] ds m Q else WP 66 35 [q0, q1, q2, q3, q4] [] ds m Q) := P_if k66_25 rfl
set_option maxRecDepth 20000 in
theorem k66_28 : mjCode 66 28 = some (.aload_n 0, 1, 0, 0) := by decide +kernel
theorem p66_28 {l0 : Int} {q1 q2 q3 q4 : MV} {ds : Ds} {m : Mm} {Q : Ds → Mm → List MV → Prop} : WP 66 28 [(2, l0), q1, q2, q3, q4] [] ds m Q = (WP 66 29 [(2, l0), q1, q2, q3, q4] [(2, l0)] ds m Q) := P_nx k66_28 rfl
set_option maxRecDepth 20000 in
theorem k66_29 : mjCode 66 29 = some (.bipush (-6), 2, 0, 0) := by decide +kernel
theorem p66_29 {s0 : Int} {q0 q1 q2 q3 q4 : MV} {ds : Ds} {m : Mm} {Q : Ds → Mm → List MV → Prop} : WP 66 29 [q0, q1, q2, q3, q4] [(2, s0)] ds m Q = (WP 66 31 [q0, q1, q2, q3, q4] [(0, (-6)), (2, s0)] ds m Q) := P_nx k66_29 rfl
set_option maxRecDepth 20000 in
theorem k66_31 : mjCode 66 31 = some (.invokevirtual 73, 3, 96, 2) := by decide +kernel
theorem p66_31 {s0 s1 : Int} {q0 q1 q2 q3 q4 : MV} {ds : Ds} {m : Mm} {Q : Ds → Mm → List MV → Prop} : WP 66 31 [q0, q1, q2, q3, q4] [(0, s0), (2, s1)] ds m Q = ((dk ds s1 = 6 ∧ WP 95 0 [(2, s1), (0, s0), (3, 0)] [] ds m (fun d2 m2 r2 => WP 66 34 [q0, q1, q2, q3, q4] (r2 ++ []) d2 m2 Q))) := P_cv k66_31 mx95 mo95 rfl rfl rfl rfl rfl rfl rfl rfl
set_option maxRecDepth 20000 in
theorem k66_34 : mjCode 66 34 = some (.ireturn, 1, 0, 0) := by decide +kernel
theorem p66_34 {s0 : Int} {q0 q1 q2 q3 q4 : MV} {ds : Ds} {m : Mm} {Q : Ds → Mm → List MV → Prop} : WP 66 34 [q0, q1, q2, q3, q4] [(0, s0)] ds m Q = (Q ds m [(0, s0)]) := P_ri k66_34 rk66
set_option maxRecDepth 20000 in
theorem k66_35 : mjCode 66 35 = some (.aload_n 0, 1, 0, 0) := by decide +kernel
theorem p66_35 {l0 : Int} {q1 q2 q3 q4 : MV} {ds : Ds} {m : Mm} {Q : Ds → Mm → List MV → Prop} : WP 66 35 [(2, l0), q1, q2, q3, q4] [] ds m Q = (WP 66 36 [(2, l0), q1, q2, q3, q4] [(2, l0)] ds m Q) := P_nx k66_35 rfl
set_option maxRecDepth 20000 in
theorem k66_36 : mjCode 66 36 = some (.getfield 45, 3, 6, 0) := by decide +kernel
theorem p66_36 {s0 : Int} {q0 q1 q2 q3 q4 : MV} {ds : Ds} {m : Mm} {Q : Ds → Mm → List MV → Prop} : WP 66 36 [q0, q1, q2, q3, q4] [(2, s0)] ds m Q = ((dk ds s0 = 6 ∧ WP 66 39 [q0, q1, q2, q3, q4] [(2, m s0 0)] ds m Q)) := P_gd k66_36 rfl
set_option maxRecDepth 20000 in
theorem k66_39 : mjCode 66 39 = some (.iload_n 1, 1, 0, 0) := by decide +kernel
theorem p66_39 {l1 s0 : Int} {q0 q2 q3 q4 : MV} {ds : Ds} {m : Mm} {Q : Ds → Mm → List MV → Prop} : WP 66 39 [q0, (0, l1), q2, q3, q4] [(2, s0)] ds m Q = (WP 66 40 [q0, (0, l1), q2, q3, q4] [(0, l1), (2, s0)] ds m Q) := P_nx k66_39 rfl
set_option maxRecDepth 20000 in
theorem k66_40 : mjCode 66 40 = some (.iload_n 2, 1, 0, 0) := by decide +kernel
theorem p66_40 {l2 s0 s1 : Int} {q0 q1 q3 q4 : MV} {ds : Ds} {m : Mm} {Q : Ds → Mm → List MV → Prop} : WP 66 40 [q0, q1, (0, l2), q3, q4] [(0, s0), (2, s1)] ds m Q = (WP 66 41 [q0, q1, (0, l2), q3, q4] [(0, l2), (0, s0), (2, s1)] ds m Q) := P_nx k66_40 rfl
set_option maxRecDepth 20000 in
theorem k66_41 : mjCode 66 41 = some (.iload_n 3, 1, 0, 0) := by decide +kernel
theorem p66_41 {l3 s0 s1 s2 : Int} {q0 q1 q2 q4 : MV} {ds : Ds} {m : Mm} {Q : Ds → Mm → List MV → Prop} : WP 66 41 [q0, q1, q2, (0, l3), q4] [(0, s0), (0, s1), (2, s2)] ds m Q = (WP 66 42 [q0, q1, q2, (0, l3), q4] [(0, l3), (0, s0), (0, s1), (2, s2)] ds m Q) := P_nx k66_41 rfl
set_option maxRecDepth 20000 in
theorem k66_42 : mjCode 66 42 = some (.iload 4, 2, 0, 0) := by decide +kernel
theorem p66_42 {l4 s0 s1 s2 s3 : Int} {q0 q1 q2 q3 : MV} {ds : Ds} {m : Mm} {Q : Ds → Mm → List MV → Prop} : WP 66 42 [q0, q1, q2, q3, (0, l4)] [(0, s0), (0, s1), (0, s2), (2, s3)] ds m Q = (WP 66 44 [q0, q1, q2, q3, (0, l4)] [(0, l4), (0, s0), (0, s1), (0, s2), (2, s3)] ds m Q) := P_nx k66_42 rfl
set_option maxRecDepth 20000 in
theorem k66_44 : mjCode 66 44 = some (.invokevirtual 81, 3, 35, 5) := by decide +kernel
theorem p66_44 {s0 s1 s2 s3 s4 : Int} {q0 q1 q2 q3 q4 : MV} {ds : Ds} {m : Mm} {Q : Ds → Mm → List MV → Prop} : WP 66 44 [q0, q1, q2, q3, q4] [(0, s0), (0, s1), (0, s2), (0, s3), (2, s4)] ds m Q = ((dk ds s4 = 3 ∧ WP 34 0 [(2, s4), (0, s3), (0, s2), (0, s1), (0, s0)] [] ds m (fun d2 m2 r2 => WP 66 47 [q0, q1, q2, q3, q4] (r2 ++ []) d2 m2 Q))) := P_cv k66_44 mx34 mo34 rfl rfl rfl rfl rfl rfl rfl rfl
set_option maxRecDepth 20000 in
theorem k66_47 : mjCode 66 47 = some (.iconst 1, 1, 0, 0) := by decide +kernel
theorem p66_47 {q0 q1 q2 q3 q4 : MV} {ds : Ds} {m : Mm} {Q : Ds → Mm → List MV → Prop} : WP 66 47 [q0, q1, q2, q3, q4] [] ds m Q = (WP 66 48 [q0, q1, q2, q3, q4] [(0, 1)] ds m Q) := P_nx k66_47 rfl
set_option maxRecDepth 20000 in
theorem k66_48 : mjCode 66 48 = some (.ireturn, 1, 0, 0) := by decide +kernel
theorem p66_48 {s0 : Int} {q0 q1 q2 q3 q4 : MV} {ds : Ds} {m : Mm} {Q : Ds → Mm → List MV → Prop} : WP 66 48 [q0, q1, q2, q3, q4] [(0, s0)] ds m Q = (Q ds m [(0, s0)]) := P_ri k66_48 rk66
set_option maxRecDepth 20000 in
theorem k67_0 : mjCode 67 0 = some (.iload_n 1, 1, 0, 0) := by decide +kernel
theorem p67_0 {l1 : Int} {q0 q2 q3 q4 q5 : MV} {ds : Ds} {m : Mm} {Q : Ds → Mm → List MV → Prop} : WP 67 0 [q0, (0, l1), q2, q3, q4, q5] [] ds m Q = (WP 67 1 [q0, (0, l1), q2, q3, q4, q5] [(0, l1)] ds m Q) := P_nx k67_0 rfl
set_option maxRecDepth 20000 in
theorem k67_1 : mjCode 67 1 = some (.invokestatic 69, 3, 108, 1) := by decide +kernel
theorem p67_1 {s0 : Int} {q0 q1 q2 q3 q4 q5 : MV} {ds : Ds} {m : Mm} {Q : Ds → Mm → List MV → Prop} : WP 67 1 [q0, q1, q2, q3, q4, q5] [(0, s0)] ds m Q = (WP 107 0 [(0, s0)] [] ds m (fun d2 m2 r2 => WP 67 4 [q0, q1, q2, q3, q4, q5] (r2 ++ []) d2 m2 Q)) := P_cs k67_1 mx107 rfl rfl rfl rfl rfl rfl rfl
set_option maxRecDepth 20000 in
theorem k67_4 : mjCode 67 4 = some (.ifCond .eq 10, 3, 14, 0) := by decide +kernel
theorem p67_4 {s0 : Int} {q0 q1 q2 q3 q4 q5 : MV} {ds : Ds} {m : Mm} {Q : Ds → Mm → List MV → Prop} : WP 67 4 [q0, q1, q2, q3, q4, q5] [(0, s0)] ds m Q = (if s0 = 0 then WP 67 14 [q0, q1, q2, q3, q4, q5] [] ds m Q else WP 67 7 [q0, q1, q2, q3, q4, q5] [] ds m Q) := P_if k67_4 rfl
set_option maxRecDepth 20000 in
theorem k67_7 : mjCode 67 7 = some (.iload_n 3, 1, 0, 0) := by decide +kernel
theorem p67_7 {l3 : Int} {q0 q1 q2 q4 q5 : MV} {ds : Ds} {m : Mm} {Q : Ds → Mm → List MV → Prop} : WP 67 7 [q0, q1, q2, (0, l3), q4, q5] [] ds m Q = (WP 67 8 [q0, q1, q2, (0, l3), q4, q5] [(0, l3)] ds m Q) := P_nx k67_7 rfl
set_option maxRecDepth 20000 in
theorem k67_8 : mjCode 67 8 = some (.invokestatic 69, 3, 108, 1) := by decide +kernel
theorem p67_8 {s0 : Int} {q0 q1 q2 q3 q4 q5 : MV} {ds : Ds} {m : Mm} {Q : Ds → Mm → List MV → Prop} : WP 67 8 [q0, q1, q2, q3, q4, q5] [(0, s0)] ds m Q = (WP 107 0 [(0, s0)] [] ds m (fun d2 m2 r2 => WP 67 11 [q0, q1, q2, q3, q4, q5] (r2 ++ []) d2 m2 Q)) := P_cs k67_8 mx107 rfl rfl rfl rfl rfl rfl rfl
set_option maxRecDepth 20000 in
theorem k67_11 : mjCode 67 11 = some (.ifCond .ne 9, 3, 20, 0) := by decide +kernel
theorem p67_11 {s0 : Int} {q0 q1 q2 q3 q4 q5 : MV} {ds : Ds} {m : Mm} {Q : Ds → Mm → List MV → Prop} : WP 67 11 [q0, q1, q2, q3, q4, q5] [(0, s0)] ds m Q = (if s0 = 0 then WP 67 14 [q0, q1, q2, q3, q4, q5] [] ds m Q else WP 67 20 [q0, q1, q2, q3, q4, q5] [] ds m Q) := P_if k67_11 rfl
set_option maxRecDepth 20000 in
theorem k67_14 : mjCode 67 14 = some (.aload_n 0, 1, 0, 0) := by decide +kernel
theorem p67_14 {l0 : Int} {q1 q2 q3 q4 q5 : MV} {ds : Ds} {m : Mm} {Q : Ds → Mm → List MV → Prop} : WP 67 14 [(2, l0), q1, q2, q3, q4, q5] [] ds m Q = (WP 67 15 [(2, l0), q1, q2, q3, q4, q5] [(2, l0)] ds m Q) := P_nx k67_14 rfl
set_option maxRecDepth 20000 in
theorem k67_15 : mjCode 67 15 = some (.iconst (-1), 1, 0, 0) := by decide +kernel
theorem p67_15 {s0 : Int} {q0 q1 q2 q3 q4 q5 : MV} {ds : Ds} {m : Mm} {Q : Ds → Mm → List MV → Prop} : WP 67 15 [q0, q1, q2, q3, q4, q5] [(2, s0)] ds m Q = (WP 67 16 [q0, q1, q2, q3, q4, q5] [(0, (-1)), (2, s0)] ds m Q) := P_nx k67_15 rfl
set_option maxRecDepth 20000 in
theorem k67_16 : mjCode 67 16 = some (.invokevirtual 73, 3, 96, 2) := by decide +kernel
theorem p67_16 {s0 s1 : Int} {q0 q1 q2 q3 q4 q5 : MV} {ds : Ds} {m : Mm} {Q : Ds → Mm → List MV → Prop} : WP 67 16 [q0, q1, q2, q3, q4, q5] [(0, s0), (2, s1)] ds m Q = ((dk ds s1 = 6 ∧ WP 95 0 [(2, s1), (0, s0), (3, 0)] [] ds m (fun d2 m2 r2 => WP 67 19 [q0, q1, q2, q3, q4, q5] (r2 ++ []) d2 m2 Q))) := P_cv k67_16 mx95 mo95 rfl rfl rfl rfl rfl rfl rfl rfl
set_option maxRecDepth 20000 in
theorem k67_19 : mjCode 67 19 = some (.ireturn, 1, 0, 0) := by decide +kernel
theorem p67_19 {s0 : Int} {q0 q1 q2 q3 q4 q5 : MV} {ds : Ds} {m : Mm} {Q : Ds → Mm → List MV → Prop} : WP 67 19 [q0, q1, q2, q3, q4, q5] [(0, s0)] ds m Q = (Q ds m [(0, s0)]) := P_ri k67_19 rk67
set_option maxRecDepth 20000 in
theorem k67_20 : mjCode 67 20 = some (.aload_n 0, 1, 0, 0) := by decide +kernel
theorem p67_20 {l0 : Int} {q1 q2 q3 q4 q5 : MV} {ds : Ds} {m : Mm} {Q : Ds → Mm → List MV → Prop} : WP 67 20 [(2, l0), q1, q2, q3, q4, q5] [] ds m Q = (WP 67 21 [(2, l0), q1, q2, q3, q4, q5] [(2, l0)] ds m Q) := P_nx k67_20 rfl
set_option maxRecDepth 20000 in
theorem k67_21 : mjCode 67 21 = some (.getfield 45, 3, 6, 0) := by decide +kernel
theorem p67_21 {s0 : Int} {q0 q1 q2 q3 q4 q5 : MV} {ds : Ds} {m : Mm} {Q : Ds → Mm → List MV → Prop} : WP 67 21 [q0, q1, q2, q3, q4, q5] [(2, s0)] ds m Q = ((dk ds s0 = 6 ∧ WP 67 24 [q0, q1, q2, q3, q4, q5] [(2, m s0 0)] ds m Q)) := P_gd k67_21 rfl
set_option maxRecDepth 20000 in
theorem k67_24 : mjCode 67 24 = some (.iload_n 1, 1, 0, 0) := by decide +kernel
theorem p67_24 {l1 s0 : Int} {q0 q2 q3 q4 q5 : MV} {ds : Ds} {m : Mm} {Q : Ds → Mm → List MV → Prop} : WP 67 24 [q0, (0, l1), q2, q3, q4, q5] [(2, s0)] ds m Q = (WP 67 25 [q0, (0, l1), q2, q3, q4, q5] [(0, l1), (2, s0)] ds m Q) := P_nx k67_24 rfl
set_option maxRecDepth 20000 in
theorem k67_25 : mjCode 67 25 = some (.invokevirtual 85, 3, 30, 2) := by decide +kernel
theorem p67_25 {s0 s1 : Int} {q0 q1 q2 q3 q4 q5 : MV} {ds : Ds} {m : Mm} {Q : Ds → Mm → List MV → Prop} : WP 67 25 [q0, q1, q2, q3, q4, q5] [(0, s0), (2, s1)] ds m Q = ((dk ds s1 = 3 ∧ WP 29 0 [(2, s1), (0, s0)] [] ds m (fun d2 m2 r2 => WP 67 28 [q0, q1, q2, q3, q4, q5] (r2 ++ []) d2 m2 Q))) := P_cv k67_25 mx29 mo29 rfl rfl rfl rfl rfl rfl rfl rfl
set_option maxRecDepth 20000 in
theorem k67_28 : mjCode 67 28 = some (.ifCond .eq 14, 3, 42, 0) := by decide +kernel
theorem p67_28 {s0 : Int} {q0 q1 q2 q3 q4 q5 : MV} {ds : Ds} {m : Mm} {Q : Ds → Mm → List MV → Prop} : WP 67 28 [q0, q1, q2, q3, q4, q5] [(0, s0)] ds m Q = (if s0 = 0 then WP 67 42 [q0, q1, q2, q3, q4, q5] [] ds m Q else WP 67 31 [q0, q1, q2, q3, q4, q5] [] ds m Q) := P_if k67_28 rfl
set_option maxRecDepth 20000 in
theorem k67_31 : mjCode 67 31 = some (.aload_n 0, 1, 0, 0) := by decide +kernel
theorem p67_31 {l0 : Int} {q1 q2 q3 q4 q5 : MV} {ds : Ds} {m : Mm} {Q : Ds → Mm → List MV → Prop} : WP 67 31 [(2, l0), q1, q2, q3, q4, q5] [] ds m Q = (WP 67 32 [(2, l0), q1, q2, q3, q4, q5] [(2, l0)] ds m Q) := P_nx k67_31 rfl
set_option maxRecDepth 20000 in
theorem k67_32 : mjCode 67 32 = some (.getfield 45, 3, 6, 0) := by decide +kernel
theorem p67_32 {s0 : Int} {q0 q1 q2 q3 q4 q5 : MV} {ds : Ds} {m : Mm} {Q : Ds → Mm → List MV → Prop} : WP 67 32 [q0, q1, q2, q3, q4, q5] [(2, s0)] ds m Q = ((dk ds s0 = 6 ∧ WP 67 35 [q0, q1, q2, q3, q4, q5] [(2, m s0 0)] ds m Q)) := P_gd k67_32 rfl
set_option maxRecDepth 20000 in
theorem k67_35 : mjCode 67 35 = some (.iload_n 3, 1, 0, 0) := by decide +kernel
theorem p67_35 {l3 s0 : Int} {q0 q1 q2 q4 q5 : MV} {ds : Ds} {m : Mm} {Q : Ds → Mm → List MV → Prop} : WP 67 35 [q0, q1, q2, (0, l3), q4, q5] [(2, s0)] ds m Q = (WP 67 36 [q0, q1, q2, (0, l3), q4, q5] [(0, l3), (2, s0)] ds m Q) := P_nx k67_35 rfl
set_option maxRecDepth 20000 in
theorem k67_36 : mjCode 67 36 = some (.invokevirtual 85, 3, 30, 2) := by decide +kernel
theorem p67_36 {s0 s1 : Int} {q0 q1 q2 q3 q4 q5 : MV} {ds : Ds} {m : Mm} {Q : Ds → Mm → List MV → Prop} : WP 67 36 [q0, q1, q2, q3, q4, q5] [(0, s0), (2, s1)] ds m Q = ((dk ds s1 = 3 ∧ WP 29 0 [(2, s1), (0, s0)] [] ds m (fun d2 m2 r2 => WP 67 39 [q0, q1, q2, q3, q4, q5] (r2 ++ []) d2 m2 Q))) := P_cv k67_36 mx29 mo29 rfl rfl rfl rfl rfl rfl rfl rfl
set_option maxRecDepth 20000 in
theorem k67_39 : mjCode 67 39 = some (.ifCond .ne 7, 3, 46, 0) := by decide +kernel
theorem p67_39 {s0 : Int} {q0 q1 q2 q3 q4 q5 : MV} {ds : Ds} {m : Mm} {Q : Ds → Mm → List MV → Prop} : WP 67 39 [q0, q1, q2, q3, q4, q5] [(0, s0)] ds m Q = (if s0 = 0 then WP 67 42 [q0, q1, q2, q3, q4, q5] [] ds m Q else WP 67 46 [q0, q1, q2, q3, q4, q5] [] ds m Q) := P_if k67_39 rfl
set_option maxRecDepth 20000 in
theorem k67_42 : mjCode 67 42 = some (.iconst 1, 1, 0, 0) := by decide +kernel
theorem p67_42 {q0 q1 q2 q3 q4 q5 : MV} {ds : Ds} {m : Mm} {Q : Ds → Mm → List MV → Prop} : WP 67 42 [q0, q1, q2, q3, q4, q5] [] ds m Q = (WP 67 43 [q0, q1, q2, q3, q4, q5] [(0, 1)] ds m Q) := P_nx k67_42 rfl
set_option maxRecDepth 20000 in
theorem k67_43 : mjCode 67 43 = some (.goto 4, 3, 47, 0) := by decide +kernel
theorem p67_43 {s0 : Int} {q0 q1 q2 q3 q4 q5 : MV} {ds : Ds} {m : Mm} {Q : Ds → Mm → List MV → Prop} : WP 67 43 [q0, q1, q2, q3, q4, q5] [(0, s0)] ds m Q = (WP 67 47 [q0, q1, q2, q3, q4, q5] [(0, s0)] ds m Q) := P_nx k67_43 rfl
set_option maxRecDepth 20000 in
theorem k67_46 : mjCode 67 46 = some (.iconst 0, 1, 0, 0) := by decide +kernel
theorem p67_46 {q0 q1 q2 q3 q4 q5 : MV} {ds : Ds} {m : Mm} {Q : Ds → Mm → List MV → Prop} : WP 67 46 [q0, q1, q2, q3, q4, q5] [] ds m Q = (WP 67 47 [q0, q1, q2, q3, q4, q5] [(0, 0)] ds m Q) := P_nx k67_46 rfl
set_option maxRecDepth 20000 in
theorem k67_47 : mjCode 67 47 = some (.istore 5, 2, 0, 0) := by decide +kernel
theorem p67_47 {l4 s0 : Int} {q0 q1 q2 q3 q5 : MV} {ds : Ds} {m : Mm} {Q : Ds → Mm → List MV → Prop} : WP 67 47 [q0, q1, q2, q3, (0, l4), q5] [(0, s0)] ds m Q = (WP 67 49 [q0, q1, q2, q3, (0, l4), (0, s0)] [] ds m Q) := P_nx k67_47 rfl
set_option maxRecDepth 20000 in
theorem k67_49 : mjCode 67 49 = some (.iload_n 2, 1, 0, 0) := by decide +kernel
theorem p67_49 {l2 : Int} {q0 q1 q3 q4 q5 : MV} {ds : Ds} {m : Mm} {Q : Ds → Mm → List MV → Prop} : WP 67 49 [q0, q1, (0, l2), q3, q4, q5] [] ds m Q = (WP 67 50 [q0, q1, (0, l2), q3, q4, q5] [(0, l2)] ds m Q) := P_nx k67_49 rfl
set_option maxRecDepth 20000 in
theorem k67_50 : mjCode 67 50 = some (.invokestatic 88, 3, 109, 1) := by decide +kernel
theorem p67_50 {s0 : Int} {q0 q1 q2 q3 q4 q5 : MV} {ds : Ds} {m : Mm} {Q : Ds → Mm → List MV → Prop} : WP 67 50 [q0, q1, q2, q3, q4, q5] [(0, s0)] ds m Q = (WP 108 0 [(0, s0)] [] ds m (fun d2 m2 r2 => WP 67 53 [q0, q1, q2, q3, q4, q5] (r2 ++ []) d2 m2 Q)) := P_cs k67_50 mx108 rfl rfl rfl rfl rfl rfl rfl
set_option maxRecDepth 20000 in
theorem k67_53 : mjCode 67 53 = some (.ifCond .eq 21, 3, 74, 0) := by decide +kernel
theorem p67_53 {s0 : Int} {q0 q1 q2 q3 q4 q5 : MV} {ds : Ds} {m : Mm} {Q : Ds → Mm → List MV → Prop} : WP 67 53 [q0, q1, q2, q3, q4, q5] [(0, s0)] ds m Q = (if s0 = 0 then WP 67 74 [q0, q1, q2, q3, q4, q5] [] ds m Q else WP 67 56 [q0, q1, q2, q3, q4, q5] [] ds m Q) := P_if k67_53 rfl
set_option maxRecDepth 20000 in
theorem k67_56 : mjCode 67 56 = some (.iload 4, 2, 0, 0) := by decide +kernel
theorem p67_56 {l4 : Int} {q0 q1 q2 q3 q5 : MV} {ds : Ds} {m : Mm} {Q : Ds → Mm → List MV → Prop} : WP 67 56 [q0, q1, q2, q3, (0, l4), q5] [] ds m Q = (WP 67 58 [q0, q1, q2, q3, (0, l4), q5] [(0, l4)] ds m Q) := P_nx k67_56 rfl
set_option maxRecDepth 20000 in
theorem k67_58 : mjCode 67 58 = some (.invokestatic 88, 3, 109, 1) := by decide +kernel
theorem p67_58 {s0 : Int} {q0 q1 q2 q3 q4 q5 : MV} {ds : Ds} {m : Mm} {Q : Ds → Mm → List MV → Prop} : WP 67 58 [q0, q1, q2, q3, q4, q5] [(0, s0)] ds m Q = (WP 108 0 [(0, s0)] [] ds m (fun d2 m2 r2 => WP 67 61 [q0, q1, q2, q3, q4, q5] (r2 ++ []) d2 m2 Q)) := P_cs k67_58 mx108 rfl rfl rfl rfl rfl rfl rfl
set_option maxRecDepth 20000 in
theorem k67_61 : mjCode 67 61 = some (.ifCond .eq 13, 3, 74, 0) := by decide +kernel
theorem p67_61 {s0 : Int} {q0 q1 q2 q3 q4 q5 : MV} {ds : Ds} {m : Mm} {Q : Ds → Mm → List MV → Prop} : WP 67 61 [q0, q1, q2, q3, q4, q5] [(0, s0)] ds m Q = (if s0 = 0 then WP 67 74 [q0, q1, q2, q3, q4, q5] [] ds m Q else WP 67 64 [q0, q1, q2, q3, q4, q5] [] ds m Q) := P_if k67_61 rfl
set_option maxRecDepth 20000 in
theorem k67_64 : mjCode 67 64 = some (.iload_n 1, 1, 0, 0) := by decide +kernel
theorem p67_64 {l1 : Int} {q0 q2 q3 q4 q5 : MV} {ds : Ds} {m : Mm} {Q : Ds → Mm → List MV → Prop} : WP 67 64 [q0, (0, l1), q2, q3, q4, q5] [] ds m Q = (WP 67 65 [q0, (0, l1), q2, q3, q4, q5] [(0, l1)] ds m Q) := P_nx k67_64 rfl
set_option maxRecDepth 20000 in
theorem k67_65 : mjCode 67 65 = some (.iload_n 3, 1, 0, 0) := by decide +kernel
theorem p67_65 {l3 s0 : Int} {q0 q1 q2 q4 q5 : MV} {ds : Ds} {m : Mm} {Q : Ds → Mm → List MV → Prop} : WP 67 65 [q0, q1, q2, (0, l3), q4, q5] [(0, s0)] ds m Q = (WP 67 66 [q0, q1, q2, (0, l3), q4, q5] [(0, l3), (0, s0)] ds m Q) := P_nx k67_65 rfl
set_option maxRecDepth 20000 in
theorem k67_66 : mjCode 67 66 = some (.if_icmp .eq 8, 3, 74, 0) := by decide +kernel
theorem p67_66 {s0 s1 : Int} {q0 q1 q2 q3 q4 q5 : MV} {ds : Ds} {m : Mm} {Q : Ds → Mm → List MV → Prop} : WP 67 66 [q0, q1, q2, q3, q4, q5] [(0, s0), (0, s1)] ds m Q = (if s1 = s0 then WP 67 74 [q0, q1, q2, q3, q4, q5] [] ds m Q else WP 67 69 [q0, q1, q2, q3, q4, q5] [] ds m Q) := P_if k67_66 rfl
set_option maxRecDepth 20000 in
theorem k67_69 : mjCode 67 69 = some (.iload 5, 2, 0, 0) := by decide +kernel
theorem p67_69 {l5 : Int} {q0 q1 q2 q3 q4 : MV} {ds : Ds} {m : Mm} {Q : Ds → Mm → List MV → Prop} : WP 67 69 [q0, q1, q2, q3, q4, (0, l5)] [] ds m Q = (WP 67 71 [q0, q1, q2, q3, q4, (0, l5)] [(0, l5)] ds m Q) := P_nx k67_69 rfl
set_option maxRecDepth 20000 in
theorem k67_71 : mjCode 67 71 = some (.ifCond .eq 10, 3, 81, 0) := by decide +kernel
theorem p67_71 {s0 : Int} {q0 q1 q2 q3 q4 q5 : MV} {ds : Ds} {m : Mm} {Q : Ds → Mm → List MV → Prop} : WP 67 71 [q0, q1, q2, q3, q4, q5] [(0, s0)] ds m Q = (if s0 = 0 then WP 67 81 [q0, q1, q2, q3, q4, q5] [] ds m Q else WP 67 74 [q0, q1, q2, q3, q4, q5] [] ds m Q) := P_if k67_71 rfl
set_option maxRecDepth 20000 in
theorem k67_74 : mjCode 67 74 = some (.aload_n 0, 1, 0, 0) := by decide +kernel
theorem p67_74 {l0 : Int} {q1 q2 q3 q4 q5 : MV} {ds : Ds} {m : Mm} {Q : Ds → Mm → List MV → Prop} : WP 67 74 [(2, l0), q1, q2, q3, q4, q5] [] ds m Q = (WP 67 75 [(2, l0), q1, q2, q3, q4, q5] [(2, l0)] ds m Q) := P_nx k67_74 rfl
set_option maxRecDepth 20000 in
theorem k67_75 : mjCode 67 75 = some (.bipush (-6), 2, 0, 0) := by decide +kernel
theorem p67_75 {s0 : Int} {q0 q1 q2 q3 q4 q5 : MV} {ds : Ds} {m : Mm} {Q : Ds → Mm → List MV → Prop} : WP 67 75 [q0, q1, q2, q3, q4, q5] [(2, s0)] ds m Q = (WP 67 77 [q0, q1, q2, q3, q4, q5] [(0, (-6)), (2, s0)] ds m Q) := P_nx k67_75 rfl
set_option maxRecDepth 20000 in
theorem k67_77 : mjCode 67 77 = some (.invokevirtual 73, 3, 96, 2) := by decide +kernel
theorem p67_77 {s0 s1 : Int} {q0 q1 q2 q3 q4 q5 : MV} {ds : Ds} {m : Mm} {Q : Ds → Mm → List MV → Prop} : WP 67 77 [q0, q1, q2, q3, q4, q5] [(0, s0), (2, s1)] ds m Q = ((dk ds s1 = 6 ∧ WP 95 0 [(2, s1), (0, s0), (3, 0)] [] ds m (fun d2 m2 r2 => WP 67 80 [q0, q1, q2, q3, q4, q5] (r2 ++ []) d2 m2 Q))) := P_cv k67_77 mx95 mo95 rfl rfl rfl rfl rfl rfl rfl rfl
set_option maxRecDepth 20000 in
theorem k67_80 : mjCode 67 80 = some (.ireturn, 1, 0, 0) := by decide +kernel
theorem p67_80 {s0 : Int} {q0 q1 q2 q3 q4 q5 : MV} {ds : Ds} {m : Mm} {Q : Ds → Mm → List MV → Prop} : WP 67 80 [q0, q1, q2, q3, q4, q5] [(0, s0)] ds m Q = (Q ds m [(0, s0)]) := P_ri k67_80 rk67
set_option maxRecDepth 20000 in
theorem k67_81 : mjCode 67 81 = some (.aload_n 0, 1, 0, 0) := by decide +kernel
theorem p67_81 {l0 : Int} {q1 q2 q3 q4 q5 : MV} {ds : Ds} {m : Mm} {Q : Ds → Mm → List MV → Prop} : WP 67 81 [(2, l0), q1, q2, q3, q4, q5] [] ds m Q = (WP 67 82 [(2, l0), q1, q2, q3, q4, q5] [(2, l0)] ds m Q) := P_nx k67_81 rfl
set_option maxRecDepth 20000 in
theorem k67_82 : mjCode 67 82 = some (.getfield 45, 3, 6, 0) := by decide +kernel
theorem p67_82 {s0 : Int} {q0 q1 q2 q3 q4 q5 : MV} {ds : Ds} {m : Mm} {Q : Ds → Mm → List MV → Prop} : WP 67 82 [q0, q1, q2, q3, q4, q5] [(2, s0)] ds m Q = ((dk ds s0 = 6 ∧ WP 67 85 [q0, q1, q2, q3, q4, q5] [(2, m s0 0)] ds m Q)) := P_gd k67_82 rfl
set_option maxRecDepth 20000 in
theorem k67_85 : mjCode 67 85 = some (.iload_n 1, 1, 0, 0) := by decide +kernel
theorem p67_85 {l1 s0 : Int} {q0 q2 q3 q4 q5 : MV} {ds : Ds} {m : Mm} {Q : Ds → Mm → List MV → Prop} : WP 67 85 [q0, (0, l1), q2, q3, q4, q5] [(2, s0)] ds m Q = (WP 67 86 [q0, (0, l1), q2, q3, q4, q5] [(0, l1), (2, s0)] ds m Q) := P_nx k67_85 rfl
set_option maxRecDepth 20000 in
theorem k67_86 : mjCode 67 86 = some (.iload_n 2, 1, 0, 0) := by decide +kernel
theorem p67_86 {l2 s0 s1 : Int} {q0 q1 q3 q4 q5 : MV} {ds : Ds} {m : Mm} {Q : Ds → Mm → List MV → Prop} : WP 67 86 [q0, q1, (0, l2), q3, q4, q5] [(0, s0), (2, s1)] ds m Q = (WP 67 87 [q0, q1, (0, l2), q3, q4, q5] [(0, l2), (0, s0), (2, s1)] ds m Q) := P_nx k67_86 rfl
set_option maxRecDepth 20000 in
theorem k67_87 : mjCode 67 87 = some (.iload_n 3, 1, 0, 0) := by decide +kernel
theorem p67_87 {l3 s0 s1 s2 : Int} {q0 q1 q2 q4 q5 : MV} {ds : Ds} {m : Mm} {Q : Ds → Mm → List MV → Prop} : WP 67 87 [q0, q1, q2, (0, l3), q4, q5] [(0, s0), (0, s1), (2, s2)] ds m Q = (WP 67 88 [q0, q1, q2, (0, l3), q4, q5] [(0, l3), (0, s0), (0, s1), (2, s2)] ds m Q) := P_nx k67_87 rfl
set_option maxRecDepth 20000 in
theorem k67_88 : mjCode 67 88 = some (.invokevirtual 91, 3, 36, 4) := by decide +kernel
theorem p67_88 {s0 s1 s2 s3 : Int} {q0 q1 q2 q3 q4 q5 : MV} {ds : Ds} {m : Mm} {Q : Ds → Mm → List MV → Prop} : WP 67 88 [q0, q1, q2, q3, q4, q5] [(0, s0), (0, s1), (0, s2), (2, s3)] ds m Q = ((dk ds s3 = 3 ∧ WP 35 0 [(2, s3), (0, s2), (0, s1), (0, s0)] [] ds m (fun d2 m2 r2 => WP 67 91 [q0, q1, q2, q3, q4, q5] (r2 ++ []) d2 m2 Q))) := P_cv k67_88 mx35 mo35 rfl rfl rfl rfl rfl rfl rfl rfl
set_option maxRecDepth 20000 in
theorem k67_91 : mjCode 67 91 = some (.aload_n 0, 1, 0, 0) := by decide +kernel
theorem p67_91 {l0 : Int} {q1 q2 q3 q4 q5 : MV} {ds : Ds} {m : Mm} {Q : Ds → Mm → List MV → Prop} : WP 67 91 [(2, l0), q1, q2, q3, q4, q5] [] ds m Q = (WP 67 92 [(2, l0), q1, q2, q3, q4, q5] [(2, l0)] ds m Q) := P_nx k67_91 rfl
set_option maxRecDepth 20000 in
theorem k67_92 : mjCode 67 92 = some (.getfield 45, 3, 6, 0) := by decide +kernel
theorem p67_92 {s0 : Int} {q0 q1 q2 q3 q4 q5 : MV} {ds : Ds} {m : Mm} {Q : Ds → Mm → List MV → Prop} : WP 67 92 [q0, q1, q2, q3, q4, q5] [(2, s0)] ds m Q = ((dk ds s0 = 6 ∧ WP 67 95 [q0, q1, q2, q3, q4, q5] [(2, m s0 0)] ds m Q)) := P_gd k67_92 rfl
set_option maxRecDepth 20000 in
theorem k67_95 : mjCode 67 95 = some (.iload_n 3, 1, 0, 0) := by decide +kernel
theorem p67_95 {l3 s0 : Int} {q0 q1 q2 q4 q5 : MV} {ds : Ds} {m : Mm} {Q : Ds → Mm → List MV → Prop} : WP 67 95 [q0, q1, q2, (0, l3), q4, q5] [(2, s0)] ds m Q = (WP 67 96 [q0, q1, q2, (0, l3), q4, q5] [(0, l3), (2, s0)] ds m Q) := P_nx k67_95 rfl
set_option maxRecDepth 20000 in
theorem k67_96 : mjCode 67 96 = some (.iload 4, 2, 0, 0) := by decide +kernel
theorem p67_96 {l4 s0 s1 : Int} {q0 q1 q2 q3 q5 : MV} {ds : Ds} {m : Mm} {Q : Ds → Mm → List MV → Prop} : WP 67 96 [q0, q1, q2, q3, (0, l4), q5] [(0, s0), (2, s1)] ds m Q = (WP 67 98 [q0, q1, q2, q3, (0, l4), q5] [(0, l4), (0, s0), (2, s1)] ds m Q) := P_nx k67_96 rfl
set_option maxRecDepth 20000 in
theorem k67_98 : mjCode 67 98 = some (.iload_n 1, 1, 0, 0) := by decide +kernel
theorem p67_98 {l1 s0 s1 s2 : Int} {q0 q2 q3 q4 q5 : MV} {ds : Ds} {m : Mm} {Q : Ds → Mm → List MV → Prop} : WP 67 98 [q0, (0, l1), q2, q3, q4, q5] [(0, s0), (0, s1), (2, s2)] ds m Q = (WP 67 99 [q0, (0, l1), q2, q3, q4, q5] [(0, l1), (0, s0), (0, s1), (2, s2)] ds m Q) := P_nx k67_98 rfl
set_option maxRecDepth 20000 in
theorem k67_99 : mjCode 67 99 = some (.invokevirtual 91, 3, 36, 4) := by decide +kernel
theorem p67_99 {s0 s1 s2 s3 : Int} {q0 q1 q2 q3 q4 q5 : MV} {ds : Ds} {m : Mm} {Q : Ds → Mm → List MV → Prop} : WP 67 99 [q0, q1, q2, q3, q4, q5] [(0, s0), (0, s1), (0, s2), (2, s3)] ds m Q = ((dk ds s3 = 3 ∧ WP 35 0 [(2, s3), (0, s2), (0, s1), (0, s0)] [] ds m (fun d2 m2 r2 => WP 67 102 [q0, q1, q2, q3, q4, q5] (r2 ++ []) d2 m2 Q))) := P_cv k67_99 mx35 mo35 rfl rfl rfl rfl rfl rfl rfl rfl
set_option maxRecDepth 20000 in
theorem k67_102 : mjCode 67 102 = some (.iconst 1, 1, 0, 0) := by decide +kernel
theorem p67_102 {q0 q1 q2 q3 q4 q5 : MV} {ds : Ds} {m : Mm} {Q : Ds → Mm → List MV → Prop} : WP 67 102 [q0, q1, q2, q3, q4, q5] [] ds m Q = (WP 67 103 [q0, q1, q2, q3, q4, q5] [(0, 1)] ds m Q) := P_nx k67_102 rfl
set_option maxRecDepth 20000 in
theorem k67_103 : mjCode 67 103 = some (.ireturn, 1, 0, 0) := by decide +kernel
theorem p67_103 {s0 : Int} {q0 q1 q2 q3 q4 q5 : MV} {ds : Ds} {m : Mm} {Q : Ds → Mm → List MV → Prop} : WP 67 103 [q0, q1, q2, q3, q4, q5] [(0, s0)] ds m Q = (Q ds m [(0, s0)]) := P_ri k67_103 rk67
set_option maxRecDepth 20000 in
theorem k68_0 : mjCode 68 0 = some (.iload_n 1, 1, 0, 0) := by decide +kernel
theorem p68_0 {l1 : Int} {q0 : MV} {ds : Ds} {m : Mm} {Q : Ds → Mm → List MV → Prop} : WP 68 0 [q0, (0, l1)] [] ds m Q = (WP 68 1 [q0, (0, l1)] [(0, l1)] ds m Q) := P_nx k68_0 rfl
set_option maxRecDepth 20000 in
theorem k68_1 : mjCode 68 1 = some (.invokestatic 69, 3, 108, 1) := by decide +kernel
theorem p68_1 {s0 : Int} {q0 q1 : MV} {ds : Ds} {m : Mm} {Q : Ds → Mm → List MV → Prop} : WP 68 1 [q0, q1] [(0, s0)] ds m Q = (WP 107 0 [(0, s0)] [] ds m (fun d2 m2 r2 => WP 68 4 [q0, q1] (r2 ++ []) d2 m2 Q)) := P_cs k68_1 mx107 rfl rfl rfl rfl rfl rfl rfl
set_option maxRecDepth 20000 in
theorem k68_4 : mjCode 68 4 = some (.ifCond .ne 9, 3, 13, 0) := by decide +kernel
theorem p68_4 {s0 : Int} {q0 q1 : MV} {ds : Ds} {m : Mm} {Q : Ds → Mm → List MV → Prop} : WP 68 4 [q0, q1] [(0, s0)] ds m Q = (if s0 = 0 then WP 68 7 [q0, q1] [] ds m Q else WP 68 13 [q0, q1] [] ds m Q) := P_if k68_4 rfl
set_option maxRecDepth 20000 in
theorem k68_7 : mjCode 68 7 = some (.aload_n 0, 1, 0, 0) := by decide +kernel
theorem p68_7 {l0 : Int} {q1 : MV} {ds : Ds} {m : Mm} {Q : Ds → Mm → List MV → Prop} : WP 68 7 [(2, l0), q1] [] ds m Q = (WP 68 8 [(2, l0), q1] [(2, l0)] ds m Q) := P_nx k68_7 rfl
set_option maxRecDepth 20000 in
theorem k68_8 : mjCode 68 8 = some (.iconst (-1), 1, 0, 0) := by decide +kernel
theorem p68_8 {s0 : Int} {q0 q1 : MV} {ds : Ds} {m : Mm} {Q : Ds → Mm → List MV → Prop} : WP 68 8 [q0, q1] [(2, s0)] ds m Q = (WP 68 9 [q0, q1] [(0, (-1)), (2, s0)] ds m Q) := P_nx k68_8 rfl
set_option maxRecDepth 20000 in
theorem k68_9 : mjCode 68 9 = some (.invokevirtual 73, 3, 96, 2) := by decide +kernel
theorem p68_9 {s0 s1 : Int} {q0 q1 : MV} {ds : Ds} {m : Mm} {Q : Ds → Mm → List MV → Prop} : WP 68 9 [q0, q1] [(0, s0), (2, s1)] ds m Q = ((dk ds s1 = 6 ∧ WP 95 0 [(2, s1), (0, s0), (3, 0)] [] ds m (fun d2 m2 r2 => WP 68 12 [q0, q1] (r2 ++ []) d2 m2 Q))) := P_cv k68_9 mx95 mo95 rfl rfl rfl rfl rfl rfl rfl rfl
set_option maxRecDepth 20000 in
theorem k68_12 : mjCode 68 12 = some (.ireturn, 1, 0, 0) := by decide +kernel
theorem p68_12 {s0 : Int} {q0 q1 : MV} {ds : Ds} {m : Mm} {Q : Ds → Mm → List MV → Prop} : WP 68 12 [q0, q1] [(0, s0)] ds m Q = (Q ds m [(0, s0)]) := P_ri k68_12 rk68
set_option maxRecDepth 20000 in
theorem k68_13 : mjCode 68 13 = some (.aload_n 0, 1, 0, 0) := by decide +kernel
theorem p68_13 {l0 : Int} {q1 : MV} {ds : Ds} {m : Mm} {Q : Ds → Mm → List MV → Prop} : WP 68 13 [(2, l0), q1] [] ds m Q = (WP 68 14 [(2, l0), q1] [(2, l0)] ds m Q) := P_nx k68_13 rfl
set_option maxRecDepth 20000 in
theorem k68_14 : mjCode 68 14 = some (.getfield 45, 3, 6, 0) := by decide +kernel
theorem p68_14 {s0 : Int} {q0 q1 : MV} {ds : Ds} {m : Mm} {Q : Ds → Mm → List MV → Prop} : WP 68 14 [q0, q1] [(2, s0)] ds m Q = ((dk ds s0 = 6 ∧ WP 68 17 [q0, q1] [(2, m s0 0)] ds m Q)) := P_gd k68_14 rfl
set_option maxRecDepth 20000 in
theorem k68_17 : mjCode 68 17 = some (.iload_n 1, 1, 0, 0) := by decide +kernel
theorem p68_17 {l1 s0 : Int} {q0 : MV} {ds : Ds} {m : Mm} {Q : Ds → Mm → List MV → Prop} : WP 68 17 [q0, (0, l1)] [(2, s0)] ds m Q = (WP 68 18 [q0, (0, l1)] [(0, l1), (2, s0)] ds m Q) := P_nx k68_17 rfl
set_option maxRecDepth 20000 in
theorem k68_18 : mjCode 68 18 = some (.invokevirtual 95, 3, 34, 2) := by decide +kernel
theorem p68_18 {s0 s1 : Int} {q0 q1 : MV} {ds : Ds} {m : Mm} {Q : Ds → Mm → List MV → Prop} : WP 68 18 [q0, q1] [(0, s0), (2, s1)] ds m Q = ((dk ds s1 = 3 ∧ WP 33 0 [(2, s1), (0, s0), (3, 0)] [] ds m (fun d2 m2 r2 => WP 68 21 [q0, q1] (r2 ++ []) d2 m2 Q))) := P_cv k68_18 mx33 mo33 rfl rfl rfl rfl rfl rfl rfl rfl
set_option maxRecDepth 20000 in
theorem k68_21 : mjCode 68 21 = some (.ifCond .ne 10, 3, 31, 0) := by decide +kernel
theorem p68_21 {s0 : Int} {q0 q1 : MV} {ds : Ds} {m : Mm} {Q : Ds → Mm → List MV → Prop} : WP 68 21 [q0, q1] [(0, s0)] ds m Q = (if s0 = 0 then WP 68 24 [q0, q1] [] ds m Q else WP 68 31 [q0, q1] [] ds m Q) := P_if k68_21 rfl
set_option maxRecDepth 20000 in
theorem k68_24 : mjCode 68 24 = some (.aload_n 0, 1, 0, 0) := by decide +kernel
theorem p68_24 {l0 : Int} {q1 : MV} {ds : Ds} {m : Mm} {Q : Ds → Mm → List MV → Prop} : WP 68 24 [(2, l0), q1] [] ds m Q = (WP 68 25 [(2, l0), q1] [(2, l0)] ds m Q) := P_nx k68_24 rfl
set_option maxRecDepth 20000 in
theorem k68_25 : mjCode 68 25 = some (.bipush (-6), 2, 0, 0) := by decide +kernel
theorem p68_25 {s0 : Int} {q0 q1 : MV} {ds : Ds} {m : Mm} {Q : Ds → Mm → List MV → Prop} : WP 68 25 [q0, q1] [(2, s0)] ds m Q = (WP 68 27 [q0, q1] [(0, (-6)), (2, s0)] ds m Q) := P_nx k68_25 rfl
set_option maxRecDepth 20000 in
theorem k68_27 : mjCode 68 27 = some (.invokevirtual 73, 3, 96, 2) := by decide +kernel
theorem p68_27 {s0 s1 : Int} {q0 q1 : MV} {ds : Ds} {m : Mm} {Q : Ds → Mm → List MV → Prop} : WP 68 27 [q0, q1] [(0, s0), (2, s1)] ds m Q = ((dk ds s1 = 6 ∧ WP 95 0 [(2, s1), (0, s0), (3, 0)] [] ds m (fun d2 m2 r2 => WP 68 30 [q0, q1] (r2 ++ []) d2 m2 Q))) := P_cv k68_27 mx95 mo95 rfl rfl rfl rfl rfl rfl rfl rfl
set_option maxRecDepth 20000 in
theorem k68_30 : mjCode 68 30 = some (.ireturn, 1, 0, 0) := by decide +kernel
theorem p68_30 {s0 : Int} {q0 q1 : MV} {ds : Ds} {m : Mm} {Q : Ds → Mm → List MV → Prop} : WP 68 30 [q0, q1] [(0, s0)] ds m Q = (Q ds m [(0, s0)]) := P_ri k68_30 rk68
set_option maxRecDepth 20000 in
theorem k68_31 : mjCode 68 31 = some (.aload_n 0, 1, 0, 0) := by decide +kernel
theorem p68_31 {l0 : Int} {q1 : MV} {ds : Ds} {m : Mm} {Q : Ds → Mm → List MV → Prop} : WP 68 31 [(2, l0), q1] [] ds m Q = (WP 68 32 [(2, l0), q1] [(2, l0)] ds m Q) := P_nx k68_31 rfl
set_option maxRecDepth 20000 in
theorem k68_32 : mjCode 68 32 = some (.getfield 45, 3, 6, 0) := by decide +kernel
theorem p68_32 {s0 : Int} {q0 q1 : MV} {ds : Ds} {m : Mm} {Q : Ds → Mm → List MV → Prop} : WP 68 32 [q0, q1] [(2, s0)] ds m Q = ((dk ds s0 = 6 ∧ WP 68 35 [q0, q1] [(2, m s0 0)] ds m Q)) := P_gd k68_32 rfl
set_option maxRecDepth 20000 in
theorem k68_35 : mjCode 68 35 = some (.iload_n 1, 1, 0, 0) := by decide +kernel
theorem p68_35 {l1 s0 : Int} {q0 : MV} {ds : Ds} {m : Mm} {Q : Ds → Mm → List MV → Prop} : WP 68 35 [q0, (0, l1)] [(2, s0)] ds m Q = (WP 68 36 [q0, (0, l1)] [(0, l1), (2, s0)] ds m Q) := P_nx k68_35 rfl
set_option maxRecDepth 20000 in
theorem k68_36 : mjCode 68 36 = some (.invokevirtual 98, 3, 37, 2) := by decide +kernel
theorem p68_36 {s0 s1 : Int} {q0 q1 : MV} {ds : Ds} {m : Mm} {Q : Ds → Mm → List MV → Prop} : WP 68 36 [q0, q1] [(0, s0), (2, s1)] ds m Q = ((dk ds s1 = 3 ∧ WP 36 0 [(2, s1), (0, s0)] [] ds m (fun d2 m2 r2 => WP 68 39 [q0, q1] (r2 ++ []) d2 m2 Q))) := P_cv k68_36 mx36 mo36 rfl rfl rfl rfl rfl rfl rfl rfl
set_option maxRecDepth 20000 in
theorem k68_39 : mjCode 68 39 = some (.iconst 1, 1, 0, 0) := by decide +kernel
theorem p68_39 {q0 q1 : MV} {ds : Ds} {m : Mm} {Q : Ds → Mm → List MV → Prop} : WP 68 39 [q0, q1] [] ds m Q = (WP 68 40 [q0, q1] [(0, 1)] ds m Q) := P_nx k68_39 rfl
set_option maxRecDepth 20000 in
theorem k68_40 : mjCode 68 40 = some (.ireturn, 1, 0, 0) := by decide +kernel
theorem p68_40 {s0 : Int} {q0 q1 : MV} {ds : Ds} {m : Mm} {Q : Ds → Mm → List MV → Prop} : WP 68 40 [q0, q1] [(0, s0)] ds m Q = (Q ds m [(0, s0)]) := P_ri k68_40 rk68
set_option maxRecDepth 20000 in
theorem k69_0 : mjCode 69 0 = some (.iload_n 1, 1, 0, 0) := by decide +kernel
theorem p69_0 {l1 : Int} {q0 q2 : MV} {ds : Ds} {m : Mm} {Q : Ds → Mm → List MV → Prop} : WP 69 0 [q0, (0, l1), q2] [] ds m Q = (WP 69 1 [q0, (0, l1), q2] [(0, l1)] ds m Q) := P_nx k69_0 rfl
set_option maxRecDepth 20000 in
theorem k69_1 : mjCode 69 1 = some (.invokestatic 69, 3, 108, 1) := by decide +kernel
theorem p69_1 {s0 : Int} {q0 q1 q2 : MV} {ds : Ds} {m : Mm} {Q : Ds → Mm → List MV → Prop} : WP 69 1 [q0, q1, q2] [(0, s0)] ds m Q = (WP 107 0 [(0, s0)] [] ds m (fun d2 m2 r2 => WP 69 4 [q0, q1, q2] (r2 ++ []) d2 m2 Q)) := P_cs k69_1 mx107 rfl rfl rfl rfl rfl rfl rfl
set_option maxRecDepth 20000 in
theorem k69_4 : mjCode 69 4 = some (.ifCond .ne 9, 3, 13, 0) := by decide +kernel
theorem p69_4 {s0 : Int} {q0 q1 q2 : MV} {ds : Ds} {m : Mm} {Q : Ds → Mm → List MV → Prop} : WP 69 4 [q0, q1, q2] [(0, s0)] ds m Q = (if s0 = 0 then WP 69 7 [q0, q1, q2] [] ds m Q else WP 69 13 [q0, q1, q2] [] ds m Q) := P_if k69_4 rfl
set_option maxRecDepth 20000 in
theorem k69_7 : mjCode 69 7 = some (.aload_n 0, 1, 0, 0) := by decide +kernel
theorem p69_7 {l0 : Int} {q1 q2 : MV} {ds : Ds} {m : Mm} {Q : Ds → Mm → List MV → Prop} : WP 69 7 [(2, l0), q1, q2] [] ds m Q = (WP 69 8 [(2, l0), q1, q2] [(2, l0)] ds m Q) := P_nx k69_7 rfl
set_option maxRecDepth 20000 in
theorem k69_8 : mjCode 69 8 = some (.iconst (-1), 1, 0, 0) := by decide +kernel
theorem p69_8 {s0 : Int} {q0 q1 q2 : MV} {ds : Ds} {m : Mm} {Q : Ds → Mm → List MV → Prop} : WP 69 8 [q0, q1, q2] [(2, s0)] ds m Q = (WP 69 9 [q0, q1, q2] [(0, (-1)), (2, s0)] ds m Q) := P_nx k69_8 rfl
set_option maxRecDepth 20000 in
theorem k69_9 : mjCode 69 9 = some (.invokevirtual 73, 3, 96, 2) := by decide +kernel
theorem p69_9 {s0 s1 : Int} {q0 q1 q2 : MV} {ds : Ds} {m : Mm} {Q : Ds → Mm → List MV → Prop} : WP 69 9 [q0, q1, q2] [(0, s0), (2, s1)] ds m Q = ((dk ds s1 = 6 ∧ WP 95 0 [(2, s1), (0, s0), (3, 0)] [] ds m (fun d2 m2 r2 => WP 69 12 [q0, q1, q2] (r2 ++ []) d2 m2 Q))) := P_cv k69_9 mx95 mo95 rfl rfl rfl rfl rfl rfl rfl rfl
set_option maxRecDepth 20000 in
theorem k69_12 : mjCode 69 12 = some (.ireturn, 1, 0, 0) := by decide +kernel
theorem p69_12 {s0 : Int} {q0 q1 q2 : MV} {ds : Ds} {m : Mm} {Q : Ds → Mm → List MV → Prop} : WP 69 12 [q0, q1, q2] [(0, s0)] ds m Q = (Q ds m [(0, s0)]) := P_ri k69_12 rk69
set_option maxRecDepth 20000 in
theorem k69_13 : mjCode 69 13 = some (.aload_n 0, 1, 0, 0) := by decide +kernel
theorem p69_13 {l0 : Int} {q1 q2 : MV} {ds : Ds} {m : Mm} {Q : Ds → Mm → List MV → Prop} : WP 69 13 [(2, l0), q1, q2] [] ds m Q = (WP 69 14 [(2, l0), q1, q2] [(2, l0)] ds m Q) := P_nx k69_13 rfl
set_option maxRecDepth 20000 in
theorem k69_14 : mjCode 69 14 = some (.getfield 45, 3, 6, 0) := by decide +kernel
theorem p69_14 {s0 : Int} {q0 q1 q2 : MV} {ds : Ds} {m : Mm} {Q : Ds → Mm → List MV → Prop} : WP 69 14 [q0, q1, q2] [(2, s0)] ds m Q = ((dk ds s0 = 6 ∧ WP 69 17 [q0, q1, q2] [(2, m s0 0)] ds m Q)) := P_gd k69_14 rfl
set_option maxRecDepth 20000 in
theorem k69_17 : mjCode 69 17 = some (.iload_n 1, 1, 0, 0) := by decide +kernel
theorem p69_17 {l1 s0 : Int} {q0 q2 : MV} {ds : Ds} {m : Mm} {Q : Ds → Mm → List MV → Prop} : WP 69 17 [q0, (0, l1), q2] [(2, s0)] ds m Q = (WP 69 18 [q0, (0, l1), q2] [(0, l1), (2, s0)] ds m Q) := P_nx k69_17 rfl
set_option maxRecDepth 20000 in
theorem k69_18 : mjCode 69 18 = some (.invokevirtual 101, 3, 25, 2) := by decide +kernel
theorem p69_18 {s0 s1 : Int} {q0 q1 q2 : MV} {ds : Ds} {m : Mm} {Q : Ds → Mm → List MV → Prop} : WP 69 18 [q0, q1, q2] [(0, s0), (2, s1)] ds m Q = ((dk ds s1 = 3 ∧ WP 24 0 [(2, s1), (0, s0)] [] ds m (fun d2 m2 r2 => WP 69 21 [q0, q1, q2] (r2 ++ []) d2 m2 Q))) := P_cv k69_18 mx24 mo24 rfl rfl rfl rfl rfl rfl rfl rfl
set_option maxRecDepth 20000 in
theorem k69_21 : mjCode 69 21 = some (.istore_n 2, 1, 0, 0) := by decide +kernel
theorem p69_21 {l1 s0 : Int} {q0 q2 : MV} {ds : Ds} {m : Mm} {Q : Ds → Mm → List MV → Prop} : WP 69 21 [q0, (0, l1), q2] [(0, s0)] ds m Q = (WP 69 22 [q0, (0, l1), (0, s0)] [] ds m Q) := P_nx k69_21 rfl
set_option maxRecDepth 20000 in
theorem k69_22 : mjCode 69 22 = some (.iload_n 2, 1, 0, 0) := by decide +kernel
theorem p69_22 {l2 : Int} {q0 q1 : MV} {ds : Ds} {m : Mm} {Q : Ds → Mm → List MV → Prop} : WP 69 22 [q0, q1, (0, l2)] [] ds m Q = (WP 69 23 [q0, q1, (0, l2)] [(0, l2)] ds m Q) := P_nx k69_22 rfl
set_option maxRecDepth 20000 in
theorem k69_23 : mjCode 69 23 = some (.iconst 3, 1, 0, 0) := by decide +kernel
theorem p69_23 {s0 : Int} {q0 q1 q2 : MV} {ds : Ds} {m : Mm} {Q : Ds → Mm → List MV → Prop} : WP 69 23 [q0, q1, q2] [(0, s0)] ds m Q = (WP 69 24 [q0, q1, q2] [(0, 3), (0, s0)] ds m Q) := P_nx k69_23 rfl
set_option maxRecDepth 20000 in
theorem k69_24 : mjCode 69 24 = some (.if_icmp .ne 18, 3, 42, 0) := by decide +kernel
theorem p69_24 {s0 s1 : Int} {q0 q1 q2 : MV} {ds : Ds} {m : Mm} {Q : Ds → Mm → List MV → Prop} : WP 69 24 [q0, q1, q2] [(0, s0), (0, s1)] ds m Q = (if s1 = s0 then WP 69 27 [q0, q1, q2] [] ds m Q else WP 69 42 [q0, q1, q2] [] ds m Q) := P_if k69_24 rfl
set_option maxRecDepth 20000 in
theorem k69_27 : mjCode 69 27 = some (.aload_n 0, 1, 0, 0) := by decide +kernel
theorem p69_27 {l0 : Int} {q1 q2 : MV} {ds : Ds} {m : Mm} {Q : Ds → Mm → List MV → Prop} : WP 69 27 [(2, l0), q1, q2] [] ds m Q = (WP 69 28 [(2, l0), q1, q2] [(2, l0)] ds m Q) := P_nx k69_27 rfl
set_option maxRecDepth 20000 in
theorem k69_28 : mjCode 69 28 = some (.getfield 45, 3, 6, 0) := by decide +kernel
theorem p69_28 {s0 : Int} {q0 q1 q2 : MV} {ds : Ds} {m : Mm} {Q : Ds → Mm → List MV → Prop} : WP 69 28 [q0, q1, q2] [(2, s0)] ds m Q = ((dk ds s0 = 6 ∧ WP 69 31 [q0, q1, q2] [(2, m s0 0)] ds m Q)) := P_gd k69_28 rfl
set_option maxRecDepth 20000 in
theorem k69_31 : mjCode 69 31 = some (.aload_n 0, 1, 0, 0) := by decide +kernel
theorem p69_31 {l0 s0 : Int} {q1 q2 : MV} {ds : Ds} {m : Mm} {Q : Ds → Mm → List MV → Prop} : WP 69 31 [(2, l0), q1, q2] [(2, s0)] ds m Q = (WP 69 32 [(2, l0), q1, q2] [(2, l0), (2, s0)] ds m Q) := P_nx k69_31 rfl
set_option maxRecDepth 20000 in
theorem k69_32 : mjCode 69 32 = some (.getfield 45, 3, 6, 0) := by decide +kernel
theorem p69_32 {s0 s1 : Int} {q0 q1 q2 : MV} {ds : Ds} {m : Mm} {Q : Ds → Mm → List MV → Prop} : WP 69 32 [q0, q1, q2] [(2, s0), (2, s1)] ds m Q = ((dk ds s0 = 6 ∧ WP 69 35 [q0, q1, q2] [(2, m s0 0), (2, s1)] ds m Q)) := P_gd k69_32 rfl
set_option maxRecDepth 20000 in
theorem k69_35 : mjCode 69 35 = some (.iload_n 1, 1, 0, 0) := by decide +kernel
theorem p69_35 {l1 s0 s1 : Int} {q0 q2 : MV} {ds : Ds} {m : Mm} {Q : Ds → Mm → List MV → Prop} : WP 69 35 [q0, (0, l1), q2] [(2, s0), (2, s1)] ds m Q = (WP 69 36 [q0, (0, l1), q2] [(0, l1), (2, s0), (2, s1)] ds m Q) := P_nx k69_35 rfl
set_option maxRecDepth 20000 in
theorem k69_36 : mjCode 69 36 = some (.invokevirtual 104, 3, 28, 2) := by decide +kernel
theorem p69_36 {s0 s1 s2 : Int} {q0 q1 q2 : MV} {ds : Ds} {m : Mm} {Q : Ds → Mm → List MV → Prop} : WP 69 36 [q0, q1, q2] [(0, s0), (2, s1), (2, s2)] ds m Q = ((dk ds s1 = 3 ∧ WP 27 0 [(2, s1), (0, s0)] [] ds m (fun d2 m2 r2 => WP 69 39 [q0, q1, q2] (r2 ++ [(2, s2)]) d2 m2 Q))) := P_cv k69_36 mx27 mo27 rfl rfl rfl rfl rfl rfl rfl rfl
set_option maxRecDepth 20000 in
theorem k69_39 : mjCode 69 39 = some (.invokevirtual 107, 3, 38, 2) := by decide +kernel
theorem p69_39 {s0 s1 : Int} {q0 q1 q2 : MV} {ds : Ds} {m : Mm} {Q : Ds → Mm → List MV → Prop} : WP 69 39 [q0, q1, q2] [(0, s0), (2, s1)] ds m Q = ((dk ds s1 = 3 ∧ WP 37 0 [(2, s1), (0, s0)] [] ds m (fun d2 m2 r2 => WP 69 42 [q0, q1, q2] (r2 ++ []) d2 m2 Q))) := P_cv k69_39 mx37 mo37 rfl rfl rfl rfl rfl rfl rfl rfl
set_option maxRecDepth 20000 in
theorem k69_42 : mjCode 69 42 = some (.aload_n 0, 1, 0, 0) := by decide +kernel
theorem p69_42 {l0 : Int} {q1 q2 : MV} {ds : Ds} {m : Mm} {Q : Ds → Mm → List MV → Prop} : WP 69 42 [(2, l0), q1, q2] [] ds m Q = (WP 69 43 [(2, l0), q1, q2] [(2, l0)] ds m Q) := P_nx k69_42 rfl
set_option maxRecDepth 20000 in
theorem k69_43 : mjCode 69 43 = some (.getfield 45, 3, 6, 0) := by decide +kernel
theorem p69_43 {s0 : Int} {q0 q1 q2 : MV} {ds : Ds} {m : Mm} {Q : Ds → Mm → List MV → Prop} : WP 69 43 [q0, q1, q2] [(2, s0)] ds m Q = ((dk ds s0 = 6 ∧ WP 69 46 [q0, q1, q2] [(2, m s0 0)] ds m Q)) := P_gd k69_43 rfl
set_option maxRecDepth 20000 in
theorem k69_46 : mjCode 69 46 = some (.iload_n 1, 1, 0, 0) := by decide +kernel
theorem p69_46 {l1 s0 : Int} {q0 q2 : MV} {ds : Ds} {m : Mm} {Q : Ds → Mm → List MV → Prop} : WP 69 46 [q0, (0, l1), q2] [(2, s0)] ds m Q = (WP 69 47 [q0, (0, l1), q2] [(0, l1), (2, s0)] ds m Q) := P_nx k69_46 rfl
set_option maxRecDepth 20000 in
theorem k69_47 : mjCode 69 47 = some (.invokevirtual 107, 3, 38, 2) := by decide +kernel
theorem p69_47 {s0 s1 : Int} {q0 q1 q2 : MV} {ds : Ds} {m : Mm} {Q : Ds → Mm → List MV → Prop} : WP 69 47 [q0, q1, q2] [(0, s0), (2, s1)] ds m Q = ((dk ds s1 = 3 ∧ WP 37 0 [(2, s1), (0, s0)] [] ds m (fun d2 m2 r2 => WP 69 50 [q0, q1, q2] (r2 ++ []) d2 m2 Q))) := P_cv k69_47 mx37 mo37 rfl rfl rfl rfl rfl rfl rfl rfl
set_option maxRecDepth 20000 in
theorem k69_50 : mjCode 69 50 = some (.iload_n 2, 1, 0, 0) := by decide +kernel
theorem p69_50 {l2 : Int} {q0 q1 : MV} {ds : Ds} {m : Mm} {Q : Ds → Mm → List MV → Prop} : WP 69 50 [q0, q1, (0, l2)] [] ds m Q = (WP 69 51 [q0, q1, (0, l2)] [(0, l2)] ds m Q) := P_nx k69_50 rfl
set_option maxRecDepth 20000 in
theorem k69_51 : mjCode 69 51 = some (.ireturn, 1, 0, 0) := by decide +kernel
theorem p69_51 {s0 : Int} {q0 q1 q2 : MV} {ds : Ds} {m : Mm} {Q : Ds → Mm → List MV → Prop} : WP 69 51 [q0, q1, q2] [(0, s0)] ds m Q = (Q ds m [(0, s0)]) := P_ri k69_51 rk69
set_option maxRecDepth 20000 in
theorem k70_0 : mjCode 70 0 = some (.iload_n 1, 1, 0, 0) := by decide +kernel
theorem p70_0 {l1 : Int} {q0 q2 q3 : MV} {ds : Ds} {m : Mm} {Q : Ds → Mm → List MV → Prop} : WP 70 0 [q0, (0, l1), q2, q3] [] ds m Q = (WP 70 1 [q0, (0, l1), q2, q3] [(0, l1)] ds m Q) := P_nx k70_0 rfl
set_option maxRecDepth 20000 in
theorem k70_1 : mjCode 70 1 = some (.invokestatic 69, 3, 108, 1) := by decide +kernel
theorem p70_1 {s0 : Int} {q0 q1 q2 q3 : MV} {ds : Ds} {m : Mm} {Q : Ds → Mm → List MV → Prop} : WP 70 1 [q0, q1, q2, q3] [(0, s0)] ds m Q = (WP 107 0 [(0, s0)] [] ds m (fun d2 m2 r2 => WP 70 4 [q0, q1, q2, q3] (r2 ++ []) d2 m2 Q)) := P_cs k70_1 mx107 rfl rfl rfl rfl rfl rfl rfl
set_option maxRecDepth 20000 in
theorem k70_4 : mjCode 70 4 = some (.ifCond .ne 9, 3, 13, 0) := by decide +kernel
theorem p70_4 {s0 : Int} {q0 q1 q2 q3 : MV} {ds : Ds} {m : Mm} {Q : Ds → Mm → List MV → Prop} : WP 70 4 [q0, q1, q2, q3] [(0, s0)] ds m Q = (if s0 = 0 then WP 70 7 [q0, q1, q2, q3] [] ds m Q else WP 70 13 [q0, q1, q2, q3] [] ds m Q) := P_if k70_4 rfl
set_option maxRecDepth 20000 in
theorem k70_7 : mjCode 70 7 = some (.aload_n 0, 1, 0, 0) := by decide +kernel
theorem p70_7 {l0 : Int} {q1 q2 q3 : MV} {ds : Ds} {m : Mm} {Q : Ds → Mm → List MV → Prop} : WP 70 7 [(2, l0), q1, q2, q3] [] ds m Q = (WP 70 8 [(2, l0), q1, q2, q3] [(2, l0)] ds m Q) := P_nx k70_7 rfl
set_option maxRecDepth 20000 in
theorem k70_8 : mjCode 70 8 = some (.iconst (-1), 1, 0, 0) := by decide +kernel
theorem p70_8 {s0 : Int} {q0 q1 q2 q3 : MV} {ds : Ds} {m : Mm} {Q : Ds → Mm → List MV → Prop} : WP 70 8 [q0, q1, q2, q3] [(2, s0)] ds m Q = (WP 70 9 [q0, q1, q2, q3] [(0, (-1)), (2, s0)] ds m Q) := P_nx k70_8 rfl
set_option maxRecDepth 20000 in
theorem k70_9 : mjCode 70 9 = some (.invokevirtual 73, 3, 96, 2) := by decide +kernel
theorem p70_9 {s0 s1 : Int} {q0 q1 q2 q3 : MV} {ds : Ds} {m : Mm} {Q : Ds → Mm → List MV → Prop} : WP 70 9 [q0, q1, q2, q3] [(0, s0), (2, s1)] ds m Q = ((dk ds s1 = 6 ∧ WP 95 0 [(2, s1), (0, s0), (3, 0)] [] ds m (fun d2 m2 r2 => WP 70 12 [q0, q1, q2, q3] (r2 ++ []) d2 m2 Q))) := P_cv k70_9 mx95 mo95 rfl rfl rfl rfl rfl rfl rfl rfl
set_option maxRecDepth 20000 in
theorem k70_12 : mjCode 70 12 = some (.ireturn, 1, 0, 0) := by decide +kernel
theorem p70_12 {s0 : Int} {q0 q1 q2 q3 : MV} {ds : Ds} {m : Mm} {Q : Ds → Mm → List MV → Prop} : WP 70 12 [q0, q1, q2, q3] [(0, s0)] ds m Q = (Q ds m [(0, s0)]) := P_ri k70_12 rk70
set_option maxRecDepth 20000 in
theorem k70_13 : mjCode 70 13 = some (.iload_n 2, 1, 0, 0) := by decide +kernel
theorem p70_13 {l2 : Int} {q0 q1 q3 : MV} {ds : Ds} {m : Mm} {Q : Ds → Mm → List MV → Prop} : WP 70 13 [q0, q1, (0, l2), q3] [] ds m Q = (WP 70 14 [q0, q1, (0, l2), q3] [(0, l2)] ds m Q) := P_nx k70_13 rfl
set_option maxRecDepth 20000 in
theorem k70_14 : mjCode 70 14 = some (.invokestatic 88, 3, 109, 1) := by decide +kernel
theorem p70_14 {s0 : Int} {q0 q1 q2 q3 : MV} {ds : Ds} {m : Mm} {Q : Ds → Mm → List MV → Prop} : WP 70 14 [q0, q1, q2, q3] [(0, s0)] ds m Q = (WP 108 0 [(0, s0)] [] ds m (fun d2 m2 r2 => WP 70 17 [q0, q1, q2, q3] (r2 ++ []) d2 m2 Q)) := P_cs k70_14 mx108 rfl rfl rfl rfl rfl rfl rfl
set_option maxRecDepth 20000 in
theorem k70_17 : mjCode 70 17 = some (.ifCond .eq 13, 3, 30, 0) := by decide +kernel
theorem p70_17 {s0 : Int} {q0 q1 q2 q3 : MV} {ds : Ds} {m : Mm} {Q : Ds → Mm → List MV → Prop} : WP 70 17 [q0, q1, q2, q3] [(0, s0)] ds m Q = (if s0 = 0 then WP 70 30 [q0, q1, q2, q3] [] ds m Q else WP 70 20 [q0, q1, q2, q3] [] ds m Q) := P_if k70_17 rfl
set_option maxRecDepth 20000 in
theorem k70_20 : mjCode 70 20 = some (.iload_n 3, 1, 0, 0) := by decide +kernel
theorem p70_20 {l3 : Int} {q0 q1 q2 : MV} {ds : Ds} {m : Mm} {Q : Ds → Mm → List MV → Prop} : WP 70 20 [q0, q1, q2, (0, l3)] [] ds m Q = (WP 70 21 [q0, q1, q2, (0, l3)] [(0, l3)] ds m Q) := P_nx k70_20 rfl
set_option maxRecDepth 20000 in
theorem k70_21 : mjCode 70 21 = some (.ifCond .lt 9, 3, 30, 0) := by decide +kernel
theorem p70_21 {s0 : Int} {q0 q1 q2 q3 : MV} {ds : Ds} {m : Mm} {Q : Ds → Mm → List MV → Prop} : WP 70 21 [q0, q1, q2, q3] [(0, s0)] ds m Q = (if s0 < 0 then WP 70 30 [q0, q1, q2, q3] [] ds m Q else WP 70 24 [q0, q1, q2, q3] [] ds m Q) := P_if k70_21 rfl
set_option maxRecDepth 20000 in
theorem k70_24 : mjCode 70 24 = some (.iload_n 3, 1, 0, 0) := by decide +kernel
theorem p70_24 {l3 : Int} {q0 q1 q2 : MV} {ds : Ds} {m : Mm} {Q : Ds → Mm → List MV → Prop} : WP 70 24 [q0, q1, q2, (0, l3)] [] ds m Q = (WP 70 25 [q0, q1, q2, (0, l3)] [(0, l3)] ds m Q) := P_nx k70_24 rfl
set_option maxRecDepth 20000 in
theorem k70_25 : mjCode 70 25 = some (.bipush 99, 2, 0, 0) := by decide +kernel
theorem p70_25 {s0 : Int} {q0 q1 q2 q3 : MV} {ds : Ds} {m : Mm} {Q : Ds → Mm → List MV → Prop} : WP 70 25 [q0, q1, q2, q3] [(0, s0)] ds m Q = (WP 70 27 [q0, q1, q2, q3] [(0, 99), (0, s0)] ds m Q) := P_nx k70_25 rfl
set_option maxRecDepth 20000 in
theorem k70_27 : mjCode 70 27 = some (.if_icmp .le 10, 3, 37, 0) := by decide +kernel
theorem p70_27 {s0 s1 : Int} {q0 q1 q2 q3 : MV} {ds : Ds} {m : Mm} {Q : Ds → Mm → List MV → Prop} : WP 70 27 [q0, q1, q2, q3] [(0, s0), (0, s1)] ds m Q = (if s0 < s1 then WP 70 30 [q0, q1, q2, q3] [] ds m Q else WP 70 37 [q0, q1, q2, q3] [] ds m Q) := P_if k70_27 rfl
set_option maxRecDepth 20000 in
theorem k70_30 : mjCode 70 30 = some (.aload_n 0, 1, 0, 0) := by decide +kernel
theorem p70_30 {l0 : Int} {q1 q2 q3 : MV} {ds : Ds} {m : Mm} {Q : Ds → Mm → List MV → Prop} : WP 70 30 [(2, l0), q1, q2, q3] [] ds m Q = (WP 70 31 [(2, l0), q1, q2, q3] [(2, l0)] ds m Q) := P_nx k70_30 rfl
set_option maxRecDepth 20000 in
theorem k70_31 : mjCode 70 31 = some (.bipush (-6), 2, 0, 0) := by decide +kernel
theorem p70_31 {s0 : Int} {q0 q1 q2 q3 : MV} {ds : Ds} {m : Mm} {Q : Ds → Mm → List MV → Prop} : WP 70 31 [q0, q1, q2, q3] [(2, s0)] ds m Q = (WP 70 33 [q0, q1, q2, q3] [(0, (-6)), (2, s0)] ds m Q) := P_nx k70_31 rfl
set_option maxRecDepth 20000 in
theorem k70_33 : mjCode 70 33 = some (.invokevirtual 73, 3, 96, 2) := by decide +kernel
theorem p70_33 {s0 s1 : Int} {q0 q1 q2 q3 : MV} {ds : Ds} {m : Mm} {Q : Ds → Mm → List MV → Prop} : WP 70 33 [q0, q1, q2, q3] [(0, s0), (2, s1)] ds m Q = ((dk ds s1 = 6 ∧ WP 95 0 [(2, s1), (0, s0), (3, 0)] [] ds m (fun d2 m2 r2 => WP 70 36 [q0, q1, q2, q3] (r2 ++ []) d2 m2 Q))) := P_cv k70_33 mx95 mo95 rfl rfl rfl rfl rfl rfl rfl rfl
set_option maxRecDepth 20000 in
theorem k70_36 : mjCode 70 36 = some (.ireturn, 1, 0, 0) := by decide +kernel
theorem p70_36 {s0 : Int} {q0 q1 q2 q3 : MV} {ds : Ds} {m : Mm} {Q : Ds → Mm → List MV → Prop} : WP 70 36 [q0, q1, q2, q3] [(0, s0)] ds m Q = (Q ds m [(0, s0)]) := P_ri k70_36 rk70
set_option maxRecDepth 20000 in
theorem k70_37 : mjCode 70 37 = some (.aload_n 0, 1, 0, 0) := by decide +kernel
theorem p70_37 {l0 : Int} {q1 q2 q3 : MV} {ds : Ds} {m : Mm} {Q : Ds → Mm → List MV → Prop} : WP 70 37 [(2, l0), q1, q2, q3] [] ds m Q = (WP 70 38 [(2, l0), q1, q2, q3] [(2, l0)] ds m Q) := P_nx k70_37 rfl
set_option maxRecDepth 20000 in
theorem k70_38 : mjCode 70 38 = some (.getfield 45, 3, 6, 0) := by decide +kernel
theorem p70_38 {s0 : Int} {q0 q1 q2 q3 : MV} {ds : Ds} {m : Mm} {Q : Ds → Mm → List MV → Prop} : WP 70 38 [q0, q1, q2, q3] [(2, s0)] ds m Q = ((dk ds s0 = 6 ∧ WP 70 41 [q0, q1, q2, q3] [(2, m s0 0)] ds m Q)) := P_gd k70_38 rfl
set_option maxRecDepth 20000 in
theorem k70_41 : mjCode 70 41 = some (.iload_n 1, 1, 0, 0) := by decide +kernel
theorem p70_41 {l1 s0 : Int} {q0 q2 q3 : MV} {ds : Ds} {m : Mm} {Q : Ds → Mm → List MV → Prop} : WP 70 41 [q0, (0, l1), q2, q3] [(2, s0)] ds m Q = (WP 70 42 [q0, (0, l1), q2, q3] [(0, l1), (2, s0)] ds m Q) := P_nx k70_41 rfl
set_option maxRecDepth 20000 in
theorem k70_42 : mjCode 70 42 = some (.iload_n 2, 1, 0, 0) := by decide +kernel
theorem p70_42 {l2 s0 s1 : Int} {q0 q1 q3 : MV} {ds : Ds} {m : Mm} {Q : Ds → Mm → List MV → Prop} : WP 70 42 [q0, q1, (0, l2), q3] [(0, s0), (2, s1)] ds m Q = (WP 70 43 [q0, q1, (0, l2), q3] [(0, l2), (0, s0), (2, s1)] ds m Q) := P_nx k70_42 rfl
set_option maxRecDepth 20000 in
theorem k70_43 : mjCode 70 43 = some (.iload_n 3, 1, 0, 0) := by decide +kernel
theorem p70_43 {l3 s0 s1 s2 : Int} {q0 q1 q2 : MV} {ds : Ds} {m : Mm} {Q : Ds → Mm → List MV → Prop} : WP 70 43 [q0, q1, q2, (0, l3)] [(0, s0), (0, s1), (2, s2)] ds m Q = (WP 70 44 [q0, q1, q2, (0, l3)] [(0, l3), (0, s0), (0, s1), (2, s2)] ds m Q) := P_nx k70_43 rfl
set_option maxRecDepth 20000 in
theorem k70_44 : mjCode 70 44 = some (.invokevirtual 110, 3, 40, 4) := by decide +kernel
theorem p70_44 {s0 s1 s2 s3 : Int} {q0 q1 q2 q3 : MV} {ds : Ds} {m : Mm} {Q : Ds → Mm → List MV → Prop} : WP 70 44 [q0, q1, q2, q3] [(0, s0), (0, s1), (0, s2), (2, s3)] ds m Q = ((dk ds s3 = 3 ∧ WP 39 0 [(2, s3), (0, s2), (0, s1), (0, s0)] [] ds m (fun d2 m2 r2 => WP 70 47 [q0, q1, q2, q3] (r2 ++ []) d2 m2 Q))) := P_cv k70_44 mx39 mo39 rfl rfl rfl rfl rfl rfl rfl rfl
set_option maxRecDepth 20000 in
theorem k70_47 : mjCode 70 47 = some (.ifCond .ne 10, 3, 57, 0) := by decide +kernel
theorem p70_47 {s0 : Int} {q0 q1 q2 q3 : MV} {ds : Ds} {m : Mm} {Q : Ds → Mm → List MV → Prop} : WP 70 47 [q0, q1, q2, q3] [(0, s0)] ds m Q = (if s0 = 0 then WP 70 50 [q0, q1, q2, q3] [] ds m Q else WP 70 57 [q0, q1, q2, q3] [] ds m Q) := P_if k70_47 rfl
set_option maxRecDepth 20000 in
theorem k70_50 : mjCode 70 50 = some (.aload_n 0, 1, 0, 0) := by decide +kernel
theorem p70_50 {l0 : Int} {q1 q2 q3 : MV} {ds : Ds} {m : Mm} {Q : Ds → Mm → List MV → Prop} : WP 70 50 [(2, l0), q1, q2, q3] [] ds m Q = (WP 70 51 [(2, l0), q1, q2, q3] [(2, l0)] ds m Q) := P_nx k70_50 rfl
set_option maxRecDepth 20000 in
theorem k70_51 : mjCode 70 51 = some (.bipush (-7), 2, 0, 0) := by decide +kernel
theorem p70_51 {s0 : Int} {q0 q1 q2 q3 : MV} {ds : Ds} {m : Mm} {Q : Ds → Mm → List MV → Prop} : WP 70 51 [q0, q1, q2, q3] [(2, s0)] ds m Q = (WP 70 53 [q0, q1, q2, q3] [(0, (-7)), (2, s0)] ds m Q) := P_nx k70_51 rfl
set_option maxRecDepth 20000 in
theorem k70_53 : mjCode 70 53 = some (.invokevirtual 73, 3, 96, 2) := by decide +kernel
theorem p70_53 {s0 s1 : Int} {q0 q1 q2 q3 : MV} {ds : Ds} {m : Mm} {Q : Ds → Mm → List MV → Prop} : WP 70 53 [q0, q1, q2, q3] [(0, s0), (2, s1)] ds m Q = ((dk ds s1 = 6 ∧ WP 95 0 [(2, s1), (0, s0), (3, 0)] [] ds m (fun d2 m2 r2 => WP 70 56 [q0, q1, q2, q3] (r2 ++ []) d2 m2 Q))) := P_cv k70_53 mx95 mo95 rfl rfl rfl rfl rfl rfl rfl rfl
set_option maxRecDepth 20000 in
theorem k70_56 : mjCode 70 56 = some (.ireturn, 1, 0, 0) := by decide +kernel
theorem p70_56 {s0 : Int} {q0 q1 q2 q3 : MV} {ds : Ds} {m : Mm} {Q : Ds → Mm → List MV → Prop} : WP 70 56 [q0, q1, q2, q3] [(0, s0)] ds m Q = (Q ds m [(0, s0)]) := P_ri k70_56 rk70
set_option maxRecDepth 20000 in
theorem k70_57 : mjCode 70 57 = some (.aload_n 0, 1, 0, 0) := by decide +kernel
theorem p70_57 {l0 : Int} {q1 q2 q3 : MV} {ds : Ds} {m : Mm} {Q : Ds → Mm → List MV → Prop} : WP 70 57 [(2, l0), q1, q2, q3] [] ds m Q = (WP 70 58 [(2, l0), q1, q2, q3] [(2, l0)] ds m Q) := P_nx k70_57 rfl
set_option maxRecDepth 20000 in
theorem k70_58 : mjCode 70 58 = some (.getfield 45, 3, 6, 0) := by decide +kernel
theorem p70_58 {s0 : Int} {q0 q1 q2 q3 : MV} {ds : Ds} {m : Mm} {Q : Ds → Mm → List MV → Prop} : WP 70 58 [q0, q1, q2, q3] [(2, s0)] ds m Q = ((dk ds s0 = 6 ∧ WP 70 61 [q0, q1, q2, q3] [(2, m s0 0)] ds m Q)) := P_gd k70_58 rfl
set_option maxRecDepth 20000 in
theorem k70_61 : mjCode 70 61 = some (.getfield 114, 3, 3, 8) := by decide +kernel
theorem p70_61 {s0 : Int} {q0 q1 q2 q3 : MV} {ds : Ds} {m : Mm} {Q : Ds → Mm → List MV → Prop} : WP 70 61 [q0, q1, q2, q3] [(2, s0)] ds m Q = ((dk ds s0 = 3 ∧ WP 70 64 [q0, q1, q2, q3] [(0, m s0 8)] ds m Q)) := P_gd k70_61 rfl
set_option maxRecDepth 20000 in
theorem k70_64 : mjCode 70 64 = some (.ireturn, 1, 0, 0) := by decide +kernel
theorem p70_64 {s0 : Int} {q0 q1 q2 q3 : MV} {ds : Ds} {m : Mm} {Q : Ds → Mm → List MV → Prop} : WP 70 64 [q0, q1, q2, q3] [(0, s0)] ds m Q = (Q ds m [(0, s0)]) := P_ri k70_64 rk70
set_option maxRecDepth 20000 in
theorem k71_0 : mjCode 71 0 = some (.aload_n 0, 1, 0, 0) := by decide +kernel
theorem p71_0 {l0 : Int} {q1 : MV} {ds : Ds} {m : Mm} {Q : Ds → Mm → List MV → Prop} : WP 71 0 [(2, l0), q1] [] ds m Q = (WP 71 1 [(2, l0), q1] [(2, l0)] ds m Q) := P_nx k71_0 rfl
set_option maxRecDepth 20000 in
theorem k71_1 : mjCode 71 1 = some (.getfield 45, 3, 6, 0) := by decide +kernel
theorem p71_1 {s0 : Int} {q0 q1 : MV} {ds : Ds} {m : Mm} {Q : Ds → Mm → List MV → Prop} : WP 71 1 [q0, q1] [(2, s0)] ds m Q = ((dk ds s0 = 6 ∧ WP 71 4 [q0, q1] [(2, m s0 0)] ds m Q)) := P_gd k71_1 rfl
set_option maxRecDepth 20000 in
theorem k71_4 : mjCode 71 4 = some (.getfield 114, 3, 3, 8) := by decide +kernel
theorem p71_4 {s0 : Int} {q0 q1 : MV} {ds : Ds} {m : Mm} {Q : Ds → Mm → List MV → Prop} : WP 71 4 [q0, q1] [(2, s0)] ds m Q = ((dk ds s0 = 3 ∧ WP 71 7 [q0, q1] [(0, m s0 8)] ds m Q)) := P_gd k71_4 rfl
set_option maxRecDepth 20000 in
theorem k71_7 : mjCode 71 7 = some (.istore_n 1, 1, 0, 0) := by decide +kernel
theorem p71_7 {l0 s0 : Int} {q1 : MV} {ds : Ds} {m : Mm} {Q : Ds → Mm → List MV → Prop} : WP 71 7 [(2, l0), q1] [(0, s0)] ds m Q = (WP 71 8 [(2, l0), (0, s0)] [] ds m Q) := P_nx k71_7 rfl
set_option maxRecDepth 20000 in
theorem k71_8 : mjCode 71 8 = some (.aload_n 0, 1, 0, 0) := by decide +kernel
theorem p71_8 {l0 : Int} {q1 : MV} {ds : Ds} {m : Mm} {Q : Ds → Mm → List MV → Prop} : WP 71 8 [(2, l0), q1] [] ds m Q = (WP 71 9 [(2, l0), q1] [(2, l0)] ds m Q) := P_nx k71_8 rfl
set_option maxRecDepth 20000 in
theorem k71_9 : mjCode 71 9 = some (.getfield 45, 3, 6, 0) := by decide +kernel
theorem p71_9 {s0 : Int} {q0 q1 : MV} {ds : Ds} {m : Mm} {Q : Ds → Mm → List MV → Prop} : WP 71 9 [q0, q1] [(2, s0)] ds m Q = ((dk ds s0 = 6 ∧ WP 71 12 [q0, q1] [(2, m s0 0)] ds m Q)) := P_gd k71_9 rfl
set_option maxRecDepth 20000 in
theorem k71_12 : mjCode 71 12 = some (.iconst 0, 1, 0, 0) := by decide +kernel
theorem p71_12 {s0 : Int} {q0 q1 : MV} {ds : Ds} {m : Mm} {Q : Ds → Mm → List MV → Prop} : WP 71 12 [q0, q1] [(2, s0)] ds m Q = (WP 71 13 [q0, q1] [(0, 0), (2, s0)] ds m Q) := P_nx k71_12 rfl
set_option maxRecDepth 20000 in
theorem k71_13 : mjCode 71 13 = some (.putfield 114, 3, 3, 8) := by decide +kernel
theorem p71_13 {s0 s1 : Int} {q0 q1 : MV} {ds : Ds} {m : Mm} {Q : Ds → Mm → List MV → Prop} : WP 71 13 [q0, q1] [(0, s0), (2, s1)] ds m Q = ((dk ds s1 = 3 ∧ WP 71 16 [q0, q1] [] ds (up m s1 8 s0) Q)) := P_pf k71_13 rfl
set_option maxRecDepth 20000 in
theorem k71_16 : mjCode 71 16 = some (.iload_n 1, 1, 0, 0) := by decide +kernel
theorem p71_16 {l1 : Int} {q0 : MV} {ds : Ds} {m : Mm} {Q : Ds → Mm → List MV → Prop} : WP 71 16 [q0, (0, l1)] [] ds m Q = (WP 71 17 [q0, (0, l1)] [(0, l1)] ds m Q) := P_nx k71_16 rfl
set_option maxRecDepth 20000 in
theorem k71_17 : mjCode 71 17 = some (.ireturn, 1, 0, 0) := by decide +kernel
theorem p71_17 {s0 : Int} {q0 q1 : MV} {ds : Ds} {m : Mm} {Q : Ds → Mm → List MV → Prop} : WP 71 17 [q0, q1] [(0, s0)] ds m Q = (Q ds m [(0, s0)]) := P_ri k71_17 rk71
set_option maxRecDepth 20000 in
theorem k72_0 : mjCode 72 0 = some (.iload_n 1, 1, 0, 0) := by decide +kernel
theorem p72_0 {l1 : Int} {q0 q2 : MV} {ds : Ds} {m : Mm} {Q : Ds → Mm → List MV → Prop} : WP 72 0 [q0, (0, l1), q2] [] ds m Q = (WP 72 1 [q0, (0, l1), q2] [(0, l1)] ds m Q) := P_nx k72_0 rfl
set_option maxRecDepth 20000 in
theorem k72_1 : mjCode 72 1 = some (.invokestatic 69, 3, 108, 1) := by decide +kernel
theorem p72_1 {s0 : Int} {q0 q1 q2 : MV} {ds : Ds} {m : Mm} {Q : Ds → Mm → List MV → Prop} : WP 72 1 [q0, q1, q2] [(0, s0)] ds m Q = (WP 107 0 [(0, s0)] [] ds m (fun d2 m2 r2 => WP 72 4 [q0, q1, q2] (r2 ++ []) d2 m2 Q)) := P_cs k72_1 mx107 rfl rfl rfl rfl rfl rfl rfl
set_option maxRecDepth 20000 in
theorem k72_4 : mjCode 72 4 = some (.ifCond .ne 5, 3, 9, 0) := by decide +kernel
theorem p72_4 {s0 : Int} {q0 q1 q2 : MV} {ds : Ds} {m : Mm} {Q : Ds → Mm → List MV → Prop} : WP 72 4 [q0, q1, q2] [(0, s0)] ds m Q = (if s0 = 0 then WP 72 7 [q0, q1, q2] [] ds m Q else WP 72 9 [q0, q1, q2] [] ds m Q) := P_if k72_4 rfl
set_option maxRecDepth 20000 in
theorem k72_7 : mjCode 72 7 = some (.iconst (-1), 1, 0, 0) := by decide +kernel
theorem p72_7 {q0 q1 q2 : MV} {ds : Ds} {m : Mm} {Q : Ds → Mm → List MV → Prop} : WP 72 7 [q0, q1, q2] [] ds m Q = (WP 72 8 [q0, q1, q2] [(0, (-1))] ds m Q) := P_nx k72_7 rfl
set_option maxRecDepth 20000 in
theorem k72_8 : mjCode 72 8 = some (.ireturn, 1, 0, 0) := by decide +kernel
theorem p72_8 {s0 : Int} {q0 q1 q2 : MV} {ds : Ds} {m : Mm} {Q : Ds → Mm → List MV → Prop} : WP 72 8 [q0, q1, q2] [(0, s0)] ds m Q = (Q ds m [(0, s0)]) := P_ri k72_8 rk72
set_option maxRecDepth 20000 in
theorem k72_9 : mjCode 72 9 = some (.iload_n 2, 1, 0, 0) := by decide +kernel
theorem p72_9 {l2 : Int} {q0 q1 : MV} {ds : Ds} {m : Mm} {Q : Ds → Mm → List MV → Prop} : WP 72 9 [q0, q1, (0, l2)] [] ds m Q = (WP 72 10 [q0, q1, (0, l2)] [(0, l2)] ds m Q) := P_nx k72_9 rfl
set_option maxRecDepth 20000 in
theorem k72_10 : mjCode 72 10 = some (.tableswitch 87 0 4 #[34, 43, 52, 61, 78], 34, 0, 0) := by decide +kernel
theorem p72_10 {s0 : Int} {q0 q1 q2 : MV} {ds : Ds} {m : Mm} {Q : Ds → Mm → List MV → Prop} : WP 72 10 [q0, q1, q2] [(0, s0)] ds m Q = (if s0 = 0 then WP 72 44 [q0, q1, q2] [] ds m Q else if s0 = 1 then WP 72 53 [q0, q1, q2] [] ds m Q else if s0 = 2 then WP 72 62 [q0, q1, q2] [] ds m Q else if s0 = 3 then WP 72 71 [q0, q1, q2] [] ds m Q else if s0 = 4 then WP 72 88 [q0, q1, q2] [] ds m Q else WP 72 97 [q0, q1, q2] [] ds m Q) := by
  by_cases h0 : s0 = 0
  · subst h0
    rw [if_pos rfl]
    exact P_nx k72_10 rfl
  rw [if_neg h0]
  by_cases h1 : s0 = 1
  · subst h1
    rw [if_pos rfl]
    exact P_nx k72_10 rfl
  rw [if_neg h1]
  by_cases h2 : s0 = 2
  · subst h2
    rw [if_pos rfl]
    exact P_nx k72_10 rfl
  rw [if_neg h2]
  by_cases h3 : s0 = 3
  · subst h3
    rw [if_pos rfl]
    exact P_nx k72_10 rfl
  rw [if_neg h3]
  by_cases h4 : s0 = 4
  · subst h4
    rw [if_pos rfl]
    exact P_nx k72_10 rfl
  rw [if_neg h4]
  exact P_nx k72_10 (by simp only [stpI]; rw [if_pos (by omega)]; rfl)
set_option maxRecDepth 20000 in
theorem k72_44 : mjCode 72 44 = some (.aload_n 0, 1, 0, 0) := by decide +kernel
theorem p72_44 {l0 : Int} {q1 q2 : MV} {ds : Ds} {m : Mm} {Q : Ds → Mm → List MV → Prop} : WP 72 44 [(2, l0), q1, q2] [] ds m Q = (WP 72 45 [(2, l0), q1, q2] [(2, l0)] ds m Q) := P_nx k72_44 rfl
set_option maxRecDepth 20000 in
theorem k72_45 : mjCode 72 45 = some (.getfield 45, 3, 6, 0) := by decide +kernel
theorem p72_45 {s0 : Int} {q0 q1 q2 : MV} {ds : Ds} {m : Mm} {Q : Ds → Mm → List MV → Prop} : WP 72 45 [q0, q1, q2] [(2, s0)] ds m Q = ((dk ds s0 = 6 ∧ WP 72 48 [q0, q1, q2] [(2, m s0 0)] ds m Q)) := P_gd k72_45 rfl
set_option maxRecDepth 20000 in
theorem k72_48 : mjCode 72 48 = some (.iload_n 1, 1, 0, 0) := by decide +kernel
theorem p72_48 {l1 s0 : Int} {q0 q2 : MV} {ds : Ds} {m : Mm} {Q : Ds → Mm → List MV → Prop} : WP 72 48 [q0, (0, l1), q2] [(2, s0)] ds m Q = (WP 72 49 [q0, (0, l1), q2] [(0, l1), (2, s0)] ds m Q) := P_nx k72_48 rfl
set_option maxRecDepth 20000 in
theorem k72_49 : mjCode 72 49 = some (.invokevirtual 101, 3, 25, 2) := by decide +kernel
theorem p72_49 {s0 s1 : Int} {q0 q1 q2 : MV} {ds : Ds} {m : Mm} {Q : Ds → Mm → List MV → Prop} : WP 72 49 [q0, q1, q2] [(0, s0), (2, s1)] ds m Q = ((dk ds s1 = 3 ∧ WP 24 0 [(2, s1), (0, s0)] [] ds m (fun d2 m2 r2 => WP 72 52 [q0, q1, q2] (r2 ++ []) d2 m2 Q))) := P_cv k72_49 mx24 mo24 rfl rfl rfl rfl rfl rfl rfl rfl
set_option maxRecDepth 20000 in
theorem k72_52 : mjCode 72 52 = some (.ireturn, 1, 0, 0) := by decide +kernel
theorem p72_52 {s0 : Int} {q0 q1 q2 : MV} {ds : Ds} {m : Mm} {Q : Ds → Mm → List MV → Prop} : WP 72 52 [q0, q1, q2] [(0, s0)] ds m Q = (Q ds m [(0, s0)]) := P_ri k72_52 rk72
set_option maxRecDepth 20000 in
theorem k72_53 : mjCode 72 53 = some (.aload_n 0, 1, 0, 0) := by decide +kernel
theorem p72_53 {l0 : Int} {q1 q2 : MV} {ds : Ds} {m : Mm} {Q : Ds → Mm → List MV → Prop} : WP 72 53 [(2, l0), q1, q2] [] ds m Q = (WP 72 54 [(2, l0), q1, q2] [(2, l0)] ds m Q) := P_nx k72_53 rfl
set_option maxRecDepth 20000 in
theorem k72_54 : mjCode 72 54 = some (.getfield 45, 3, 6, 0) := by decide +kernel
theorem p72_54 {s0 : Int} {q0 q1 q2 : MV} {ds : Ds} {m : Mm} {Q : Ds → Mm → List MV → Prop} : WP 72 54 [q0, q1, q2] [(2, s0)] ds m Q = ((dk ds s0 = 6 ∧ WP 72 57 [q0, q1, q2] [(2, m s0 0)] ds m Q)) := P_gd k72_54 rfl
set_option maxRecDepth 20000 in
theorem k72_57 : mjCode 72 57 = some (.iload_n 1, 1, 0, 0) := by decide +kernel
theorem p72_57 {l1 s0 : Int} {q0 q2 : MV} {ds : Ds} {m : Mm} {Q : Ds → Mm → List MV → Prop} : WP 72 57 [q0, (0, l1), q2] [(2, s0)] ds m Q = (WP 72 58 [q0, (0, l1), q2] [(0, l1), (2, s0)] ds m Q) := P_nx k72_57 rfl
set_option maxRecDepth 20000 in
theorem k72_58 : mjCode 72 58 = some (.invokevirtual 118, 3, 26, 2) := by decide +kernel
theorem p72_58 {s0 s1 : Int} {q0 q1 q2 : MV} {ds : Ds} {m : Mm} {Q : Ds → Mm → List MV → Prop} : WP 72 58 [q0, q1, q2] [(0, s0), (2, s1)] ds m Q = ((dk ds s1 = 3 ∧ WP 25 0 [(2, s1), (0, s0)] [] ds m (fun d2 m2 r2 => WP 72 61 [q0, q1, q2] (r2 ++ []) d2 m2 Q))) := P_cv k72_58 mx25 mo25 rfl rfl rfl rfl rfl rfl rfl rfl
set_option maxRecDepth 20000 in
theorem k72_61 : mjCode 72 61 = some (.ireturn, 1, 0, 0) := by decide +kernel
theorem p72_61 {s0 : Int} {q0 q1 q2 : MV} {ds : Ds} {m : Mm} {Q : Ds → Mm → List MV → Prop} : WP 72 61 [q0, q1, q2] [(0, s0)] ds m Q = (Q ds m [(0, s0)]) := P_ri k72_61 rk72
set_option maxRecDepth 20000 in
theorem k72_62 : mjCode 72 62 = some (.aload_n 0, 1, 0, 0) := by decide +kernel
theorem p72_62 {l0 : Int} {q1 q2 : MV} {ds : Ds} {m : Mm} {Q : Ds → Mm → List MV → Prop} : WP 72 62 [(2, l0), q1, q2] [] ds m Q = (WP 72 63 [(2, l0), q1, q2] [(2, l0)] ds m Q) := P_nx k72_62 rfl
set_option maxRecDepth 20000 in
theorem k72_63 : mjCode 72 63 = some (.getfield 45, 3, 6, 0) := by decide +kernel
theorem p72_63 {s0 : Int} {q0 q1 q2 : MV} {ds : Ds} {m : Mm} {Q : Ds → Mm → List MV → Prop} : WP 72 63 [q0, q1, q2] [(2, s0)] ds m Q = ((dk ds s0 = 6 ∧ WP 72 66 [q0, q1, q2] [(2, m s0 0)] ds m Q)) := P_gd k72_63 rfl
set_option maxRecDepth 20000 in
theorem k72_66 : mjCode 72 66 = some (.iload_n 1, 1, 0, 0) := by decide +kernel
theorem p72_66 {l1 s0 : Int} {q0 q2 : MV} {ds : Ds} {m : Mm} {Q : Ds → Mm → List MV → Prop} : WP 72 66 [q0, (0, l1), q2] [(2, s0)] ds m Q = (WP 72 67 [q0, (0, l1), q2] [(0, l1), (2, s0)] ds m Q) := P_nx k72_66 rfl
set_option maxRecDepth 20000 in
theorem k72_67 : mjCode 72 67 = some (.invokevirtual 121, 3, 27, 2) := by decide +kernel
theorem p72_67 {s0 s1 : Int} {q0 q1 q2 : MV} {ds : Ds} {m : Mm} {Q : Ds → Mm → List MV → Prop} : WP 72 67 [q0, q1, q2] [(0, s0), (2, s1)] ds m Q = ((dk ds s1 = 3 ∧ WP 26 0 [(2, s1), (0, s0)] [] ds m (fun d2 m2 r2 => WP 72 70 [q0, q1, q2] (r2 ++ []) d2 m2 Q))) := P_cv k72_67 mx26 mo26 rfl rfl rfl rfl rfl rfl rfl rfl
set_option maxRecDepth 20000 in
theorem k72_70 : mjCode 72 70 = some (.ireturn, 1, 0, 0) := by decide +kernel
theorem p72_70 {s0 : Int} {q0 q1 q2 : MV} {ds : Ds} {m : Mm} {Q : Ds → Mm → List MV → Prop} : WP 72 70 [q0, q1, q2] [(0, s0)] ds m Q = (Q ds m [(0, s0)]) := P_ri k72_70 rk72
set_option maxRecDepth 20000 in
theorem k72_71 : mjCode 72 71 = some (.aload_n 0, 1, 0, 0) := by decide +kernel
theorem p72_71 {l0 : Int} {q1 q2 : MV} {ds : Ds} {m : Mm} {Q : Ds → Mm → List MV → Prop} : WP 72 71 [(2, l0), q1, q2] [] ds m Q = (WP 72 72 [(2, l0), q1, q2] [(2, l0)] ds m Q) := P_nx k72_71 rfl
set_option maxRecDepth 20000 in
theorem k72_72 : mjCode 72 72 = some (.getfield 45, 3, 6, 0) := by decide +kernel
theorem p72_72 {s0 : Int} {q0 q1 q2 : MV} {ds : Ds} {m : Mm} {Q : Ds → Mm → List MV → Prop} : WP 72 72 [q0, q1, q2] [(2, s0)] ds m Q = ((dk ds s0 = 6 ∧ WP 72 75 [q0, q1, q2] [(2, m s0 0)] ds m Q)) := P_gd k72_72 rfl
set_option maxRecDepth 20000 in
theorem k72_75 : mjCode 72 75 = some (.iload_n 1, 1, 0, 0) := by decide +kernel
theorem p72_75 {l1 s0 : Int} {q0 q2 : MV} {ds : Ds} {m : Mm} {Q : Ds → Mm → List MV → Prop} : WP 72 75 [q0, (0, l1), q2] [(2, s0)] ds m Q = (WP 72 76 [q0, (0, l1), q2] [(0, l1), (2, s0)] ds m Q) := P_nx k72_75 rfl
set_option maxRecDepth 20000 in
theorem k72_76 : mjCode 72 76 = some (.invokevirtual 124, 3, 29, 2) := by decide +kernel
theorem p72_76 {s0 s1 : Int} {q0 q1 q2 : MV} {ds : Ds} {m : Mm} {Q : Ds → Mm → List MV → Prop} : WP 72 76 [q0, q1, q2] [(0, s0), (2, s1)] ds m Q = ((dk ds s1 = 3 ∧ WP 28 0 [(2, s1), (0, s0)] [] ds m (fun d2 m2 r2 => WP 72 79 [q0, q1, q2] (r2 ++ []) d2 m2 Q))) := P_cv k72_76 mx28 mo28 rfl rfl rfl rfl rfl rfl rfl rfl
set_option maxRecDepth 20000 in
theorem k72_79 : mjCode 72 79 = some (.ifCond .eq 7, 3, 86, 0) := by decide +kernel
theorem p72_79 {s0 : Int} {q0 q1 q2 : MV} {ds : Ds} {m : Mm} {Q : Ds → Mm → List MV → Prop} : WP 72 79 [q0, q1, q2] [(0, s0)] ds m Q = (if s0 = 0 then WP 72 86 [q0, q1, q2] [] ds m Q else WP 72 82 [q0, q1, q2] [] ds m Q) := P_if k72_79 rfl
set_option maxRecDepth 20000 in
theorem k72_82 : mjCode 72 82 = some (.iconst 1, 1, 0, 0) := by decide +kernel
theorem p72_82 {q0 q1 q2 : MV} {ds : Ds} {m : Mm} {Q : Ds → Mm → List MV → Prop} : WP 72 82 [q0, q1, q2] [] ds m Q = (WP 72 83 [q0, q1, q2] [(0, 1)] ds m Q) := P_nx k72_82 rfl
set_option maxRecDepth 20000 in
theorem k72_83 : mjCode 72 83 = some (.goto 4, 3, 87, 0) := by decide +kernel
theorem p72_83 {s0 : Int} {q0 q1 q2 : MV} {ds : Ds} {m : Mm} {Q : Ds → Mm → List MV → Prop} : WP 72 83 [q0, q1, q2] [(0, s0)] ds m Q = (WP 72 87 [q0, q1, q2] [(0, s0)] ds m Q) := P_nx k72_83 rfl
set_option maxRecDepth 20000 in
theorem k72_86 : mjCode 72 86 = some (.iconst 0, 1, 0, 0) := by decide +kernel
theorem p72_86 {q0 q1 q2 : MV} {ds : Ds} {m : Mm} {Q : Ds → Mm → List MV → Prop} : WP 72 86 [q0, q1, q2] [] ds m Q = (WP 72 87 [q0, q1, q2] [(0, 0)] ds m Q) := P_nx k72_86 rfl
set_option maxRecDepth 20000 in
theorem k72_87 : mjCode 72 87 = some (.ireturn, 1, 0, 0) := by decide +kernel
theorem p72_87 {s0 : Int} {q0 q1 q2 : MV} {ds : Ds} {m : Mm} {Q : Ds → Mm → List MV → Prop} : WP 72 87 [q0, q1, q2] [(0, s0)] ds m Q = (Q ds m [(0, s0)]) := P_ri k72_87 rk72
set_option maxRecDepth 20000 in
theorem k72_88 : mjCode 72 88 = some (.aload_n 0, 1, 0, 0) := by decide +kernel
theorem p72_88 {l0 : Int} {q1 q2 : MV} {ds : Ds} {m : Mm} {Q : Ds → Mm → List MV → Prop} : WP 72 88 [(2, l0), q1, q2] [] ds m Q = (WP 72 89 [(2, l0), q1, q2] [(2, l0)] ds m Q) := P_nx k72_88 rfl
set_option maxRecDepth 20000 in
theorem k72_89 : mjCode 72 89 = some (.getfield 45, 3, 6, 0) := by decide +kernel
theorem p72_89 {s0 : Int} {q0 q1 q2 : MV} {ds : Ds} {m : Mm} {Q : Ds → Mm → List MV → Prop} : WP 72 89 [q0, q1, q2] [(2, s0)] ds m Q = ((dk ds s0 = 6 ∧ WP 72 92 [q0, q1, q2] [(2, m s0 0)] ds m Q)) := P_gd k72_89 rfl
set_option maxRecDepth 20000 in
theorem k72_92 : mjCode 72 92 = some (.iload_n 1, 1, 0, 0) := by decide +kernel
theorem p72_92 {l1 s0 : Int} {q0 q2 : MV} {ds : Ds} {m : Mm} {Q : Ds → Mm → List MV → Prop} : WP 72 92 [q0, (0, l1), q2] [(2, s0)] ds m Q = (WP 72 93 [q0, (0, l1), q2] [(0, l1), (2, s0)] ds m Q) := P_nx k72_92 rfl
set_option maxRecDepth 20000 in
theorem k72_93 : mjCode 72 93 = some (.invokevirtual 104, 3, 28, 2) := by decide +kernel
theorem p72_93 {s0 s1 : Int} {q0 q1 q2 : MV} {ds : Ds} {m : Mm} {Q : Ds → Mm → List MV → Prop} : WP 72 93 [q0, q1, q2] [(0, s0), (2, s1)] ds m Q = ((dk ds s1 = 3 ∧ WP 27 0 [(2, s1), (0, s0)] [] ds m (fun d2 m2 r2 => WP 72 96 [q0, q1, q2] (r2 ++ []) d2 m2 Q))) := P_cv k72_93 mx27 mo27 rfl rfl rfl rfl rfl rfl rfl rfl
set_option maxRecDepth 20000 in
theorem k72_96 : mjCode 72 96 = some (.ireturn, 1, 0, 0) := by decide +kernel
theorem p72_96 {s0 : Int} {q0 q1 q2 : MV} {ds : Ds} {m : Mm} {Q : Ds → Mm → List MV → Prop} : WP 72 96 [q0, q1, q2] [(0, s0)] ds m Q = (Q ds m [(0, s0)]) := P_ri k72_96 rk72
set_option maxRecDepth 20000 in
theorem k72_97 : mjCode 72 97 = some (.iconst (-1), 1, 0, 0) := by decide +kernel
theorem p72_97 {q0 q1 q2 : MV} {ds : Ds} {m : Mm} {Q : Ds → Mm → List MV → Prop} : WP 72 97 [q0, q1, q2] [] ds m Q = (WP 72 98 [q0, q1, q2] [(0, (-1))] ds m Q) := P_nx k72_97 rfl
set_option maxRecDepth 20000 in
theorem k72_98 : mjCode 72 98 = some (.ireturn, 1, 0, 0) := by decide +kernel
theorem p72_98 {s0 : Int} {q0 q1 q2 : MV} {ds : Ds} {m : Mm} {Q : Ds → Mm → List MV → Prop} : WP 72 98 [q0, q1, q2] [(0, s0)] ds m Q = (Q ds m [(0, s0)]) := P_ri k72_98 rk72
set_option maxRecDepth 20000 in
theorem k73_0 : mjCode 73 0 = some (.iload_n 1, 1, 0, 0) := by decide +kernel
theorem p73_0 {l1 : Int} {q0 q2 : MV} {ds : Ds} {m : Mm} {Q : Ds → Mm → List MV → Prop} : WP 73 0 [q0, (0, l1), q2] [] ds m Q = (WP 73 1 [q0, (0, l1), q2] [(0, l1)] ds m Q) := P_nx k73_0 rfl
set_option maxRecDepth 20000 in
theorem k73_1 : mjCode 73 1 = some (.tableswitch 72 0 4 #[35, 43, 51, 59, 67], 35, 0, 0) := by decide +kernel
theorem p73_1 {s0 : Int} {q0 q1 q2 : MV} {ds : Ds} {m : Mm} {Q : Ds → Mm → List MV → Prop} : WP 73 1 [q0, q1, q2] [(0, s0)] ds m Q = (if s0 = 0 then WP 73 36 [q0, q1, q2] [] ds m Q else if s0 = 1 then WP 73 44 [q0, q1, q2] [] ds m Q else if s0 = 2 then WP 73 52 [q0, q1, q2] [] ds m Q else if s0 = 3 then WP 73 60 [q0, q1, q2] [] ds m Q else if s0 = 4 then WP 73 68 [q0, q1, q2] [] ds m Q else WP 73 73 [q0, q1, q2] [] ds m Q) := by
  by_cases h0 : s0 = 0
  · subst h0
    rw [if_pos rfl]
    exact P_nx k73_1 rfl
  rw [if_neg h0]
  by_cases h1 : s0 = 1
  · subst h1
    rw [if_pos rfl]
    exact P_nx k73_1 rfl
  rw [if_neg h1]
  by_cases h2 : s0 = 2
  · subst h2
    rw [if_pos rfl]
    exact P_nx k73_1 rfl
  rw [if_neg h2]
  by_cases h3 : s0 = 3
  · subst h3
    rw [if_pos rfl]
    exact P_nx k73_1 rfl
  rw [if_neg h3]
  by_cases h4 : s0 = 4
  · subst h4
    rw [if_pos rfl]
    exact P_nx k73_1 rfl
  rw [if_neg h4]
  exact P_nx k73_1 (by simp only [stpI]; rw [if_pos (by omega)]; rfl)
set_option maxRecDepth 20000 in
theorem k73_36 : mjCode 73 36 = some (.aload_n 0, 1, 0, 0) := by decide +kernel
theorem p73_36 {l0 : Int} {q1 q2 : MV} {ds : Ds} {m : Mm} {Q : Ds → Mm → List MV → Prop} : WP 73 36 [(2, l0), q1, q2] [] ds m Q = (WP 73 37 [(2, l0), q1, q2] [(2, l0)] ds m Q) := P_nx k73_36 rfl
set_option maxRecDepth 20000 in
theorem k73_37 : mjCode 73 37 = some (.getfield 45, 3, 6, 0) := by decide +kernel
theorem p73_37 {s0 : Int} {q0 q1 q2 : MV} {ds : Ds} {m : Mm} {Q : Ds → Mm → List MV → Prop} : WP 73 37 [q0, q1, q2] [(2, s0)] ds m Q = ((dk ds s0 = 6 ∧ WP 73 40 [q0, q1, q2] [(2, m s0 0)] ds m Q)) := P_gd k73_37 rfl
set_option maxRecDepth 20000 in
theorem k73_40 : mjCode 73 40 = some (.invokevirtual 127, 3, 41, 1) := by decide +kernel
theorem p73_40 {s0 : Int} {q0 q1 q2 : MV} {ds : Ds} {m : Mm} {Q : Ds → Mm → List MV → Prop} : WP 73 40 [q0, q1, q2] [(2, s0)] ds m Q = ((dk ds s0 = 3 ∧ WP 40 0 [(2, s0), (3, 0), (3, 0)] [] ds m (fun d2 m2 r2 => WP 73 43 [q0, q1, q2] (r2 ++ []) d2 m2 Q))) := P_cv k73_40 mx40 mo40 rfl rfl rfl rfl rfl rfl rfl rfl
set_option maxRecDepth 20000 in
theorem k73_43 : mjCode 73 43 = some (.ireturn, 1, 0, 0) := by decide +kernel
theorem p73_43 {s0 : Int} {q0 q1 q2 : MV} {ds : Ds} {m : Mm} {Q : Ds → Mm → List MV → Prop} : WP 73 43 [q0, q1, q2] [(0, s0)] ds m Q = (Q ds m [(0, s0)]) := P_ri k73_43 rk73
set_option maxRecDepth 20000 in
theorem k73_44 : mjCode 73 44 = some (.aload_n 0, 1, 0, 0) := by decide +kernel
theorem p73_44 {l0 : Int} {q1 q2 : MV} {ds : Ds} {m : Mm} {Q : Ds → Mm → List MV → Prop} : WP 73 44 [(2, l0), q1, q2] [] ds m Q = (WP 73 45 [(2, l0), q1, q2] [(2, l0)] ds m Q) := P_nx k73_44 rfl
set_option maxRecDepth 20000 in
theorem k73_45 : mjCode 73 45 = some (.getfield 45, 3, 6, 0) := by decide +kernel
theorem p73_45 {s0 : Int} {q0 q1 q2 : MV} {ds : Ds} {m : Mm} {Q : Ds → Mm → List MV → Prop} : WP 73 45 [q0, q1, q2] [(2, s0)] ds m Q = ((dk ds s0 = 6 ∧ WP 73 48 [q0, q1, q2] [(2, m s0 0)] ds m Q)) := P_gd k73_45 rfl
set_option maxRecDepth 20000 in
theorem k73_48 : mjCode 73 48 = some (.invokevirtual 131, 3, 43, 1) := by decide +kernel
theorem p73_48 {s0 : Int} {q0 q1 q2 : MV} {ds : Ds} {m : Mm} {Q : Ds → Mm → List MV → Prop} : WP 73 48 [q0, q1, q2] [(2, s0)] ds m Q = ((dk ds s0 = 3 ∧ WP 42 0 [(2, s0), (3, 0), (3, 0)] [] ds m (fun d2 m2 r2 => WP 73 51 [q0, q1, q2] (r2 ++ []) d2 m2 Q))) := P_cv k73_48 mx42 mo42 rfl rfl rfl rfl rfl rfl rfl rfl
set_option maxRecDepth 20000 in
theorem k73_51 : mjCode 73 51 = some (.ireturn, 1, 0, 0) := by decide +kernel
theorem p73_51 {s0 : Int} {q0 q1 q2 : MV} {ds : Ds} {m : Mm} {Q : Ds → Mm → List MV → Prop} : WP 73 51 [q0, q1, q2] [(0, s0)] ds m Q = (Q ds m [(0, s0)]) := P_ri k73_51 rk73
set_option maxRecDepth 20000 in
theorem k73_52 : mjCode 73 52 = some (.aload_n 0, 1, 0, 0) := by decide +kernel
theorem p73_52 {l0 : Int} {q1 q2 : MV} {ds : Ds} {m : Mm} {Q : Ds → Mm → List MV → Prop} : WP 73 52 [(2, l0), q1, q2] [] ds m Q = (WP 73 53 [(2, l0), q1, q2] [(2, l0)] ds m Q) := P_nx k73_52 rfl
set_option maxRecDepth 20000 in
theorem k73_53 : mjCode 73 53 = some (.getfield 45, 3, 6, 0) := by decide +kernel
theorem p73_53 {s0 : Int} {q0 q1 q2 : MV} {ds : Ds} {m : Mm} {Q : Ds → Mm → List MV → Prop} : WP 73 53 [q0, q1, q2] [(2, s0)] ds m Q = ((dk ds s0 = 6 ∧ WP 73 56 [q0, q1, q2] [(2, m s0 0)] ds m Q)) := P_gd k73_53 rfl
set_option maxRecDepth 20000 in
theorem k73_56 : mjCode 73 56 = some (.getfield 114, 3, 3, 8) := by decide +kernel
theorem p73_56 {s0 : Int} {q0 q1 q2 : MV} {ds : Ds} {m : Mm} {Q : Ds → Mm → List MV → Prop} : WP 73 56 [q0, q1, q2] [(2, s0)] ds m Q = ((dk ds s0 = 3 ∧ WP 73 59 [q0, q1, q2] [(0, m s0 8)] ds m Q)) := P_gd k73_56 rfl
set_option maxRecDepth 20000 in
theorem k73_59 : mjCode 73 59 = some (.ireturn, 1, 0, 0) := by decide +kernel
theorem p73_59 {s0 : Int} {q0 q1 q2 : MV} {ds : Ds} {m : Mm} {Q : Ds → Mm → List MV → Prop} : WP 73 59 [q0, q1, q2] [(0, s0)] ds m Q = (Q ds m [(0, s0)]) := P_ri k73_59 rk73
set_option maxRecDepth 20000 in
theorem k73_60 : mjCode 73 60 = some (.aload_n 0, 1, 0, 0) := by decide +kernel
theorem p73_60 {l0 : Int} {q1 q2 : MV} {ds : Ds} {m : Mm} {Q : Ds → Mm → List MV → Prop} : WP 73 60 [(2, l0), q1, q2] [] ds m Q = (WP 73 61 [(2, l0), q1, q2] [(2, l0)] ds m Q) := P_nx k73_60 rfl
set_option maxRecDepth 20000 in
theorem k73_61 : mjCode 73 61 = some (.getfield 45, 3, 6, 0) := by decide +kernel
theorem p73_61 {s0 : Int} {q0 q1 q2 : MV} {ds : Ds} {m : Mm} {Q : Ds → Mm → List MV → Prop} : WP 73 61 [q0, q1, q2] [(2, s0)] ds m Q = ((dk ds s0 = 6 ∧ WP 73 64 [q0, q1, q2] [(2, m s0 0)] ds m Q)) := P_gd k73_61 rfl
set_option maxRecDepth 20000 in
theorem k73_64 : mjCode 73 64 = some (.invokevirtual 134, 3, 42, 1) := by decide +kernel
theorem p73_64 {s0 : Int} {q0 q1 q2 : MV} {ds : Ds} {m : Mm} {Q : Ds → Mm → List MV → Prop} : WP 73 64 [q0, q1, q2] [(2, s0)] ds m Q = ((dk ds s0 = 3 ∧ WP 41 0 [(2, s0), (3, 0), (3, 0)] [] ds m (fun d2 m2 r2 => WP 73 67 [q0, q1, q2] (r2 ++ []) d2 m2 Q))) := P_cv k73_64 mx41 mo41 rfl rfl rfl rfl rfl rfl rfl rfl
set_option maxRecDepth 20000 in
theorem k73_67 : mjCode 73 67 = some (.ireturn, 1, 0, 0) := by decide +kernel
theorem p73_67 {s0 : Int} {q0 q1 q2 : MV} {ds : Ds} {m : Mm} {Q : Ds → Mm → List MV → Prop} : WP 73 67 [q0, q1, q2] [(0, s0)] ds m Q = (Q ds m [(0, s0)]) := P_ri k73_67 rk73
set_option maxRecDepth 20000 in
theorem k73_68 : mjCode 73 68 = some (.aload_n 0, 1, 0, 0) := by decide +kernel
theorem p73_68 {l0 : Int} {q1 q2 : MV} {ds : Ds} {m : Mm} {Q : Ds → Mm → List MV → Prop} : WP 73 68 [(2, l0), q1, q2] [] ds m Q = (WP 73 69 [(2, l0), q1, q2] [(2, l0)] ds m Q) := P_nx k73_68 rfl
set_option maxRecDepth 20000 in
theorem k73_69 : mjCode 73 69 = some (.getfield 137, 3, 6, 6) := by decide +kernel
theorem p73_69 {s0 : Int} {q0 q1 q2 : MV} {ds : Ds} {m : Mm} {Q : Ds → Mm → List MV → Prop} : WP 73 69 [q0, q1, q2] [(2, s0)] ds m Q = ((dk ds s0 = 6 ∧ WP 73 72 [q0, q1, q2] [(0, m s0 6)] ds m Q)) := P_gd k73_69 rfl
set_option maxRecDepth 20000 in
theorem k73_72 : mjCode 73 72 = some (.ireturn, 1, 0, 0) := by decide +kernel
theorem p73_72 {s0 : Int} {q0 q1 q2 : MV} {ds : Ds} {m : Mm} {Q : Ds → Mm → List MV → Prop} : WP 73 72 [q0, q1, q2] [(0, s0)] ds m Q = (Q ds m [(0, s0)]) := P_ri k73_72 rk73
set_option maxRecDepth 20000 in
theorem k73_73 : mjCode 73 73 = some (.iload_n 1, 1, 0, 0) := by decide +kernel
theorem p73_73 {l1 : Int} {q0 q2 : MV} {ds : Ds} {m : Mm} {Q : Ds → Mm → List MV → Prop} : WP 73 73 [q0, (0, l1), q2] [] ds m Q = (WP 73 74 [q0, (0, l1), q2] [(0, l1)] ds m Q) := P_nx k73_73 rfl
set_option maxRecDepth 20000 in
theorem k73_74 : mjCode 73 74 = some (.bipush 10, 2, 0, 0) := by decide +kernel
theorem p73_74 {s0 : Int} {q0 q1 q2 : MV} {ds : Ds} {m : Mm} {Q : Ds → Mm → List MV → Prop} : WP 73 74 [q0, q1, q2] [(0, s0)] ds m Q = (WP 73 76 [q0, q1, q2] [(0, 10), (0, s0)] ds m Q) := P_nx k73_74 rfl
set_option maxRecDepth 20000 in
theorem k73_76 : mjCode 73 76 = some (.isub, 1, 0, 0) := by decide +kernel
theorem p73_76 {s0 s1 : Int} {q0 q1 q2 : MV} {ds : Ds} {m : Mm} {Q : Ds → Mm → List MV → Prop} : WP 73 76 [q0, q1, q2] [(0, s0), (0, s1)] ds m Q = (WP 73 77 [q0, q1, q2] [(0, w32 (s1 - s0))] ds m Q) := P_nx k73_76 rfl
set_option maxRecDepth 20000 in
theorem k73_77 : mjCode 73 77 = some (.istore_n 2, 1, 0, 0) := by decide +kernel
theorem p73_77 {l1 s0 : Int} {q0 q2 : MV} {ds : Ds} {m : Mm} {Q : Ds → Mm → List MV → Prop} : WP 73 77 [q0, (0, l1), q2] [(0, s0)] ds m Q = (WP 73 78 [q0, (0, l1), (0, s0)] [] ds m Q) := P_nx k73_77 rfl
set_option maxRecDepth 20000 in
theorem k73_78 : mjCode 73 78 = some (.iload_n 2, 1, 0, 0) := by decide +kernel
theorem p73_78 {l2 : Int} {q0 q1 : MV} {ds : Ds} {m : Mm} {Q : Ds → Mm → List MV → Prop} : WP 73 78 [q0, q1, (0, l2)] [] ds m Q = (WP 73 79 [q0, q1, (0, l2)] [(0, l2)] ds m Q) := P_nx k73_78 rfl
set_option maxRecDepth 20000 in
theorem k73_79 : mjCode 73 79 = some (.iconst 1, 1, 0, 0) := by decide +kernel
theorem p73_79 {s0 : Int} {q0 q1 q2 : MV} {ds : Ds} {m : Mm} {Q : Ds → Mm → List MV → Prop} : WP 73 79 [q0, q1, q2] [(0, s0)] ds m Q = (WP 73 80 [q0, q1, q2] [(0, 1), (0, s0)] ds m Q) := P_nx k73_79 rfl
set_option maxRecDepth 20000 in
theorem k73_80 : mjCode 73 80 = some (.if_icmp .lt 18, 3, 98, 0) := by decide +kernel
theorem p73_80 {s0 s1 : Int} {q0 q1 q2 : MV} {ds : Ds} {m : Mm} {Q : Ds → Mm → List MV → Prop} : WP 73 80 [q0, q1, q2] [(0, s0), (0, s1)] ds m Q = (if s1 < s0 then WP 73 98 [q0, q1, q2] [] ds m Q else WP 73 83 [q0, q1, q2] [] ds m Q) := P_if k73_80 rfl
set_option maxRecDepth 20000 in
theorem k73_83 : mjCode 73 83 = some (.iload_n 2, 1, 0, 0) := by decide +kernel
theorem p73_83 {l2 : Int} {q0 q1 : MV} {ds : Ds} {m : Mm} {Q : Ds → Mm → List MV → Prop} : WP 73 83 [q0, q1, (0, l2)] [] ds m Q = (WP 73 84 [q0, q1, (0, l2)] [(0, l2)] ds m Q) := P_nx k73_83 rfl
set_option maxRecDepth 20000 in
theorem k73_84 : mjCode 73 84 = some (.bipush 8, 2, 0, 0) := by decide +kernel
theorem p73_84 {s0 : Int} {q0 q1 q2 : MV} {ds : Ds} {m : Mm} {Q : Ds → Mm → List MV → Prop} : WP 73 84 [q0, q1, q2] [(0, s0)] ds m Q = (WP 73 86 [q0, q1, q2] [(0, 8), (0, s0)] ds m Q) := P_nx k73_84 rfl
set_option maxRecDepth 20000 in
theorem k73_86 : mjCode 73 86 = some (.if_icmp .ge 12, 3, 98, 0) := by decide +kernel
theorem p73_86 {s0 s1 : Int} {q0 q1 q2 : MV} {ds : Ds} {m : Mm} {Q : Ds → Mm → List MV → Prop} : WP 73 86 [q0, q1, q2] [(0, s0), (0, s1)] ds m Q = (if s1 < s0 then WP 73 89 [q0, q1, q2] [] ds m Q else WP 73 98 [q0, q1, q2] [] ds m Q) := P_if k73_86 rfl
set_option maxRecDepth 20000 in
theorem k73_89 : mjCode 73 89 = some (.aload_n 0, 1, 0, 0) := by decide +kernel
theorem p73_89 {l0 : Int} {q1 q2 : MV} {ds : Ds} {m : Mm} {Q : Ds → Mm → List MV → Prop} : WP 73 89 [(2, l0), q1, q2] [] ds m Q = (WP 73 90 [(2, l0), q1, q2] [(2, l0)] ds m Q) := P_nx k73_89 rfl
set_option maxRecDepth 20000 in
theorem k73_90 : mjCode 73 90 = some (.getfield 21, 3, 6, 7) := by decide +kernel
theorem p73_90 {s0 : Int} {q0 q1 q2 : MV} {ds : Ds} {m : Mm} {Q : Ds → Mm → List MV → Prop} : WP 73 90 [q0, q1, q2] [(2, s0)] ds m Q = ((dk ds s0 = 6 ∧ WP 73 93 [q0, q1, q2] [(2, m s0 7)] ds m Q)) := P_gd k73_90 rfl
set_option maxRecDepth 20000 in
theorem k73_93 : mjCode 73 93 = some (.iload_n 2, 1, 0, 0) := by decide +kernel
theorem p73_93 {l2 s0 : Int} {q0 q1 : MV} {ds : Ds} {m : Mm} {Q : Ds → Mm → List MV → Prop} : WP 73 93 [q0, q1, (0, l2)] [(2, s0)] ds m Q = (WP 73 94 [q0, q1, (0, l2)] [(0, l2), (2, s0)] ds m Q) := P_nx k73_93 rfl
set_option maxRecDepth 20000 in
theorem k73_94 : mjCode 73 94 = some (.iaload, 1, 0, 0) := by decide +kernel
theorem p73_94 {s0 s1 : Int} {q0 q1 q2 : MV} {ds : Ds} {m : Mm} {Q : Ds → Mm → List MV → Prop} : WP 73 94 [q0, q1, q2] [(0, s0), (2, s1)] ds m Q = ((dk ds s1 = 10 ∧ 0 ≤ s0 ∧ s0 < dl ds s1 ∧ WP 73 95 [q0, q1, q2] [(0, m s1 s0)] ds m Q)) := P_g3 k73_94 rfl
set_option maxRecDepth 20000 in
theorem k73_95 : mjCode 73 95 = some (.goto 4, 3, 99, 0) := by decide +kernel
theorem p73_95 {s0 : Int} {q0 q1 q2 : MV} {ds : Ds} {m : Mm} {Q : Ds → Mm → List MV → Prop} : WP 73 95 [q0, q1, q2] [(0, s0)] ds m Q = (WP 73 99 [q0, q1, q2] [(0, s0)] ds m Q) := P_nx k73_95 rfl
set_option maxRecDepth 20000 in
theorem k73_98 : mjCode 73 98 = some (.iconst (-1), 1, 0, 0) := by decide +kernel
theorem p73_98 {q0 q1 q2 : MV} {ds : Ds} {m : Mm} {Q : Ds → Mm → List MV → Prop} : WP 73 98 [q0, q1, q2] [] ds m Q = (WP 73 99 [q0, q1, q2] [(0, (-1))] ds m Q) := P_nx k73_98 rfl
set_option maxRecDepth 20000 in
theorem k73_99 : mjCode 73 99 = some (.ireturn, 1, 0, 0) := by decide +kernel
theorem p73_99 {s0 : Int} {q0 q1 q2 : MV} {ds : Ds} {m : Mm} {Q : Ds → Mm → List MV → Prop} : WP 73 99 [q0, q1, q2] [(0, s0)] ds m Q = (Q ds m [(0, s0)]) := P_ri k73_99 rk73
set_option maxRecDepth 20000 in
theorem k74_0 : mjCode 74 0 = some (.iload_n 1, 1, 0, 0) := by decide +kernel
theorem p74_0 {l1 : Int} {q0 q2 q3 : MV} {ds : Ds} {m : Mm} {Q : Ds → Mm → List MV → Prop} : WP 74 0 [q0, (0, l1), q2, q3] [] ds m Q = (WP 74 1 [q0, (0, l1), q2, q3] [(0, l1)] ds m Q) := P_nx k74_0 rfl
set_option maxRecDepth 20000 in
theorem k74_1 : mjCode 74 1 = some (.invokestatic 140, 3, 110, 1) := by decide +kernel
theorem p74_1 {s0 : Int} {q0 q1 q2 q3 : MV} {ds : Ds} {m : Mm} {Q : Ds → Mm → List MV → Prop} : WP 74 1 [q0, q1, q2, q3] [(0, s0)] ds m Q = (WP 109 0 [(0, s0)] [] ds m (fun d2 m2 r2 => WP 74 4 [q0, q1, q2, q3] (r2 ++ []) d2 m2 Q)) := P_cs k74_1 mx109 rfl rfl rfl rfl rfl rfl rfl
set_option maxRecDepth 20000 in
theorem k74_4 : mjCode 74 4 = some (.ifCond .ne 9, 3, 13, 0) := by decide +kernel
theorem p74_4 {s0 : Int} {q0 q1 q2 q3 : MV} {ds : Ds} {m : Mm} {Q : Ds → Mm → List MV → Prop} : WP 74 4 [q0, q1, q2, q3] [(0, s0)] ds m Q = (if s0 = 0 then WP 74 7 [q0, q1, q2, q3] [] ds m Q else WP 74 13 [q0, q1, q2, q3] [] ds m Q) := P_if k74_4 rfl
set_option maxRecDepth 20000 in
theorem k74_7 : mjCode 74 7 = some (.aload_n 0, 1, 0, 0) := by decide +kernel
theorem p74_7 {l0 : Int} {q1 q2 q3 : MV} {ds : Ds} {m : Mm} {Q : Ds → Mm → List MV → Prop} : WP 74 7 [(2, l0), q1, q2, q3] [] ds m Q = (WP 74 8 [(2, l0), q1, q2, q3] [(2, l0)] ds m Q) := P_nx k74_7 rfl
set_option maxRecDepth 20000 in
theorem k74_8 : mjCode 74 8 = some (.iconst (-1), 1, 0, 0) := by decide +kernel
theorem p74_8 {s0 : Int} {q0 q1 q2 q3 : MV} {ds : Ds} {m : Mm} {Q : Ds → Mm → List MV → Prop} : WP 74 8 [q0, q1, q2, q3] [(2, s0)] ds m Q = (WP 74 9 [q0, q1, q2, q3] [(0, (-1)), (2, s0)] ds m Q) := P_nx k74_8 rfl
set_option maxRecDepth 20000 in
theorem k74_9 : mjCode 74 9 = some (.invokevirtual 73, 3, 96, 2) := by decide +kernel
theorem p74_9 {s0 s1 : Int} {q0 q1 q2 q3 : MV} {ds : Ds} {m : Mm} {Q : Ds → Mm → List MV → Prop} : WP 74 9 [q0, q1, q2, q3] [(0, s0), (2, s1)] ds m Q = ((dk ds s1 = 6 ∧ WP 95 0 [(2, s1), (0, s0), (3, 0)] [] ds m (fun d2 m2 r2 => WP 74 12 [q0, q1, q2, q3] (r2 ++ []) d2 m2 Q))) := P_cv k74_9 mx95 mo95 rfl rfl rfl rfl rfl rfl rfl rfl
set_option maxRecDepth 20000 in
theorem k74_12 : mjCode 74 12 = some (.ireturn, 1, 0, 0) := by decide +kernel
theorem p74_12 {s0 : Int} {q0 q1 q2 q3 : MV} {ds : Ds} {m : Mm} {Q : Ds → Mm → List MV → Prop} : WP 74 12 [q0, q1, q2, q3] [(0, s0)] ds m Q = (Q ds m [(0, s0)]) := P_ri k74_12 rk74
set_option maxRecDepth 20000 in
theorem k74_13 : mjCode 74 13 = some (.iload_n 3, 1, 0, 0) := by decide +kernel
theorem p74_13 {l3 : Int} {q0 q1 q2 : MV} {ds : Ds} {m : Mm} {Q : Ds → Mm → List MV → Prop} : WP 74 13 [q0, q1, q2, (0, l3)] [] ds m Q = (WP 74 14 [q0, q1, q2, (0, l3)] [(0, l3)] ds m Q) := P_nx k74_13 rfl
set_option maxRecDepth 20000 in
theorem k74_14 : mjCode 74 14 = some (.ifCond .ge 10, 3, 24, 0) := by decide +kernel
theorem p74_14 {s0 : Int} {q0 q1 q2 q3 : MV} {ds : Ds} {m : Mm} {Q : Ds → Mm → List MV → Prop} : WP 74 14 [q0, q1, q2, q3] [(0, s0)] ds m Q = (if s0 < 0 then WP 74 17 [q0, q1, q2, q3] [] ds m Q else WP 74 24 [q0, q1, q2, q3] [] ds m Q) := P_if k74_14 rfl
set_option maxRecDepth 20000 in
theorem k74_17 : mjCode 74 17 = some (.aload_n 0, 1, 0, 0) := by decide +kernel
theorem p74_17 {l0 : Int} {q1 q2 q3 : MV} {ds : Ds} {m : Mm} {Q : Ds → Mm → List MV → Prop} : WP 74 17 [(2, l0), q1, q2, q3] [] ds m Q = (WP 74 18 [(2, l0), q1, q2, q3] [(2, l0)] ds m Q) := P_nx k74_17 rfl
set_option maxRecDepth 20000 in
theorem k74_18 : mjCode 74 18 = some (.bipush (-4), 2, 0, 0) := by decide +kernel
theorem p74_18 {s0 : Int} {q0 q1 q2 q3 : MV} {ds : Ds} {m : Mm} {Q : Ds → Mm → List MV → Prop} : WP 74 18 [q0, q1, q2, q3] [(2, s0)] ds m Q = (WP 74 20 [q0, q1, q2, q3] [(0, (-4)), (2, s0)] ds m Q) := P_nx k74_18 rfl
set_option maxRecDepth 20000 in
theorem k74_20 : mjCode 74 20 = some (.invokevirtual 73, 3, 96, 2) := by decide +kernel
theorem p74_20 {s0 s1 : Int} {q0 q1 q2 q3 : MV} {ds : Ds} {m : Mm} {Q : Ds → Mm → List MV → Prop} : WP 74 20 [q0, q1, q2, q3] [(0, s0), (2, s1)] ds m Q = ((dk ds s1 = 6 ∧ WP 95 0 [(2, s1), (0, s0), (3, 0)] [] ds m (fun d2 m2 r2 => WP 74 23 [q0, q1, q2, q3] (r2 ++ []) d2 m2 Q))) := P_cv k74_20 mx95 mo95 rfl rfl rfl rfl rfl rfl rfl rfl
set_option maxRecDepth 20000 in
theorem k74_23 : mjCode 74 23 = some (.ireturn, 1, 0, 0) := by decide +kernel
theorem p74_23 {s0 : Int} {q0 q1 q2 q3 : MV} {ds : Ds} {m : Mm} {Q : Ds → Mm → List MV → Prop} : WP 74 23 [q0, q1, q2, q3] [(0, s0)] ds m Q = (Q ds m [(0, s0)]) := P_ri k74_23 rk74
set_option maxRecDepth 20000 in
theorem k74_24 : mjCode 74 24 = some (.iload_n 2, 1, 0, 0) := by decide +kernel
theorem p74_24 {l2 : Int} {q0 q1 q3 : MV} {ds : Ds} {m : Mm} {Q : Ds → Mm → List MV → Prop} : WP 74 24 [q0, q1, (0, l2), q3] [] ds m Q = (WP 74 25 [q0, q1, (0, l2), q3] [(0, l2)] ds m Q) := P_nx k74_24 rfl
set_option maxRecDepth 20000 in
theorem k74_25 : mjCode 74 25 = some (.ifCond .lt 8, 3, 33, 0) := by decide +kernel
theorem p74_25 {s0 : Int} {q0 q1 q2 q3 : MV} {ds : Ds} {m : Mm} {Q : Ds → Mm → List MV → Prop} : WP 74 25 [q0, q1, q2, q3] [(0, s0)] ds m Q = (if s0 < 0 then WP 74 33 [q0, q1, q2, q3] [] ds m Q else WP 74 28 [q0, q1, q2, q3] [] ds m Q) := P_if k74_25 rfl
set_option maxRecDepth 20000 in
theorem k74_28 : mjCode 74 28 = some (.iload_n 2, 1, 0, 0) := by decide +kernel
theorem p74_28 {l2 : Int} {q0 q1 q3 : MV} {ds : Ds} {m : Mm} {Q : Ds → Mm → List MV → Prop} : WP 74 28 [q0, q1, (0, l2), q3] [] ds m Q = (WP 74 29 [q0, q1, (0, l2), q3] [(0, l2)] ds m Q) := P_nx k74_28 rfl
set_option maxRecDepth 20000 in
theorem k74_29 : mjCode 74 29 = some (.iconst 3, 1, 0, 0) := by decide +kernel
theorem p74_29 {s0 : Int} {q0 q1 q2 q3 : MV} {ds : Ds} {m : Mm} {Q : Ds → Mm → List MV → Prop} : WP 74 29 [q0, q1, q2, q3] [(0, s0)] ds m Q = (WP 74 30 [q0, q1, q2, q3] [(0, 3), (0, s0)] ds m Q) := P_nx k74_29 rfl
set_option maxRecDepth 20000 in
theorem k74_30 : mjCode 74 30 = some (.if_icmp .le 10, 3, 40, 0) := by decide +kernel
theorem p74_30 {s0 s1 : Int} {q0 q1 q2 q3 : MV} {ds : Ds} {m : Mm} {Q : Ds → Mm → List MV → Prop} : WP 74 30 [q0, q1, q2, q3] [(0, s0), (0, s1)] ds m Q = (if s0 < s1 then WP 74 33 [q0, q1, q2, q3] [] ds m Q else WP 74 40 [q0, q1, q2, q3] [] ds m Q) := P_if k74_30 rfl
set_option maxRecDepth 20000 in
theorem k74_33 : mjCode 74 33 = some (.aload_n 0, 1, 0, 0) := by decide +kernel
theorem p74_33 {l0 : Int} {q1 q2 q3 : MV} {ds : Ds} {m : Mm} {Q : Ds → Mm → List MV → Prop} : WP 74 33 [(2, l0), q1, q2, q3] [] ds m Q = (WP 74 34 [(2, l0), q1, q2, q3] [(2, l0)] ds m Q) := P_nx k74_33 rfl
set_option maxRecDepth 20000 in
theorem k74_34 : mjCode 74 34 = some (.bipush (-6), 2, 0, 0) := by decide +kernel
theorem p74_34 {s0 : Int} {q0 q1 q2 q3 : MV} {ds : Ds} {m : Mm} {Q : Ds → Mm → List MV → Prop} : WP 74 34 [q0, q1, q2, q3] [(2, s0)] ds m Q = (WP 74 36 [q0, q1, q2, q3] [(0, (-6)), (2, s0)] ds m Q) := P_nx k74_34 rfl
set_option maxRecDepth 20000 in
theorem k74_36 : mjCode 74 36 = some (.invokevirtual 73, 3, 96, 2) := by decide +kernel
theorem p74_36 {s0 s1 : Int} {q0 q1 q2 q3 : MV} {ds : Ds} {m : Mm} {Q : Ds → Mm → List MV → Prop} : WP 74 36 [q0, q1, q2, q3] [(0, s0), (2, s1)] ds m Q = ((dk ds s1 = 6 ∧ WP 95 0 [(2, s1), (0, s0), (3, 0)] [] ds m (fun d2 m2 r2 => WP 74 39 [q0, q1, q2, q3] (r2 ++ []) d2 m2 Q))) := P_cv k74_36 mx95 mo95 rfl rfl rfl rfl rfl rfl rfl rfl
set_option maxRecDepth 20000 in
theorem k74_39 : mjCode 74 39 = some (.ireturn, 1, 0, 0) := by decide +kernel
theorem p74_39 {s0 : Int} {q0 q1 q2 q3 : MV} {ds : Ds} {m : Mm} {Q : Ds → Mm → List MV → Prop} : WP 74 39 [q0, q1, q2, q3] [(0, s0)] ds m Q = (Q ds m [(0, s0)]) := P_ri k74_39 rk74
set_option maxRecDepth 20000 in
theorem k74_40 : mjCode 74 40 = some (.iload_n 3, 1, 0, 0) := by decide +kernel
theorem p74_40 {l3 : Int} {q0 q1 q2 : MV} {ds : Ds} {m : Mm} {Q : Ds → Mm → List MV → Prop} : WP 74 40 [q0, q1, q2, (0, l3)] [] ds m Q = (WP 74 41 [q0, q1, q2, (0, l3)] [(0, l3)] ds m Q) := P_nx k74_40 rfl
set_option maxRecDepth 20000 in
theorem k74_41 : mjCode 74 41 = some (.bipush 100, 2, 0, 0) := by decide +kernel
theorem p74_41 {s0 : Int} {q0 q1 q2 q3 : MV} {ds : Ds} {m : Mm} {Q : Ds → Mm → List MV → Prop} : WP 74 41 [q0, q1, q2, q3] [(0, s0)] ds m Q = (WP 74 43 [q0, q1, q2, q3] [(0, 100), (0, s0)] ds m Q) := P_nx k74_41 rfl
set_option maxRecDepth 20000 in
theorem k74_43 : mjCode 74 43 = some (.if_icmp .le 10, 3, 53, 0) := by decide +kernel
theorem p74_43 {s0 s1 : Int} {q0 q1 q2 q3 : MV} {ds : Ds} {m : Mm} {Q : Ds → Mm → List MV → Prop} : WP 74 43 [q0, q1, q2, q3] [(0, s0), (0, s1)] ds m Q = (if s0 < s1 then WP 74 46 [q0, q1, q2, q3] [] ds m Q else WP 74 53 [q0, q1, q2, q3] [] ds m Q) := P_if k74_43 rfl
set_option maxRecDepth 20000 in
theorem k74_46 : mjCode 74 46 = some (.aload_n 0, 1, 0, 0) := by decide +kernel
theorem p74_46 {l0 : Int} {q1 q2 q3 : MV} {ds : Ds} {m : Mm} {Q : Ds → Mm → List MV → Prop} : WP 74 46 [(2, l0), q1, q2, q3] [] ds m Q = (WP 74 47 [(2, l0), q1, q2, q3] [(2, l0)] ds m Q) := P_nx k74_46 rfl
set_option maxRecDepth 20000 in
theorem k74_47 : mjCode 74 47 = some (.bipush (-7), 2, 0, 0) := by decide +kernel
theorem p74_47 {s0 : Int} {q0 q1 q2 q3 : MV} {ds : Ds} {m : Mm} {Q : Ds → Mm → List MV → Prop} : WP 74 47 [q0, q1, q2, q3] [(2, s0)] ds m Q = (WP 74 49 [q0, q1, q2, q3] [(0, (-7)), (2, s0)] ds m Q) := P_nx k74_47 rfl
set_option maxRecDepth 20000 in
theorem k74_49 : mjCode 74 49 = some (.invokevirtual 73, 3, 96, 2) := by decide +kernel
theorem p74_49 {s0 s1 : Int} {q0 q1 q2 q3 : MV} {ds : Ds} {m : Mm} {Q : Ds → Mm → List MV → Prop} : WP 74 49 [q0, q1, q2, q3] [(0, s0), (2, s1)] ds m Q = ((dk ds s1 = 6 ∧ WP 95 0 [(2, s1), (0, s0), (3, 0)] [] ds m (fun d2 m2 r2 => WP 74 52 [q0, q1, q2, q3] (r2 ++ []) d2 m2 Q))) := P_cv k74_49 mx95 mo95 rfl rfl rfl rfl rfl rfl rfl rfl
set_option maxRecDepth 20000 in
theorem k74_52 : mjCode 74 52 = some (.ireturn, 1, 0, 0) := by decide +kernel
theorem p74_52 {s0 : Int} {q0 q1 q2 q3 : MV} {ds : Ds} {m : Mm} {Q : Ds → Mm → List MV → Prop} : WP 74 52 [q0, q1, q2, q3] [(0, s0)] ds m Q = (Q ds m [(0, s0)]) := P_ri k74_52 rk74
set_option maxRecDepth 20000 in
theorem k74_53 : mjCode 74 53 = some (.aload_n 0, 1, 0, 0) := by decide +kernel
theorem p74_53 {l0 : Int} {q1 q2 q3 : MV} {ds : Ds} {m : Mm} {Q : Ds → Mm → List MV → Prop} : WP 74 53 [(2, l0), q1, q2, q3] [] ds m Q = (WP 74 54 [(2, l0), q1, q2, q3] [(2, l0)] ds m Q) := P_nx k74_53 rfl
set_option maxRecDepth 20000 in
theorem k74_54 : mjCode 74 54 = some (.getfield 17, 3, 6, 3) := by decide +kernel
theorem p74_54 {s0 : Int} {q0 q1 q2 q3 : MV} {ds : Ds} {m : Mm} {Q : Ds → Mm → List MV → Prop} : WP 74 54 [q0, q1, q2, q3] [(2, s0)] ds m Q = ((dk ds s0 = 6 ∧ WP 74 57 [q0, q1, q2, q3] [(2, m s0 3)] ds m Q)) := P_gd k74_54 rfl
set_option maxRecDepth 20000 in
theorem k74_57 : mjCode 74 57 = some (.iload_n 1, 1, 0, 0) := by decide +kernel
theorem p74_57 {l1 s0 : Int} {q0 q2 q3 : MV} {ds : Ds} {m : Mm} {Q : Ds → Mm → List MV → Prop} : WP 74 57 [q0, (0, l1), q2, q3] [(2, s0)] ds m Q = (WP 74 58 [q0, (0, l1), q2, q3] [(0, l1), (2, s0)] ds m Q) := P_nx k74_57 rfl
set_option maxRecDepth 20000 in
theorem k74_58 : mjCode 74 58 = some (.aconst_null, 1, 0, 0) := by decide +kernel
theorem p74_58 {s0 s1 : Int} {q0 q1 q2 q3 : MV} {ds : Ds} {m : Mm} {Q : Ds → Mm → List MV → Prop} : WP 74 58 [q0, q1, q2, q3] [(0, s0), (2, s1)] ds m Q = (WP 74 59 [q0, q1, q2, q3] [(2, -1), (0, s0), (2, s1)] ds m Q) := P_nx k74_58 rfl
set_option maxRecDepth 20000 in
theorem k74_59 : mjCode 74 59 = some (.aastore, 1, 0, 0) := by decide +kernel
theorem p74_59 {s0 s1 s2 : Int} {q0 q1 q2 q3 : MV} {ds : Ds} {m : Mm} {Q : Ds → Mm → List MV → Prop} : WP 74 59 [q0, q1, q2, q3] [(2, s0), (0, s1), (2, s2)] ds m Q = (((dk ds s2 = 13 ∧ (s0 < 0 ∨ dk ds s0 = 4) ∨ dk ds s2 = 14 ∧ (s0 < 0 ∨ dk ds s0 = 3)) ∧ 0 ≤ s1 ∧ s1 < dl ds s2 ∧ WP 74 60 [q0, q1, q2, q3] [] ds (up m s2 s1 s0) Q)) := P_g3 k74_59 rfl
set_option maxRecDepth 20000 in
theorem k74_60 : mjCode 74 60 = some (.aload_n 0, 1, 0, 0) := by decide +kernel
theorem p74_60 {l0 : Int} {q1 q2 q3 : MV} {ds : Ds} {m : Mm} {Q : Ds → Mm → List MV → Prop} : WP 74 60 [(2, l0), q1, q2, q3] [] ds m Q = (WP 74 61 [(2, l0), q1, q2, q3] [(2, l0)] ds m Q) := P_nx k74_60 rfl
set_option maxRecDepth 20000 in
theorem k74_61 : mjCode 74 61 = some (.getfield 11, 3, 6, 2) := by decide +kernel
theorem p74_61 {s0 : Int} {q0 q1 q2 q3 : MV} {ds : Ds} {m : Mm} {Q : Ds → Mm → List MV → Prop} : WP 74 61 [q0, q1, q2, q3] [(2, s0)] ds m Q = ((dk ds s0 = 6 ∧ WP 74 64 [q0, q1, q2, q3] [(2, m s0 2)] ds m Q)) := P_gd k74_61 rfl
set_option maxRecDepth 20000 in
theorem k74_64 : mjCode 74 64 = some (.iload_n 1, 1, 0, 0) := by decide +kernel
theorem p74_64 {l1 s0 : Int} {q0 q2 q3 : MV} {ds : Ds} {m : Mm} {Q : Ds → Mm → List MV → Prop} : WP 74 64 [q0, (0, l1), q2, q3] [(2, s0)] ds m Q = (WP 74 65 [q0, (0, l1), q2, q3] [(0, l1), (2, s0)] ds m Q) := P_nx k74_64 rfl
set_option maxRecDepth 20000 in
theorem k74_65 : mjCode 74 65 = some (.new 9, 3, 4, 0) := by decide +kernel
theorem p74_65 {s0 s1 : Int} {q0 q1 q2 q3 : MV} {ds : Ds} {m : Mm} {Q : Ds → Mm → List MV → Prop} : WP 74 65 [q0, q1, q2, q3] [(0, s0), (2, s1)] ds m Q = (WP 74 68 [q0, q1, q2, q3] [(2, (ds.length : Int)), (0, s0), (2, s1)] (ds ++ [(4, 2)]) (al m (ds.length : Int) (dfl 4)) Q) := P_nx k74_65 rfl
set_option maxRecDepth 20000 in
theorem k74_68 : mjCode 74 68 = some (.dup, 1, 0, 0) := by decide +kernel
theorem p74_68 {s0 s1 s2 : Int} {q0 q1 q2 q3 : MV} {ds : Ds} {m : Mm} {Q : Ds → Mm → List MV → Prop} : WP 74 68 [q0, q1, q2, q3] [(2, s0), (0, s1), (2, s2)] ds m Q = (WP 74 69 [q0, q1, q2, q3] [(2, s0), (2, s0), (0, s1), (2, s2)] ds m Q) := P_nx k74_68 rfl
set_option maxRecDepth 20000 in
theorem k74_69 : mjCode 74 69 = some (.iload_n 2, 1, 0, 0) := by decide +kernel
theorem p74_69 {l2 s0 s1 s2 s3 : Int} {q0 q1 q3 : MV} {ds : Ds} {m : Mm} {Q : Ds → Mm → List MV → Prop} : WP 74 69 [q0, q1, (0, l2), q3] [(2, s0), (2, s1), (0, s2), (2, s3)] ds m Q = (WP 74 70 [q0, q1, (0, l2), q3] [(0, l2), (2, s0), (2, s1), (0, s2), (2, s3)] ds m Q) := P_nx k74_69 rfl
set_option maxRecDepth 20000 in
theorem k74_70 : mjCode 74 70 = some (.iload_n 3, 1, 0, 0) := by decide +kernel
theorem p74_70 {l3 s0 s1 s2 s3 s4 : Int} {q0 q1 q2 : MV} {ds : Ds} {m : Mm} {Q : Ds → Mm → List MV → Prop} : WP 74 70 [q0, q1, q2, (0, l3)] [(0, s0), (2, s1), (2, s2), (0, s3), (2, s4)] ds m Q = (WP 74 71 [q0, q1, q2, (0, l3)] [(0, l3), (0, s0), (2, s1), (2, s2), (0, s3), (2, s4)] ds m Q) := P_nx k74_70 rfl
set_option maxRecDepth 20000 in
theorem k74_71 : mjCode 74 71 = some (.invokespecial 143, 3, 44, 3) := by decide +kernel
theorem p74_71 {s0 s1 s2 s3 s4 s5 : Int} {q0 q1 q2 q3 : MV} {ds : Ds} {m : Mm} {Q : Ds → Mm → List MV → Prop} : WP 74 71 [q0, q1, q2, q3] [(0, s0), (0, s1), (2, s2), (2, s3), (0, s4), (2, s5)] ds m Q = ((dk ds s2 = 4 ∧ WP 43 0 [(2, s2), (0, s1), (0, s0)] [] ds m (fun d2 m2 r2 => WP 74 74 [q0, q1, q2, q3] (r2 ++ [(2, s3), (0, s4), (2, s5)]) d2 m2 Q))) := P_cv k74_71 mx43 mo43 rfl rfl rfl rfl rfl rfl rfl rfl
set_option maxRecDepth 20000 in
theorem k74_74 : mjCode 74 74 = some (.aastore, 1, 0, 0) := by decide +kernel
theorem p74_74 {s0 s1 s2 : Int} {q0 q1 q2 q3 : MV} {ds : Ds} {m : Mm} {Q : Ds → Mm → List MV → Prop} : WP 74 74 [q0, q1, q2, q3] [(2, s0), (0, s1), (2, s2)] ds m Q = (((dk ds s2 = 13 ∧ (s0 < 0 ∨ dk ds s0 = 4) ∨ dk ds s2 = 14 ∧ (s0 < 0 ∨ dk ds s0 = 3)) ∧ 0 ≤ s1 ∧ s1 < dl ds s2 ∧ WP 74 75 [q0, q1, q2, q3] [] ds (up m s2 s1 s0) Q)) := P_g3 k74_74 rfl
set_option maxRecDepth 20000 in
theorem k74_75 : mjCode 74 75 = some (.iconst 1, 1, 0, 0) := by decide +kernel
theorem p74_75 {q0 q1 q2 q3 : MV} {ds : Ds} {m : Mm} {Q : Ds → Mm → List MV → Prop} : WP 74 75 [q0, q1, q2, q3] [] ds m Q = (WP 74 76 [q0, q1, q2, q3] [(0, 1)] ds m Q) := P_nx k74_75 rfl
set_option maxRecDepth 20000 in
theorem k74_76 : mjCode 74 76 = some (.ireturn, 1, 0, 0) := by decide +kernel
theorem p74_76 {s0 : Int} {q0 q1 q2 q3 : MV} {ds : Ds} {m : Mm} {Q : Ds → Mm → List MV → Prop} : WP 74 76 [q0, q1, q2, q3] [(0, s0)] ds m Q = (Q ds m [(0, s0)]) := P_ri k74_76 rk74
set_option maxRecDepth 20000 in
theorem k75_0 : mjCode 75 0 = some (.aload_n 0, 1, 0, 0) := by decide +kernel
theorem p75_0 {l0 : Int} {q1 q2 q3 q4 q5 : MV} {ds : Ds} {m : Mm} {Q : Ds → Mm → List MV → Prop} : WP 75 0 [(2, l0), q1, q2, q3, q4, q5] [] ds m Q = (WP 75 1 [(2, l0), q1, q2, q3, q4, q5] [(2, l0)] ds m Q) := P_nx k75_0 rfl
set_option maxRecDepth 20000 in
theorem k75_1 : mjCode 75 1 = some (.iload_n 1, 1, 0, 0) := by decide +kernel
theorem p75_1 {l1 s0 : Int} {q0 q2 q3 q4 q5 : MV} {ds : Ds} {m : Mm} {Q : Ds → Mm → List MV → Prop} : WP 75 1 [q0, (0, l1), q2, q3, q4, q5] [(2, s0)] ds m Q = (WP 75 2 [q0, (0, l1), q2, q3, q4, q5] [(0, l1), (2, s0)] ds m Q) := P_nx k75_1 rfl
set_option maxRecDepth 20000 in
theorem k75_2 : mjCode 75 2 = some (.invokevirtual 146, 3, 97, 2) := by decide +kernel
theorem p75_2 {s0 s1 : Int} {q0 q1 q2 q3 q4 q5 : MV} {ds : Ds} {m : Mm} {Q : Ds → Mm → List MV → Prop} : WP 75 2 [q0, q1, q2, q3, q4, q5] [(0, s0), (2, s1)] ds m Q = ((dk ds s1 = 6 ∧ WP 96 0 [(2, s1), (0, s0)] [] ds m (fun d2 m2 r2 => WP 75 5 [q0, q1, q2, q3, q4, q5] (r2 ++ []) d2 m2 Q))) := P_cv k75_2 mx96 mo96 rfl rfl rfl rfl rfl rfl rfl rfl
set_option maxRecDepth 20000 in
theorem k75_5 : mjCode 75 5 = some (.astore 5, 2, 0, 0) := by decide +kernel
theorem p75_5 {l4 s0 : Int} {q0 q1 q2 q3 q5 : MV} {ds : Ds} {m : Mm} {Q : Ds → Mm → List MV → Prop} : WP 75 5 [q0, q1, q2, q3, (3, l4), q5] [(2, s0)] ds m Q = (WP 75 7 [q0, q1, q2, q3, (3, l4), (2, s0)] [] ds m Q) := P_nx k75_5 rfl
set_option maxRecDepth 20000 in
theorem k75_7 : mjCode 75 7 = some (.aload 5, 2, 0, 0) := by decide +kernel
theorem p75_7 {l5 : Int} {q0 q1 q2 q3 q4 : MV} {ds : Ds} {m : Mm} {Q : Ds → Mm → List MV → Prop} : WP 75 7 [q0, q1, q2, q3, q4, (2, l5)] [] ds m Q = (WP 75 9 [q0, q1, q2, q3, q4, (2, l5)] [(2, l5)] ds m Q) := P_nx k75_7 rfl
set_option maxRecDepth 20000 in
theorem k75_9 : mjCode 75 9 = some (.ifnonnull 13, 3, 22, 0) := by decide +kernel
theorem p75_9 {s0 : Int} {q0 q1 q2 q3 q4 q5 : MV} {ds : Ds} {m : Mm} {Q : Ds → Mm → List MV → Prop} : WP 75 9 [q0, q1, q2, q3, q4, q5] [(2, s0)] ds m Q = (if s0 < 0 then WP 75 12 [q0, q1, q2, q3, q4, q5] [] ds m Q else WP 75 22 [q0, q1, q2, q3, q4, q5] [] ds m Q) := P_if k75_9 rfl
set_option maxRecDepth 20000 in
theorem k75_12 : mjCode 75 12 = some (.aload_n 0, 1, 0, 0) := by decide +kernel
theorem p75_12 {l0 : Int} {q1 q2 q3 q4 q5 : MV} {ds : Ds} {m : Mm} {Q : Ds → Mm → List MV → Prop} : WP 75 12 [(2, l0), q1, q2, q3, q4, q5] [] ds m Q = (WP 75 13 [(2, l0), q1, q2, q3, q4, q5] [(2, l0)] ds m Q) := P_nx k75_12 rfl
set_option maxRecDepth 20000 in
theorem k75_13 : mjCode 75 13 = some (.aload_n 0, 1, 0, 0) := by decide +kernel
theorem p75_13 {l0 s0 : Int} {q1 q2 q3 q4 q5 : MV} {ds : Ds} {m : Mm} {Q : Ds → Mm → List MV → Prop} : WP 75 13 [(2, l0), q1, q2, q3, q4, q5] [(2, s0)] ds m Q = (WP 75 14 [(2, l0), q1, q2, q3, q4, q5] [(2, l0), (2, s0)] ds m Q) := P_nx k75_13 rfl
set_option maxRecDepth 20000 in
theorem k75_14 : mjCode 75 14 = some (.iload_n 1, 1, 0, 0) := by decide +kernel
theorem p75_14 {l1 s0 s1 : Int} {q0 q2 q3 q4 q5 : MV} {ds : Ds} {m : Mm} {Q : Ds → Mm → List MV → Prop} : WP 75 14 [q0, (0, l1), q2, q3, q4, q5] [(2, s0), (2, s1)] ds m Q = (WP 75 15 [q0, (0, l1), q2, q3, q4, q5] [(0, l1), (2, s0), (2, s1)] ds m Q) := P_nx k75_14 rfl
set_option maxRecDepth 20000 in
theorem k75_15 : mjCode 75 15 = some (.invokevirtual 150, 3, 98, 2) := by decide +kernel
theorem p75_15 {s0 s1 s2 : Int} {q0 q1 q2 q3 q4 q5 : MV} {ds : Ds} {m : Mm} {Q : Ds → Mm → List MV → Prop} : WP 75 15 [q0, q1, q2, q3, q4, q5] [(0, s0), (2, s1), (2, s2)] ds m Q = ((dk ds s1 = 6 ∧ WP 97 0 [(2, s1), (0, s0)] [] ds m (fun d2 m2 r2 => WP 75 18 [q0, q1, q2, q3, q4, q5] (r2 ++ [(2, s2)]) d2 m2 Q))) := P_cv k75_15 mx97 mo97 rfl rfl rfl rfl rfl rfl rfl rfl
set_option maxRecDepth 20000 in
theorem k75_18 : mjCode 75 18 = some (.invokevirtual 73, 3, 96, 2) := by decide +kernel
theorem p75_18 {s0 s1 : Int} {q0 q1 q2 q3 q4 q5 : MV} {ds : Ds} {m : Mm} {Q : Ds → Mm → List MV → Prop} : WP 75 18 [q0, q1, q2, q3, q4, q5] [(0, s0), (2, s1)] ds m Q = ((dk ds s1 = 6 ∧ WP 95 0 [(2, s1), (0, s0), (3, 0)] [] ds m (fun d2 m2 r2 => WP 75 21 [q0, q1, q2, q3, q4, q5] (r2 ++ []) d2 m2 Q))) := P_cv k75_18 mx95 mo95 rfl rfl rfl rfl rfl rfl rfl rfl
set_option maxRecDepth 20000 in
theorem k75_21 : mjCode 75 21 = some (.ireturn, 1, 0, 0) := by decide +kernel
theorem p75_21 {s0 : Int} {q0 q1 q2 q3 q4 q5 : MV} {ds : Ds} {m : Mm} {Q : Ds → Mm → List MV → Prop} : WP 75 21 [q0, q1, q2, q3, q4, q5] [(0, s0)] ds m Q = (Q ds m [(0, s0)]) := P_ri k75_21 rk75
set_option maxRecDepth 20000 in
theorem k75_22 : mjCode 75 22 = some (.aload 5, 2, 0, 0) := by decide +kernel
theorem p75_22 {l5 : Int} {q0 q1 q2 q3 q4 : MV} {ds : Ds} {m : Mm} {Q : Ds → Mm → List MV → Prop} : WP 75 22 [q0, q1, q2, q3, q4, (2, l5)] [] ds m Q = (WP 75 24 [q0, q1, q2, q3, q4, (2, l5)] [(2, l5)] ds m Q) := P_nx k75_22 rfl
set_option maxRecDepth 20000 in
theorem k75_24 : mjCode 75 24 = some (.iload_n 2, 1, 0, 0) := by decide +kernel
theorem p75_24 {l2 s0 : Int} {q0 q1 q3 q4 q5 : MV} {ds : Ds} {m : Mm} {Q : Ds → Mm → List MV → Prop} : WP 75 24 [q0, q1, (0, l2), q3, q4, q5] [(2, s0)] ds m Q = (WP 75 25 [q0, q1, (0, l2), q3, q4, q5] [(0, l2), (2, s0)] ds m Q) := P_nx k75_24 rfl
set_option maxRecDepth 20000 in
theorem k75_25 : mjCode 75 25 = some (.iconst 1, 1, 0, 0) := by decide +kernel
theorem p75_25 {s0 s1 : Int} {q0 q1 q2 q3 q4 q5 : MV} {ds : Ds} {m : Mm} {Q : Ds → Mm → List MV → Prop} : WP 75 25 [q0, q1, q2, q3, q4, q5] [(0, s0), (2, s1)] ds m Q = (WP 75 26 [q0, q1, q2, q3, q4, q5] [(0, 1), (0, s0), (2, s1)] ds m Q) := P_nx k75_25 rfl
set_option maxRecDepth 20000 in
theorem k75_26 : mjCode 75 26 = some (.invokevirtual 153, 3, 46, 3) := by decide +kernel
theorem p75_26 {s0 s1 s2 : Int} {q0 q1 q2 q3 q4 q5 : MV} {ds : Ds} {m : Mm} {Q : Ds → Mm → List MV → Prop} : WP 75 26 [q0, q1, q2, q3, q4, q5] [(0, s0), (0, s1), (2, s2)] ds m Q = ((dk ds s2 = 4 ∧ WP 45 0 [(2, s2), (0, s1), (0, s0)] [] ds m (fun d2 m2 r2 => WP 75 29 [q0, q1, q2, q3, q4, q5] (r2 ++ []) d2 m2 Q))) := P_cv k75_26 mx45 mo45 rfl rfl rfl rfl rfl rfl rfl rfl
set_option maxRecDepth 20000 in
theorem k75_29 : mjCode 75 29 = some (.ifCond .ne 10, 3, 39, 0) := by decide +kernel
theorem p75_29 {s0 : Int} {q0 q1 q2 q3 q4 q5 : MV} {ds : Ds} {m : Mm} {Q : Ds → Mm → List MV → Prop} : WP 75 29 [q0, q1, q2, q3, q4, q5] [(0, s0)] ds m Q = (if s0 = 0 then WP 75 32 [q0, q1, q2, q3, q4, q5] [] ds m Q else WP 75 39 [q0, q1, q2, q3, q4, q5] [] ds m Q) := P_if k75_29 rfl
set_option maxRecDepth 20000 in
theorem k75_32 : mjCode 75 32 = some (.aload_n 0, 1, 0, 0) := by decide +kernel
theorem p75_32 {l0 : Int} {q1 q2 q3 q4 q5 : MV} {ds : Ds} {m : Mm} {Q : Ds → Mm → List MV → Prop} : WP 75 32 [(2, l0), q1, q2, q3, q4, q5] [] ds m Q = (WP 75 33 [(2, l0), q1, q2, q3, q4, q5] [(2, l0)] ds m Q) := P_nx k75_32 rfl
set_option maxRecDepth 20000 in
theorem k75_33 : mjCode 75 33 = some (.bipush (-5), 2, 0, 0) := by decide +kernel
theorem p75_33 {s0 : Int} {q0 q1 q2 q3 q4 q5 : MV} {ds : Ds} {m : Mm} {Q : Ds → Mm → List MV → Prop} : WP 75 33 [q0, q1, q2, q3, q4, q5] [(2, s0)] ds m Q = (WP 75 35 [q0, q1, q2, q3, q4, q5] [(0, (-5)), (2, s0)] ds m Q) := P_nx k75_33 rfl
set_option maxRecDepth 20000 in
theorem k75_35 : mjCode 75 35 = some (.invokevirtual 73, 3, 96, 2) := by decide +kernel
theorem p75_35 {s0 s1 : Int} {q0 q1 q2 q3 q4 q5 : MV} {ds : Ds} {m : Mm} {Q : Ds → Mm → List MV → Prop} : WP 75 35 [q0, q1, q2, q3, q4, q5] [(0, s0), (2, s1)] ds m Q = ((dk ds s1 = 6 ∧ WP 95 0 [(2, s1), (0, s0), (3, 0)] [] ds m (fun d2 m2 r2 => WP 75 38 [q0, q1, q2, q3, q4, q5] (r2 ++ []) d2 m2 Q))) := P_cv k75_35 mx95 mo95 rfl rfl rfl rfl rfl rfl rfl rfl
set_option maxRecDepth 20000 in
theorem k75_38 : mjCode 75 38 = some (.ireturn, 1, 0, 0) := by decide +kernel
theorem p75_38 {s0 : Int} {q0 q1 q2 q3 q4 q5 : MV} {ds : Ds} {m : Mm} {Q : Ds → Mm → List MV → Prop} : WP 75 38 [q0, q1, q2, q3, q4, q5] [(0, s0)] ds m Q = (Q ds m [(0, s0)]) := P_ri k75_38 rk75
set_option maxRecDepth 20000 in
theorem k75_39 : mjCode 75 39 = some (.aload 5, 2, 0, 0) := by decide +kernel
theorem p75_39 {l5 : Int} {q0 q1 q2 q3 q4 : MV} {ds : Ds} {m : Mm} {Q : Ds → Mm → List MV → Prop} : WP 75 39 [q0, q1, q2, q3, q4, (2, l5)] [] ds m Q = (WP 75 41 [q0, q1, q2, q3, q4, (2, l5)] [(2, l5)] ds m Q) := P_nx k75_39 rfl
set_option maxRecDepth 20000 in
theorem k75_41 : mjCode 75 41 = some (.iload_n 2, 1, 0, 0) := by decide +kernel
theorem p75_41 {l2 s0 : Int} {q0 q1 q3 q4 q5 : MV} {ds : Ds} {m : Mm} {Q : Ds → Mm → List MV → Prop} : WP 75 41 [q0, q1, (0, l2), q3, q4, q5] [(2, s0)] ds m Q = (WP 75 42 [q0, q1, (0, l2), q3, q4, q5] [(0, l2), (2, s0)] ds m Q) := P_nx k75_41 rfl
set_option maxRecDepth 20000 in
theorem k75_42 : mjCode 75 42 = some (.lload_n 3, 1, 0, 0) := by decide +kernel
theorem p75_42 {l3 s0 s1 : Int} {q0 q1 q2 q4 q5 : MV} {ds : Ds} {m : Mm} {Q : Ds → Mm → List MV → Prop} : WP 75 42 [q0, q1, q2, (1, l3), q4, q5] [(0, s0), (2, s1)] ds m Q = (WP 75 43 [q0, q1, q2, (1, l3), q4, q5] [(1, l3), (0, s0), (2, s1)] ds m Q) := P_nx k75_42 rfl
set_option maxRecDepth 20000 in
theorem k75_43 : mjCode 75 43 = some (.invokevirtual 157, 3, 47, 3) := by decide +kernel
theorem p75_43 {s0 s1 s2 : Int} {q0 q1 q2 q3 q4 q5 : MV} {ds : Ds} {m : Mm} {Q : Ds → Mm → List MV → Prop} : WP 75 43 [q0, q1, q2, q3, q4, q5] [(1, s0), (0, s1), (2, s2)] ds m Q = ((dk ds s2 = 4 ∧ WP 46 0 [(2, s2), (0, s1), (1, s0), (3, 0)] [] ds m (fun d2 m2 r2 => WP 75 46 [q0, q1, q2, q3, q4, q5] (r2 ++ []) d2 m2 Q))) := P_cv k75_43 mx46 mo46 rfl rfl rfl rfl rfl rfl rfl rfl
set_option maxRecDepth 20000 in
theorem k75_46 : mjCode 75 46 = some (.iconst 1, 1, 0, 0) := by decide +kernel
theorem p75_46 {q0 q1 q2 q3 q4 q5 : MV} {ds : Ds} {m : Mm} {Q : Ds → Mm → List MV → Prop} : WP 75 46 [q0, q1, q2, q3, q4, q5] [] ds m Q = (WP 75 47 [q0, q1, q2, q3, q4, q5] [(0, 1)] ds m Q) := P_nx k75_46 rfl
set_option maxRecDepth 20000 in
theorem k75_47 : mjCode 75 47 = some (.ireturn, 1, 0, 0) := by decide +kernel
theorem p75_47 {s0 : Int} {q0 q1 q2 q3 q4 q5 : MV} {ds : Ds} {m : Mm} {Q : Ds → Mm → List MV → Prop} : WP 75 47 [q0, q1, q2, q3, q4, q5] [(0, s0)] ds m Q = (Q ds m [(0, s0)]) := P_ri k75_47 rk75
set_option maxRecDepth 20000 in
theorem k76_0 : mjCode 76 0 = some (.iload_n 1, 1, 0, 0) := by decide +kernel
theorem p76_0 {l1 : Int} {q0 q2 q3 q4 q5 q6 q7 q8 : MV} {ds : Ds} {m : Mm} {Q : Ds → Mm → List MV → Prop} : WP 76 0 [q0, (0, l1), q2, q3, q4, q5, q6, q7, q8] [] ds m Q = (WP 76 1 [q0, (0, l1), q2, q3, q4, q5, q6, q7, q8] [(0, l1)] ds m Q) := P_nx k76_0 rfl
set_option maxRecDepth 20000 in
theorem k76_1 : mjCode 76 1 = some (.invokestatic 140, 3, 110, 1) := by decide +kernel
theorem p76_1 {s0 : Int} {q0 q1 q2 q3 q4 q5 q6 q7 q8 : MV} {ds : Ds} {m : Mm} {Q : Ds → Mm → List MV → Prop} : WP 76 1 [q0, q1, q2, q3, q4, q5, q6, q7, q8] [(0, s0)] ds m Q = (WP 109 0 [(0, s0)] [] ds m (fun d2 m2 r2 => WP 76 4 [q0, q1, q2, q3, q4, q5, q6, q7, q8] (r2 ++ []) d2 m2 Q)) := P_cs k76_1 mx109 rfl rfl rfl rfl rfl rfl rfl
set_option maxRecDepth 20000 in
theorem k76_4 : mjCode 76 4 = some (.ifCond .eq 10, 3, 14, 0) := by decide +kernel
theorem p76_4 {s0 : Int} {q0 q1 q2 q3 q4 q5 q6 q7 q8 : MV} {ds : Ds} {m : Mm} {Q : Ds → Mm → List MV → Prop} : WP 76 4 [q0, q1, q2, q3, q4, q5, q6, q7, q8] [(0, s0)] ds m Q = (if s0 = 0 then WP 76 14 [q0, q1, q2, q3, q4, q5, q6, q7, q8] [] ds m Q else WP 76 7 [q0, q1, q2, q3, q4, q5, q6, q7, q8] [] ds m Q) := P_if k76_4 rfl
set_option maxRecDepth 20000 in
theorem k76_7 : mjCode 76 7 = some (.iload_n 2, 1, 0, 0) := by decide +kernel
theorem p76_7 {l2 : Int} {q0 q1 q3 q4 q5 q6 q7 q8 : MV} {ds : Ds} {m : Mm} {Q : Ds → Mm → List MV → Prop} : WP 76 7 [q0, q1, (0, l2), q3, q4, q5, q6, q7, q8] [] ds m Q = (WP 76 8 [q0, q1, (0, l2), q3, q4, q5, q6, q7, q8] [(0, l2)] ds m Q) := P_nx k76_7 rfl
set_option maxRecDepth 20000 in
theorem k76_8 : mjCode 76 8 = some (.invokestatic 140, 3, 110, 1) := by decide +kernel
theorem p76_8 {s0 : Int} {q0 q1 q2 q3 q4 q5 q6 q7 q8 : MV} {ds : Ds} {m : Mm} {Q : Ds → Mm → List MV → Prop} : WP 76 8 [q0, q1, q2, q3, q4, q5, q6, q7, q8] [(0, s0)] ds m Q = (WP 109 0 [(0, s0)] [] ds m (fun d2 m2 r2 => WP 76 11 [q0, q1, q2, q3, q4, q5, q6, q7, q8] (r2 ++ []) d2 m2 Q)) := P_cs k76_8 mx109 rfl rfl rfl rfl rfl rfl rfl
set_option maxRecDepth 20000 in
theorem k76_11 : mjCode 76 11 = some (.ifCond .ne 9, 3, 20, 0) := by decide +kernel
theorem p76_11 {s0 : Int} {q0 q1 q2 q3 q4 q5 q6 q7 q8 : MV} {ds : Ds} {m : Mm} {Q : Ds → Mm → List MV → Prop} : WP 76 11 [q0, q1, q2, q3, q4, q5, q6, q7, q8] [(0, s0)] ds m Q = (if s0 = 0 then WP 76 14 [q0, q1, q2, q3, q4, q5, q6, q7, q8] [] ds m Q else WP 76 20 [q0, q1, q2, q3, q4, q5, q6, q7, q8] [] ds m Q) := P_if k76_11 rfl
set_option maxRecDepth 20000 in
theorem k76_14 : mjCode 76 14 = some (.aload_n 0, 1, 0, 0) := by decide +kernel
theorem p76_14 {l0 : Int} {q1 q2 q3 q4 q5 q6 q7 q8 : MV} {ds : Ds} {m : Mm} {Q : Ds → Mm → List MV → Prop} : WP 76 14 [(2, l0), q1, q2, q3, q4, q5, q6, q7, q8] [] ds m Q = (WP 76 15 [(2, l0), q1, q2, q3, q4, q5, q6, q7, q8] [(2, l0)] ds m Q) := P_nx k76_14 rfl
set_option maxRecDepth 20000 in
theorem k76_15 : mjCode 76 15 = some (.iconst (-1), 1, 0, 0) := by decide +kernel
theorem p76_15 {s0 : Int} {q0 q1 q2 q3 q4 q5 q6 q7 q8 : MV} {ds : Ds} {m : Mm} {Q : Ds → Mm → List MV → Prop} : WP 76 15 [q0, q1, q2, q3, q4, q5, q6, q7, q8] [(2, s0)] ds m Q = (WP 76 16 [q0, q1, q2, q3, q4, q5, q6, q7, q8] [(0, (-1)), (2, s0)] ds m Q) := P_nx k76_15 rfl
set_option maxRecDepth 20000 in
theorem k76_16 : mjCode 76 16 = some (.invokevirtual 73, 3, 96, 2) := by decide +kernel
theorem p76_16 {s0 s1 : Int} {q0 q1 q2 q3 q4 q5 q6 q7 q8 : MV} {ds : Ds} {m : Mm} {Q : Ds → Mm → List MV → Prop} : WP 76 16 [q0, q1, q2, q3, q4, q5, q6, q7, q8] [(0, s0), (2, s1)] ds m Q = ((dk ds s1 = 6 ∧ WP 95 0 [(2, s1), (0, s0), (3, 0)] [] ds m (fun d2 m2 r2 => WP 76 19 [q0, q1, q2, q3, q4, q5, q6, q7, q8] (r2 ++ []) d2 m2 Q))) := P_cv k76_16 mx95 mo95 rfl rfl rfl rfl rfl rfl rfl rfl
set_option maxRecDepth 20000 in
theorem k76_19 : mjCode 76 19 = some (.ireturn, 1, 0, 0) := by decide +kernel
theorem p76_19 {s0 : Int} {q0 q1 q2 q3 q4 q5 q6 q7 q8 : MV} {ds : Ds} {m : Mm} {Q : Ds → Mm → List MV → Prop} : WP 76 19 [q0, q1, q2, q3, q4, q5, q6, q7, q8] [(0, s0)] ds m Q = (Q ds m [(0, s0)]) := P_ri k76_19 rk76
set_option maxRecDepth 20000 in
theorem k76_20 : mjCode 76 20 = some (.aload_n 0, 1, 0, 0) := by decide +kernel
theorem p76_20 {l0 : Int} {q1 q2 q3 q4 q5 q6 q7 q8 : MV} {ds : Ds} {m : Mm} {Q : Ds → Mm → List MV → Prop} : WP 76 20 [(2, l0), q1, q2, q3, q4, q5, q6, q7, q8] [] ds m Q = (WP 76 21 [(2, l0), q1, q2, q3, q4, q5, q6, q7, q8] [(2, l0)] ds m Q) := P_nx k76_20 rfl
set_option maxRecDepth 20000 in
theorem k76_21 : mjCode 76 21 = some (.getfield 11, 3, 6, 2) := by decide +kernel
theorem p76_21 {s0 : Int} {q0 q1 q2 q3 q4 q5 q6 q7 q8 : MV} {ds : Ds} {m : Mm} {Q : Ds → Mm → List MV → Prop} : WP 76 21 [q0, q1, q2, q3, q4, q5, q6, q7, q8] [(2, s0)] ds m Q = ((dk ds s0 = 6 ∧ WP 76 24 [q0, q1, q2, q3, q4, q5, q6, q7, q8] [(2, m s0 2)] ds m Q)) := P_gd k76_21 rfl
set_option maxRecDepth 20000 in
theorem k76_24 : mjCode 76 24 = some (.iload_n 1, 1, 0, 0) := by decide +kernel
theorem p76_24 {l1 s0 : Int} {q0 q2 q3 q4 q5 q6 q7 q8 : MV} {ds : Ds} {m : Mm} {Q : Ds → Mm → List MV → Prop} : WP 76 24 [q0, (0, l1), q2, q3, q4, q5, q6, q7, q8] [(2, s0)] ds m Q = (WP 76 25 [q0, (0, l1), q2, q3, q4, q5, q6, q7, q8] [(0, l1), (2, s0)] ds m Q) := P_nx k76_24 rfl
set_option maxRecDepth 20000 in
theorem k76_25 : mjCode 76 25 = some (.aaload, 1, 0, 0) := by decide +kernel
theorem p76_25 {s0 s1 : Int} {q0 q1 q2 q3 q4 q5 q6 q7 q8 : MV} {ds : Ds} {m : Mm} {Q : Ds → Mm → List MV → Prop} : WP 76 25 [q0, q1, q2, q3, q4, q5, q6, q7, q8] [(0, s0), (2, s1)] ds m Q = (((dk ds s1 = 13 ∨ dk ds s1 = 14) ∧ 0 ≤ s0 ∧ s0 < dl ds s1 ∧ WP 76 26 [q0, q1, q2, q3, q4, q5, q6, q7, q8] [(2, m s1 s0)] ds m Q)) := P_g3 k76_25 rfl
set_option maxRecDepth 20000 in
theorem k76_26 : mjCode 76 26 = some (.astore 6, 2, 0, 0) := by decide +kernel
theorem p76_26 {l5 s0 : Int} {q0 q1 q2 q3 q4 q6 q7 q8 : MV} {ds : Ds} {m : Mm} {Q : Ds → Mm → List MV → Prop} : WP 76 26 [q0, q1, q2, q3, q4, (0, l5), q6, q7, q8] [(2, s0)] ds m Q = (WP 76 28 [q0, q1, q2, q3, q4, (0, l5), (2, s0), q7, q8] [] ds m Q) := P_nx k76_26 rfl
set_option maxRecDepth 20000 in
theorem k76_28 : mjCode 76 28 = some (.aload_n 0, 1, 0, 0) := by decide +kernel
theorem p76_28 {l0 : Int} {q1 q2 q3 q4 q5 q6 q7 q8 : MV} {ds : Ds} {m : Mm} {Q : Ds → Mm → List MV → Prop} : WP 76 28 [(2, l0), q1, q2, q3, q4, q5, q6, q7, q8] [] ds m Q = (WP 76 29 [(2, l0), q1, q2, q3, q4, q5, q6, q7, q8] [(2, l0)] ds m Q) := P_nx k76_28 rfl
set_option maxRecDepth 20000 in
theorem k76_29 : mjCode 76 29 = some (.getfield 11, 3, 6, 2) := by decide +kernel
theorem p76_29 {s0 : Int} {q0 q1 q2 q3 q4 q5 q6 q7 q8 : MV} {ds : Ds} {m : Mm} {Q : Ds → Mm → List MV → Prop} : WP 76 29 [q0, q1, q2, q3, q4, q5, q6, q7, q8] [(2, s0)] ds m Q = ((dk ds s0 = 6 ∧ WP 76 32 [q0, q1, q2, q3, q4, q5, q6, q7, q8] [(2, m s0 2)] ds m Q)) := P_gd k76_29 rfl
set_option maxRecDepth 20000 in
theorem k76_32 : mjCode 76 32 = some (.iload_n 2, 1, 0, 0) := by decide +kernel
theorem p76_32 {l2 s0 : Int} {q0 q1 q3 q4 q5 q6 q7 q8 : MV} {ds : Ds} {m : Mm} {Q : Ds → Mm → List MV → Prop} : WP 76 32 [q0, q1, (0, l2), q3, q4, q5, q6, q7, q8] [(2, s0)] ds m Q = (WP 76 33 [q0, q1, (0, l2), q3, q4, q5, q6, q7, q8] [(0, l2), (2, s0)] ds m Q) := P_nx k76_32 rfl
set_option maxRecDepth 20000 in
theorem k76_33 : mjCode 76 33 = some (.aaload, 1, 0, 0) := by decide +kernel
theorem p76_33 {s0 s1 : Int} {q0 q1 q2 q3 q4 q5 q6 q7 q8 : MV} {ds : Ds} {m : Mm} {Q : Ds → Mm → List MV → Prop} : WP 76 33 [q0, q1, q2, q3, q4, q5, q6, q7, q8] [(0, s0), (2, s1)] ds m Q = (((dk ds s1 = 13 ∨ dk ds s1 = 14) ∧ 0 ≤ s0 ∧ s0 < dl ds s1 ∧ WP 76 34 [q0, q1, q2, q3, q4, q5, q6, q7, q8] [(2, m s1 s0)] ds m Q)) := P_g3 k76_33 rfl
set_option maxRecDepth 20000 in
theorem k76_34 : mjCode 76 34 = some (.astore 7, 2, 0, 0) := by decide +kernel
theorem p76_34 {l6 s0 : Int} {q0 q1 q2 q3 q4 q5 q7 q8 : MV} {ds : Ds} {m : Mm} {Q : Ds → Mm → List MV → Prop} : WP 76 34 [q0, q1, q2, q3, q4, q5, (2, l6), q7, q8] [(2, s0)] ds m Q = (WP 76 36 [q0, q1, q2, q3, q4, q5, (2, l6), (2, s0), q8] [] ds m Q) := P_nx k76_34 rfl
set_option maxRecDepth 20000 in
theorem k76_36 : mjCode 76 36 = some (.aload 6, 2, 0, 0) := by decide +kernel
theorem p76_36 {l6 : Int} {q0 q1 q2 q3 q4 q5 q7 q8 : MV} {ds : Ds} {m : Mm} {Q : Ds → Mm → List MV → Prop} : WP 76 36 [q0, q1, q2, q3, q4, q5, (2, l6), q7, q8] [] ds m Q = (WP 76 38 [q0, q1, q2, q3, q4, q5, (2, l6), q7, q8] [(2, l6)] ds m Q) := P_nx k76_36 rfl
set_option maxRecDepth 20000 in
theorem k76_38 : mjCode 76 38 = some (.ifnull 25, 3, 63, 0) := by decide +kernel
theorem p76_38 {s0 : Int} {q0 q1 q2 q3 q4 q5 q6 q7 q8 : MV} {ds : Ds} {m : Mm} {Q : Ds → Mm → List MV → Prop} : WP 76 38 [q0, q1, q2, q3, q4, q5, q6, q7, q8] [(2, s0)] ds m Q = (if s0 < 0 then WP 76 63 [q0, q1, q2, q3, q4, q5, q6, q7, q8] [] ds m Q else WP 76 41 [q0, q1, q2, q3, q4, q5, q6, q7, q8] [] ds m Q) := P_if k76_38 rfl
set_option maxRecDepth 20000 in
theorem k76_41 : mjCode 76 41 = some (.aload 7, 2, 0, 0) := by decide +kernel
theorem p76_41 {l7 : Int} {q0 q1 q2 q3 q4 q5 q6 q8 : MV} {ds : Ds} {m : Mm} {Q : Ds → Mm → List MV → Prop} : WP 76 41 [q0, q1, q2, q3, q4, q5, q6, (2, l7), q8] [] ds m Q = (WP 76 43 [q0, q1, q2, q3, q4, q5, q6, (2, l7), q8] [(2, l7)] ds m Q) := P_nx k76_41 rfl
set_option maxRecDepth 20000 in
theorem k76_43 : mjCode 76 43 = some (.ifnull 20, 3, 63, 0) := by decide +kernel
theorem p76_43 {s0 : Int} {q0 q1 q2 q3 q4 q5 q6 q7 q8 : MV} {ds : Ds} {m : Mm} {Q : Ds → Mm → List MV → Prop} : WP 76 43 [q0, q1, q2, q3, q4, q5, q6, q7, q8] [(2, s0)] ds m Q = (if s0 < 0 then WP 76 63 [q0, q1, q2, q3, q4, q5, q6, q7, q8] [] ds m Q else WP 76 46 [q0, q1, q2, q3, q4, q5, q6, q7, q8] [] ds m Q) := P_if k76_43 rfl
set_option maxRecDepth 20000 in
theorem k76_46 : mjCode 76 46 = some (.aload 6, 2, 0, 0) := by decide +kernel
theorem p76_46 {l6 : Int} {q0 q1 q2 q3 q4 q5 q7 q8 : MV} {ds : Ds} {m : Mm} {Q : Ds → Mm → List MV → Prop} : WP 76 46 [q0, q1, q2, q3, q4, q5, (2, l6), q7, q8] [] ds m Q = (WP 76 48 [q0, q1, q2, q3, q4, q5, (2, l6), q7, q8] [(2, l6)] ds m Q) := P_nx k76_46 rfl
set_option maxRecDepth 20000 in
theorem k76_48 : mjCode 76 48 = some (.getfield 161, 3, 4, 0) := by decide +kernel
theorem p76_48 {s0 : Int} {q0 q1 q2 q3 q4 q5 q6 q7 q8 : MV} {ds : Ds} {m : Mm} {Q : Ds → Mm → List MV → Prop} : WP 76 48 [q0, q1, q2, q3, q4, q5, q6, q7, q8] [(2, s0)] ds m Q = ((dk ds s0 = 4 ∧ WP 76 51 [q0, q1, q2, q3, q4, q5, q6, q7, q8] [(0, m s0 0)] ds m Q)) := P_gd k76_48 rfl
set_option maxRecDepth 20000 in
theorem k76_51 : mjCode 76 51 = some (.aload 7, 2, 0, 0) := by decide +kernel
theorem p76_51 {l7 s0 : Int} {q0 q1 q2 q3 q4 q5 q6 q8 : MV} {ds : Ds} {m : Mm} {Q : Ds → Mm → List MV → Prop} : WP 76 51 [q0, q1, q2, q3, q4, q5, q6, (2, l7), q8] [(0, s0)] ds m Q = (WP 76 53 [q0, q1, q2, q3, q4, q5, q6, (2, l7), q8] [(2, l7), (0, s0)] ds m Q) := P_nx k76_51 rfl
set_option maxRecDepth 20000 in
theorem k76_53 : mjCode 76 53 = some (.getfield 161, 3, 4, 0) := by decide +kernel
theorem p76_53 {s0 s1 : Int} {q0 q1 q2 q3 q4 q5 q6 q7 q8 : MV} {ds : Ds} {m : Mm} {Q : Ds → Mm → List MV → Prop} : WP 76 53 [q0, q1, q2, q3, q4, q5, q6, q7, q8] [(2, s0), (0, s1)] ds m Q = ((dk ds s0 = 4 ∧ WP 76 56 [q0, q1, q2, q3, q4, q5, q6, q7, q8] [(0, m s0 0), (0, s1)] ds m Q)) := P_gd k76_53 rfl
set_option maxRecDepth 20000 in
theorem k76_56 : mjCode 76 56 = some (.if_icmp .eq 7, 3, 63, 0) := by decide +kernel
theorem p76_56 {s0 s1 : Int} {q0 q1 q2 q3 q4 q5 q6 q7 q8 : MV} {ds : Ds} {m : Mm} {Q : Ds → Mm → List MV → Prop} : WP 76 56 [q0, q1, q2, q3, q4, q5, q6, q7, q8] [(0, s0), (0, s1)] ds m Q = (if s1 = s0 then WP 76 63 [q0, q1, q2, q3, q4, q5, q6, q7, q8] [] ds m Q else WP 76 59 [q0, q1, q2, q3, q4, q5, q6, q7, q8] [] ds m Q) := P_if k76_56 rfl
set_option maxRecDepth 20000 in
theorem k76_59 : mjCode 76 59 = some (.iconst 1, 1, 0, 0) := by decide +kernel
theorem p76_59 {q0 q1 q2 q3 q4 q5 q6 q7 q8 : MV} {ds : Ds} {m : Mm} {Q : Ds → Mm → List MV → Prop} : WP 76 59 [q0, q1, q2, q3, q4, q5, q6, q7, q8] [] ds m Q = (WP 76 60 [q0, q1, q2, q3, q4, q5, q6, q7, q8] [(0, 1)] ds m Q) := P_nx k76_59 rfl
set_option maxRecDepth 20000 in
theorem k76_60 : mjCode 76 60 = some (.goto 4, 3, 64, 0) := by decide +kernel
theorem p76_60 {s0 : Int} {q0 q1 q2 q3 q4 q5 q6 q7 q8 : MV} {ds : Ds} {m : Mm} {Q : Ds → Mm → List MV → Prop} : WP 76 60 [q0, q1, q2, q3, q4, q5, q6, q7, q8] [(0, s0)] ds m Q = (WP 76 64 [q0, q1, q2, q3, q4, q5, q6, q7, q8] [(0, s0)] ds m Q) := P_nx k76_60 rfl
set_option maxRecDepth 20000 in
theorem k76_63 : mjCode 76 63 = some (.iconst 0, 1, 0, 0) := by decide +kernel
theorem p76_63 {q0 q1 q2 q3 q4 q5 q6 q7 q8 : MV} {ds : Ds} {m : Mm} {Q : Ds → Mm → List MV → Prop} : WP 76 63 [q0, q1, q2, q3, q4, q5, q6, q7, q8] [] ds m Q = (WP 76 64 [q0, q1, q2, q3, q4, q5, q6, q7, q8] [(0, 0)] ds m Q) := P_nx k76_63 rfl
set_option maxRecDepth 20000 in
theorem k76_64 : mjCode 76 64 = some (.istore 8, 2, 0, 0) := by decide +kernel
theorem p76_64 {l7 s0 : Int} {q0 q1 q2 q3 q4 q5 q6 q8 : MV} {ds : Ds} {m : Mm} {Q : Ds → Mm → List MV → Prop} : WP 76 64 [q0, q1, q2, q3, q4, q5, q6, (2, l7), q8] [(0, s0)] ds m Q = (WP 76 66 [q0, q1, q2, q3, q4, q5, q6, (2, l7), (0, s0)] [] ds m Q) := P_nx k76_64 rfl
set_option maxRecDepth 20000 in
theorem k76_66 : mjCode 76 66 = some (.aload_n 0, 1, 0, 0) := by decide +kernel
theorem p76_66 {l0 : Int} {q1 q2 q3 q4 q5 q6 q7 q8 : MV} {ds : Ds} {m : Mm} {Q : Ds → Mm → List MV → Prop} : WP 76 66 [(2, l0), q1, q2, q3, q4, q5, q6, q7, q8] [] ds m Q = (WP 76 67 [(2, l0), q1, q2, q3, q4, q5, q6, q7, q8] [(2, l0)] ds m Q) := P_nx k76_66 rfl
set_option maxRecDepth 20000 in
theorem k76_67 : mjCode 76 67 = some (.getfield 17, 3, 6, 3) := by decide +kernel
theorem p76_67 {s0 : Int} {q0 q1 q2 q3 q4 q5 q6 q7 q8 : MV} {ds : Ds} {m : Mm} {Q : Ds → Mm → List MV → Prop} : WP 76 67 [q0, q1, q2, q3, q4, q5, q6, q7, q8] [(2, s0)] ds m Q = ((dk ds s0 = 6 ∧ WP 76 70 [q0, q1, q2, q3, q4, q5, q6, q7, q8] [(2, m s0 3)] ds m Q)) := P_gd k76_67 rfl
set_option maxRecDepth 20000 in
theorem k76_70 : mjCode 76 70 = some (.iload_n 1, 1, 0, 0) := by decide +kernel
theorem p76_70 {l1 s0 : Int} {q0 q2 q3 q4 q5 q6 q7 q8 : MV} {ds : Ds} {m : Mm} {Q : Ds → Mm → List MV → Prop} : WP 76 70 [q0, (0, l1), q2, q3, q4, q5, q6, q7, q8] [(2, s0)] ds m Q = (WP 76 71 [q0, (0, l1), q2, q3, q4, q5, q6, q7, q8] [(0, l1), (2, s0)] ds m Q) := P_nx k76_70 rfl
set_option maxRecDepth 20000 in
theorem k76_71 : mjCode 76 71 = some (.aaload, 1, 0, 0) := by decide +kernel
theorem p76_71 {s0 s1 : Int} {q0 q1 q2 q3 q4 q5 q6 q7 q8 : MV} {ds : Ds} {m : Mm} {Q : Ds → Mm → List MV → Prop} : WP 76 71 [q0, q1, q2, q3, q4, q5, q6, q7, q8] [(0, s0), (2, s1)] ds m Q = (((dk ds s1 = 13 ∨ dk ds s1 = 14) ∧ 0 ≤ s0 ∧ s0 < dl ds s1 ∧ WP 76 72 [q0, q1, q2, q3, q4, q5, q6, q7, q8] [(2, m s1 s0)] ds m Q)) := P_g3 k76_71 rfl
set_option maxRecDepth 20000 in
theorem k76_72 : mjCode 76 72 = some (.ifnonnull 17, 3, 89, 0) := by decide +kernel
theorem p76_72 {s0 : Int} {q0 q1 q2 q3 q4 q5 q6 q7 q8 : MV} {ds : Ds} {m : Mm} {Q : Ds → Mm → List MV → Prop} : WP 76 72 [q0, q1, q2, q3, q4, q5, q6, q7, q8] [(2, s0)] ds m Q = (if s0 < 0 then WP 76 75 [q0, q1, q2, q3, q4, q5, q6, q7, q8] [] ds m Q else WP 76 89 [q0, q1, q2, q3, q4, q5, q6, q7, q8] [] ds m Q) := P_if k76_72 rfl
set_option maxRecDepth 20000 in
theorem k76_75 : mjCode 76 75 = some (.aload_n 0, 1, 0, 0) := by decide +kernel
theorem p76_75 {l0 : Int} {q1 q2 q3 q4 q5 q6 q7 q8 : MV} {ds : Ds} {m : Mm} {Q : Ds → Mm → List MV → Prop} : WP 76 75 [(2, l0), q1, q2, q3, q4, q5, q6, q7, q8] [] ds m Q = (WP 76 76 [(2, l0), q1, q2, q3, q4, q5, q6, q7, q8] [(2, l0)] ds m Q) := P_nx k76_75 rfl
set_option maxRecDepth 20000 in
theorem k76_76 : mjCode 76 76 = some (.getfield 17, 3, 6, 3) := by decide +kernel
theorem p76_76 {s0 : Int} {q0 q1 q2 q3 q4 q5 q6 q7 q8 : MV} {ds : Ds} {m : Mm} {Q : Ds → Mm → List MV → Prop} : WP 76 76 [q0, q1, q2, q3, q4, q5, q6, q7, q8] [(2, s0)] ds m Q = ((dk ds s0 = 6 ∧ WP 76 79 [q0, q1, q2, q3, q4, q5, q6, q7, q8] [(2, m s0 3)] ds m Q)) := P_gd k76_76 rfl
set_option maxRecDepth 20000 in
theorem k76_79 : mjCode 76 79 = some (.iload_n 2, 1, 0, 0) := by decide +kernel
theorem p76_79 {l2 s0 : Int} {q0 q1 q3 q4 q5 q6 q7 q8 : MV} {ds : Ds} {m : Mm} {Q : Ds → Mm → List MV → Prop} : WP 76 79 [q0, q1, (0, l2), q3, q4, q5, q6, q7, q8] [(2, s0)] ds m Q = (WP 76 80 [q0, q1, (0, l2), q3, q4, q5, q6, q7, q8] [(0, l2), (2, s0)] ds m Q) := P_nx k76_79 rfl
set_option maxRecDepth 20000 in
theorem k76_80 : mjCode 76 80 = some (.aaload, 1, 0, 0) := by decide +kernel
theorem p76_80 {s0 s1 : Int} {q0 q1 q2 q3 q4 q5 q6 q7 q8 : MV} {ds : Ds} {m : Mm} {Q : Ds → Mm → List MV → Prop} : WP 76 80 [q0, q1, q2, q3, q4, q5, q6, q7, q8] [(0, s0), (2, s1)] ds m Q = (((dk ds s1 = 13 ∨ dk ds s1 = 14) ∧ 0 ≤ s0 ∧ s0 < dl ds s1 ∧ WP 76 81 [q0, q1, q2, q3, q4, q5, q6, q7, q8] [(2, m s1 s0)] ds m Q)) := P_g3 k76_80 rfl
set_option maxRecDepth 20000 in
theorem k76_81 : mjCode 76 81 = some (.ifnonnull 8, 3, 89, 0) := by decide +kernel
theorem p76_81 {s0 : Int} {q0 q1 q2 q3 q4 q5 q6 q7 q8 : MV} {ds : Ds} {m : Mm} {Q : Ds → Mm → List MV → Prop} : WP 76 81 [q0, q1, q2, q3, q4, q5, q6, q7, q8] [(2, s0)] ds m Q = (if s0 < 0 then WP 76 84 [q0, q1, q2, q3, q4, q5, q6, q7, q8] [] ds m Q else WP 76 89 [q0, q1, q2, q3, q4, q5, q6, q7, q8] [] ds m Q) := P_if k76_81 rfl
set_option maxRecDepth 20000 in
theorem k76_84 : mjCode 76 84 = some (.iload 8, 2, 0, 0) := by decide +kernel
theorem p76_84 {l8 : Int} {q0 q1 q2 q3 q4 q5 q6 q7 : MV} {ds : Ds} {m : Mm} {Q : Ds → Mm → List MV → Prop} : WP 76 84 [q0, q1, q2, q3, q4, q5, q6, q7, (0, l8)] [] ds m Q = (WP 76 86 [q0, q1, q2, q3, q4, q5, q6, q7, (0, l8)] [(0, l8)] ds m Q) := P_nx k76_84 rfl
set_option maxRecDepth 20000 in
theorem k76_86 : mjCode 76 86 = some (.ifCond .eq 10, 3, 96, 0) := by decide +kernel
theorem p76_86 {s0 : Int} {q0 q1 q2 q3 q4 q5 q6 q7 q8 : MV} {ds : Ds} {m : Mm} {Q : Ds → Mm → List MV → Prop} : WP 76 86 [q0, q1, q2, q3, q4, q5, q6, q7, q8] [(0, s0)] ds m Q = (if s0 = 0 then WP 76 96 [q0, q1, q2, q3, q4, q5, q6, q7, q8] [] ds m Q else WP 76 89 [q0, q1, q2, q3, q4, q5, q6, q7, q8] [] ds m Q) := P_if k76_86 rfl
set_option maxRecDepth 20000 in
theorem k76_89 : mjCode 76 89 = some (.aload_n 0, 1, 0, 0) := by decide +kernel
theorem p76_89 {l0 : Int} {q1 q2 q3 q4 q5 q6 q7 q8 : MV} {ds : Ds} {m : Mm} {Q : Ds → Mm → List MV → Prop} : WP 76 89 [(2, l0), q1, q2, q3, q4, q5, q6, q7, q8] [] ds m Q = (WP 76 90 [(2, l0), q1, q2, q3, q4, q5, q6, q7, q8] [(2, l0)] ds m Q) := P_nx k76_89 rfl
set_option maxRecDepth 20000 in
theorem k76_90 : mjCode 76 90 = some (.bipush (-2), 2, 0, 0) := by decide +kernel
theorem p76_90 {s0 : Int} {q0 q1 q2 q3 q4 q5 q6 q7 q8 : MV} {ds : Ds} {m : Mm} {Q : Ds → Mm → List MV → Prop} : WP 76 90 [q0, q1, q2, q3, q4, q5, q6, q7, q8] [(2, s0)] ds m Q = (WP 76 92 [q0, q1, q2, q3, q4, q5, q6, q7, q8] [(0, (-2)), (2, s0)] ds m Q) := P_nx k76_90 rfl
set_option maxRecDepth 20000 in
theorem k76_92 : mjCode 76 92 = some (.invokevirtual 73, 3, 96, 2) := by decide +kernel
theorem p76_92 {s0 s1 : Int} {q0 q1 q2 q3 q4 q5 q6 q7 q8 : MV} {ds : Ds} {m : Mm} {Q : Ds → Mm → List MV → Prop} : WP 76 92 [q0, q1, q2, q3, q4, q5, q6, q7, q8] [(0, s0), (2, s1)] ds m Q = ((dk ds s1 = 6 ∧ WP 95 0 [(2, s1), (0, s0), (3, 0)] [] ds m (fun d2 m2 r2 => WP 76 95 [q0, q1, q2, q3, q4, q5, q6, q7, q8] (r2 ++ []) d2 m2 Q))) := P_cv k76_92 mx95 mo95 rfl rfl rfl rfl rfl rfl rfl rfl
set_option maxRecDepth 20000 in
theorem k76_95 : mjCode 76 95 = some (.ireturn, 1, 0, 0) := by decide +kernel
theorem p76_95 {s0 : Int} {q0 q1 q2 q3 q4 q5 q6 q7 q8 : MV} {ds : Ds} {m : Mm} {Q : Ds → Mm → List MV → Prop} : WP 76 95 [q0, q1, q2, q3, q4, q5, q6, q7, q8] [(0, s0)] ds m Q = (Q ds m [(0, s0)]) := P_ri k76_95 rk76
set_option maxRecDepth 20000 in
theorem k76_96 : mjCode 76 96 = some (.aload 6, 2, 0, 0) := by decide +kernel
theorem p76_96 {l6 : Int} {q0 q1 q2 q3 q4 q5 q7 q8 : MV} {ds : Ds} {m : Mm} {Q : Ds → Mm → List MV → Prop} : WP 76 96 [q0, q1, q2, q3, q4, q5, (2, l6), q7, q8] [] ds m Q = (WP 76 98 [q0, q1, q2, q3, q4, q5, (2, l6), q7, q8] [(2, l6)] ds m Q) := P_nx k76_96 rfl
set_option maxRecDepth 20000 in
theorem k76_98 : mjCode 76 98 = some (.ifnull 8, 3, 106, 0) := by decide +kernel
theorem p76_98 {s0 : Int} {q0 q1 q2 q3 q4 q5 q6 q7 q8 : MV} {ds : Ds} {m : Mm} {Q : Ds → Mm → List MV → Prop} : WP 76 98 [q0, q1, q2, q3, q4, q5, q6, q7, q8] [(2, s0)] ds m Q = (if s0 < 0 then WP 76 106 [q0, q1, q2, q3, q4, q5, q6, q7, q8] [] ds m Q else WP 76 101 [q0, q1, q2, q3, q4, q5, q6, q7, q8] [] ds m Q) := P_if k76_98 rfl
set_option maxRecDepth 20000 in
theorem k76_101 : mjCode 76 101 = some (.aload 7, 2, 0, 0) := by decide +kernel
theorem p76_101 {l7 : Int} {q0 q1 q2 q3 q4 q5 q6 q8 : MV} {ds : Ds} {m : Mm} {Q : Ds → Mm → List MV → Prop} : WP 76 101 [q0, q1, q2, q3, q4, q5, q6, (2, l7), q8] [] ds m Q = (WP 76 103 [q0, q1, q2, q3, q4, q5, q6, (2, l7), q8] [(2, l7)] ds m Q) := P_nx k76_101 rfl
set_option maxRecDepth 20000 in
theorem k76_103 : mjCode 76 103 = some (.ifnonnull 10, 3, 113, 0) := by decide +kernel
theorem p76_103 {s0 : Int} {q0 q1 q2 q3 q4 q5 q6 q7 q8 : MV} {ds : Ds} {m : Mm} {Q : Ds → Mm → List MV → Prop} : WP 76 103 [q0, q1, q2, q3, q4, q5, q6, q7, q8] [(2, s0)] ds m Q = (if s0 < 0 then WP 76 106 [q0, q1, q2, q3, q4, q5, q6, q7, q8] [] ds m Q else WP 76 113 [q0, q1, q2, q3, q4, q5, q6, q7, q8] [] ds m Q) := P_if k76_103 rfl
set_option maxRecDepth 20000 in
theorem k76_106 : mjCode 76 106 = some (.aload_n 0, 1, 0, 0) := by decide +kernel
theorem p76_106 {l0 : Int} {q1 q2 q3 q4 q5 q6 q7 q8 : MV} {ds : Ds} {m : Mm} {Q : Ds → Mm → List MV → Prop} : WP 76 106 [(2, l0), q1, q2, q3, q4, q5, q6, q7, q8] [] ds m Q = (WP 76 107 [(2, l0), q1, q2, q3, q4, q5, q6, q7, q8] [(2, l0)] ds m Q) := P_nx k76_106 rfl
set_option maxRecDepth 20000 in
theorem k76_107 : mjCode 76 107 = some (.bipush (-3), 2, 0, 0) := by decide +kernel
theorem p76_107 {s0 : Int} {q0 q1 q2 q3 q4 q5 q6 q7 q8 : MV} {ds : Ds} {m : Mm} {Q : Ds → Mm → List MV → Prop} : WP 76 107 [q0, q1, q2, q3, q4, q5, q6, q7, q8] [(2, s0)] ds m Q = (WP 76 109 [q0, q1, q2, q3, q4, q5, q6, q7, q8] [(0, (-3)), (2, s0)] ds m Q) := P_nx k76_107 rfl
set_option maxRecDepth 20000 in
theorem k76_109 : mjCode 76 109 = some (.invokevirtual 73, 3, 96, 2) := by decide +kernel
theorem p76_109 {s0 s1 : Int} {q0 q1 q2 q3 q4 q5 q6 q7 q8 : MV} {ds : Ds} {m : Mm} {Q : Ds → Mm → List MV → Prop} : WP 76 109 [q0, q1, q2, q3, q4, q5, q6, q7, q8] [(0, s0), (2, s1)] ds m Q = ((dk ds s1 = 6 ∧ WP 95 0 [(2, s1), (0, s0), (3, 0)] [] ds m (fun d2 m2 r2 => WP 76 112 [q0, q1, q2, q3, q4, q5, q6, q7, q8] (r2 ++ []) d2 m2 Q))) := P_cv k76_109 mx95 mo95 rfl rfl rfl rfl rfl rfl rfl rfl
set_option maxRecDepth 20000 in
theorem k76_112 : mjCode 76 112 = some (.ireturn, 1, 0, 0) := by decide +kernel
theorem p76_112 {s0 : Int} {q0 q1 q2 q3 q4 q5 q6 q7 q8 : MV} {ds : Ds} {m : Mm} {Q : Ds → Mm → List MV → Prop} : WP 76 112 [q0, q1, q2, q3, q4, q5, q6, q7, q8] [(0, s0)] ds m Q = (Q ds m [(0, s0)]) := P_ri k76_112 rk76
set_option maxRecDepth 20000 in
theorem k76_113 : mjCode 76 113 = some (.iload 5, 2, 0, 0) := by decide +kernel
theorem p76_113 {l5 : Int} {q0 q1 q2 q3 q4 q6 q7 q8 : MV} {ds : Ds} {m : Mm} {Q : Ds → Mm → List MV → Prop} : WP 76 113 [q0, q1, q2, q3, q4, (0, l5), q6, q7, q8] [] ds m Q = (WP 76 115 [q0, q1, q2, q3, q4, (0, l5), q6, q7, q8] [(0, l5)] ds m Q) := P_nx k76_113 rfl
set_option maxRecDepth 20000 in
theorem k76_115 : mjCode 76 115 = some (.ifCond .ge 10, 3, 125, 0) := by decide +kernel
theorem p76_115 {s0 : Int} {q0 q1 q2 q3 q4 q5 q6 q7 q8 : MV} {ds : Ds} {m : Mm} {Q : Ds → Mm → List MV → Prop} : WP 76 115 [q0, q1, q2, q3, q4, q5, q6, q7, q8] [(0, s0)] ds m Q = (if s0 < 0 then WP 76 118 [q0, q1, q2, q3, q4, q5, q6, q7, q8] [] ds m Q else WP 76 125 [q0, q1, q2, q3, q4, q5, q6, q7, q8] [] ds m Q) := P_if k76_115 rfl
set_option maxRecDepth 20000 in
theorem k76_118 : mjCode 76 118 = some (.aload_n 0, 1, 0, 0) := by decide +kernel
theorem p76_118 {l0 : Int} {q1 q2 q3 q4 q5 q6 q7 q8 : MV} {ds : Ds} {m : Mm} {Q : Ds → Mm → List MV → Prop} : WP 76 118 [(2, l0), q1, q2, q3, q4, q5, q6, q7, q8] [] ds m Q = (WP 76 119 [(2, l0), q1, q2, q3, q4, q5, q6, q7, q8] [(2, l0)] ds m Q) := P_nx k76_118 rfl
set_option maxRecDepth 20000 in
theorem k76_119 : mjCode 76 119 = some (.bipush (-4), 2, 0, 0) := by decide +kernel
theorem p76_119 {s0 : Int} {q0 q1 q2 q3 q4 q5 q6 q7 q8 : MV} {ds : Ds} {m : Mm} {Q : Ds → Mm → List MV → Prop} : WP 76 119 [q0, q1, q2, q3, q4, q5, q6, q7, q8] [(2, s0)] ds m Q = (WP 76 121 [q0, q1, q2, q3, q4, q5, q6, q7, q8] [(0, (-4)), (2, s0)] ds m Q) := P_nx k76_119 rfl
set_option maxRecDepth 20000 in
theorem k76_121 : mjCode 76 121 = some (.invokevirtual 73, 3, 96, 2) := by decide +kernel
theorem p76_121 {s0 s1 : Int} {q0 q1 q2 q3 q4 q5 q6 q7 q8 : MV} {ds : Ds} {m : Mm} {Q : Ds → Mm → List MV → Prop} : WP 76 121 [q0, q1, q2, q3, q4, q5, q6, q7, q8] [(0, s0), (2, s1)] ds m Q = ((dk ds s1 = 6 ∧ WP 95 0 [(2, s1), (0, s0), (3, 0)] [] ds m (fun d2 m2 r2 => WP 76 124 [q0, q1, q2, q3, q4, q5, q6, q7, q8] (r2 ++ []) d2 m2 Q))) := P_cv k76_121 mx95 mo95 rfl rfl rfl rfl rfl rfl rfl rfl
set_option maxRecDepth 20000 in
theorem k76_124 : mjCode 76 124 = some (.ireturn, 1, 0, 0) := by decide +kernel
theorem p76_124 {s0 : Int} {q0 q1 q2 q3 q4 q5 q6 q7 q8 : MV} {ds : Ds} {m : Mm} {Q : Ds → Mm → List MV → Prop} : WP 76 124 [q0, q1, q2, q3, q4, q5, q6, q7, q8] [(0, s0)] ds m Q = (Q ds m [(0, s0)]) := P_ri k76_124 rk76
set_option maxRecDepth 20000 in
theorem k76_125 : mjCode 76 125 = some (.aload 6, 2, 0, 0) := by decide +kernel
theorem p76_125 {l6 : Int} {q0 q1 q2 q3 q4 q5 q7 q8 : MV} {ds : Ds} {m : Mm} {Q : Ds → Mm → List MV → Prop} : WP 76 125 [q0, q1, q2, q3, q4, q5, (2, l6), q7, q8] [] ds m Q = (WP 76 127 [q0, q1, q2, q3, q4, q5, (2, l6), q7, q8] [(2, l6)] ds m Q) := P_nx k76_125 rfl
set_option maxRecDepth 20000 in
theorem k76_127 : mjCode 76 127 = some (.iload_n 3, 1, 0, 0) := by decide +kernel
theorem p76_127 {l3 s0 : Int} {q0 q1 q2 q4 q5 q6 q7 q8 : MV} {ds : Ds} {m : Mm} {Q : Ds → Mm → List MV → Prop} : WP 76 127 [q0, q1, q2, (0, l3), q4, q5, q6, q7, q8] [(2, s0)] ds m Q = (WP 76 128 [q0, q1, q2, (0, l3), q4, q5, q6, q7, q8] [(0, l3), (2, s0)] ds m Q) := P_nx k76_127 rfl
set_option maxRecDepth 20000 in
theorem k76_128 : mjCode 76 128 = some (.iload 5, 2, 0, 0) := by decide +kernel
theorem p76_128 {l5 s0 s1 : Int} {q0 q1 q2 q3 q4 q6 q7 q8 : MV} {ds : Ds} {m : Mm} {Q : Ds → Mm → List MV → Prop} : WP 76 128 [q0, q1, q2, q3, q4, (0, l5), q6, q7, q8] [(0, s0), (2, s1)] ds m Q = (WP 76 130 [q0, q1, q2, q3, q4, (0, l5), q6, q7, q8] [(0, l5), (0, s0), (2, s1)] ds m Q) := P_nx k76_128 rfl
set_option maxRecDepth 20000 in
theorem k76_130 : mjCode 76 130 = some (.invokevirtual 153, 3, 46, 3) := by decide +kernel
theorem p76_130 {s0 s1 s2 : Int} {q0 q1 q2 q3 q4 q5 q6 q7 q8 : MV} {ds : Ds} {m : Mm} {Q : Ds → Mm → List MV → Prop} : WP 76 130 [q0, q1, q2, q3, q4, q5, q6, q7, q8] [(0, s0), (0, s1), (2, s2)] ds m Q = ((dk ds s2 = 4 ∧ WP 45 0 [(2, s2), (0, s1), (0, s0)] [] ds m (fun d2 m2 r2 => WP 76 133 [q0, q1, q2, q3, q4, q5, q6, q7, q8] (r2 ++ []) d2 m2 Q))) := P_cv k76_130 mx45 mo45 rfl rfl rfl rfl rfl rfl rfl rfl
set_option maxRecDepth 20000 in
theorem k76_133 : mjCode 76 133 = some (.ifCond .eq 15, 3, 148, 0) := by decide +kernel
theorem p76_133 {s0 : Int} {q0 q1 q2 q3 q4 q5 q6 q7 q8 : MV} {ds : Ds} {m : Mm} {Q : Ds → Mm → List MV → Prop} : WP 76 133 [q0, q1, q2, q3, q4, q5, q6, q7, q8] [(0, s0)] ds m Q = (if s0 = 0 then WP 76 148 [q0, q1, q2, q3, q4, q5, q6, q7, q8] [] ds m Q else WP 76 136 [q0, q1, q2, q3, q4, q5, q6, q7, q8] [] ds m Q) := P_if k76_133 rfl
set_option maxRecDepth 20000 in
theorem k76_136 : mjCode 76 136 = some (.aload 7, 2, 0, 0) := by decide +kernel
theorem p76_136 {l7 : Int} {q0 q1 q2 q3 q4 q5 q6 q8 : MV} {ds : Ds} {m : Mm} {Q : Ds → Mm → List MV → Prop} : WP 76 136 [q0, q1, q2, q3, q4, q5, q6, (2, l7), q8] [] ds m Q = (WP 76 138 [q0, q1, q2, q3, q4, q5, q6, (2, l7), q8] [(2, l7)] ds m Q) := P_nx k76_136 rfl
set_option maxRecDepth 20000 in
theorem k76_138 : mjCode 76 138 = some (.iload 4, 2, 0, 0) := by decide +kernel
theorem p76_138 {l4 s0 : Int} {q0 q1 q2 q3 q5 q6 q7 q8 : MV} {ds : Ds} {m : Mm} {Q : Ds → Mm → List MV → Prop} : WP 76 138 [q0, q1, q2, q3, (0, l4), q5, q6, q7, q8] [(2, s0)] ds m Q = (WP 76 140 [q0, q1, q2, q3, (0, l4), q5, q6, q7, q8] [(0, l4), (2, s0)] ds m Q) := P_nx k76_138 rfl
set_option maxRecDepth 20000 in
theorem k76_140 : mjCode 76 140 = some (.iload 5, 2, 0, 0) := by decide +kernel
theorem p76_140 {l5 s0 s1 : Int} {q0 q1 q2 q3 q4 q6 q7 q8 : MV} {ds : Ds} {m : Mm} {Q : Ds → Mm → List MV → Prop} : WP 76 140 [q0, q1, q2, q3, q4, (0, l5), q6, q7, q8] [(0, s0), (2, s1)] ds m Q = (WP 76 142 [q0, q1, q2, q3, q4, (0, l5), q6, q7, q8] [(0, l5), (0, s0), (2, s1)] ds m Q) := P_nx k76_140 rfl
set_option maxRecDepth 20000 in
theorem k76_142 : mjCode 76 142 = some (.invokevirtual 153, 3, 46, 3) := by decide +kernel
theorem p76_142 {s0 s1 s2 : Int} {q0 q1 q2 q3 q4 q5 q6 q7 q8 : MV} {ds : Ds} {m : Mm} {Q : Ds → Mm → List MV → Prop} : WP 76 142 [q0, q1, q2, q3, q4, q5, q6, q7, q8] [(0, s0), (0, s1), (2, s2)] ds m Q = ((dk ds s2 = 4 ∧ WP 45 0 [(2, s2), (0, s1), (0, s0)] [] ds m (fun d2 m2 r2 => WP 76 145 [q0, q1, q2, q3, q4, q5, q6, q7, q8] (r2 ++ []) d2 m2 Q))) := P_cv k76_142 mx45 mo45 rfl rfl rfl rfl rfl rfl rfl rfl
set_option maxRecDepth 20000 in
theorem k76_145 : mjCode 76 145 = some (.ifCond .ne 10, 3, 155, 0) := by decide +kernel
theorem p76_145 {s0 : Int} {q0 q1 q2 q3 q4 q5 q6 q7 q8 : MV} {ds : Ds} {m : Mm} {Q : Ds → Mm → List MV → Prop} : WP 76 145 [q0, q1, q2, q3, q4, q5, q6, q7, q8] [(0, s0)] ds m Q = (if s0 = 0 then WP 76 148 [q0, q1, q2, q3, q4, q5, q6, q7, q8] [] ds m Q else WP 76 155 [q0, q1, q2, q3, q4, q5, q6, q7, q8] [] ds m Q) := P_if k76_145 rfl
set_option maxRecDepth 20000 in
theorem k76_148 : mjCode 76 148 = some (.aload_n 0, 1, 0, 0) := by decide +kernel
theorem p76_148 {l0 : Int} {q1 q2 q3 q4 q5 q6 q7 q8 : MV} {ds : Ds} {m : Mm} {Q : Ds → Mm → List MV → Prop} : WP 76 148 [(2, l0), q1, q2, q3, q4, q5, q6, q7, q8] [] ds m Q = (WP 76 149 [(2, l0), q1, q2, q3, q4, q5, q6, q7, q8] [(2, l0)] ds m Q) := P_nx k76_148 rfl
set_option maxRecDepth 20000 in
theorem k76_149 : mjCode 76 149 = some (.bipush (-5), 2, 0, 0) := by decide +kernel
theorem p76_149 {s0 : Int} {q0 q1 q2 q3 q4 q5 q6 q7 q8 : MV} {ds : Ds} {m : Mm} {Q : Ds → Mm → List MV → Prop} : WP 76 149 [q0, q1, q2, q3, q4, q5, q6, q7, q8] [(2, s0)] ds m Q = (WP 76 151 [q0, q1, q2, q3, q4, q5, q6, q7, q8] [(0, (-5)), (2, s0)] ds m Q) := P_nx k76_149 rfl
set_option maxRecDepth 20000 in
theorem k76_151 : mjCode 76 151 = some (.invokevirtual 73, 3, 96, 2) := by decide +kernel
theorem p76_151 {s0 s1 : Int} {q0 q1 q2 q3 q4 q5 q6 q7 q8 : MV} {ds : Ds} {m : Mm} {Q : Ds → Mm → List MV → Prop} : WP 76 151 [q0, q1, q2, q3, q4, q5, q6, q7, q8] [(0, s0), (2, s1)] ds m Q = ((dk ds s1 = 6 ∧ WP 95 0 [(2, s1), (0, s0), (3, 0)] [] ds m (fun d2 m2 r2 => WP 76 154 [q0, q1, q2, q3, q4, q5, q6, q7, q8] (r2 ++ []) d2 m2 Q))) := P_cv k76_151 mx95 mo95 rfl rfl rfl rfl rfl rfl rfl rfl
set_option maxRecDepth 20000 in
theorem k76_154 : mjCode 76 154 = some (.ireturn, 1, 0, 0) := by decide +kernel
theorem p76_154 {s0 : Int} {q0 q1 q2 q3 q4 q5 q6 q7 q8 : MV} {ds : Ds} {m : Mm} {Q : Ds → Mm → List MV → Prop} : WP 76 154 [q0, q1, q2, q3, q4, q5, q6, q7, q8] [(0, s0)] ds m Q = (Q ds m [(0, s0)]) := P_ri k76_154 rk76
set_option maxRecDepth 20000 in
theorem k76_155 : mjCode 76 155 = some (.aload 6, 2, 0, 0) := by decide +kernel
theorem p76_155 {l6 : Int} {q0 q1 q2 q3 q4 q5 q7 q8 : MV} {ds : Ds} {m : Mm} {Q : Ds → Mm → List MV → Prop} : WP 76 155 [q0, q1, q2, q3, q4, q5, (2, l6), q7, q8] [] ds m Q = (WP 76 157 [q0, q1, q2, q3, q4, q5, (2, l6), q7, q8] [(2, l6)] ds m Q) := P_nx k76_155 rfl
set_option maxRecDepth 20000 in
theorem k76_157 : mjCode 76 157 = some (.getfield 164, 3, 4, 1) := by decide +kernel
theorem p76_157 {s0 : Int} {q0 q1 q2 q3 q4 q5 q6 q7 q8 : MV} {ds : Ds} {m : Mm} {Q : Ds → Mm → List MV → Prop} : WP 76 157 [q0, q1, q2, q3, q4, q5, q6, q7, q8] [(2, s0)] ds m Q = ((dk ds s0 = 4 ∧ WP 76 160 [q0, q1, q2, q3, q4, q5, q6, q7, q8] [(2, m s0 1)] ds m Q)) := P_gd k76_157 rfl
set_option maxRecDepth 20000 in
theorem k76_160 : mjCode 76 160 = some (.iload_n 3, 1, 0, 0) := by decide +kernel
theorem p76_160 {l3 s0 : Int} {q0 q1 q2 q4 q5 q6 q7 q8 : MV} {ds : Ds} {m : Mm} {Q : Ds → Mm → List MV → Prop} : WP 76 160 [q0, q1, q2, (0, l3), q4, q5, q6, q7, q8] [(2, s0)] ds m Q = (WP 76 161 [q0, q1, q2, (0, l3), q4, q5, q6, q7, q8] [(0, l3), (2, s0)] ds m Q) := P_nx k76_160 rfl
set_option maxRecDepth 20000 in
theorem k76_161 : mjCode 76 161 = some (.aload 7, 2, 0, 0) := by decide +kernel
theorem p76_161 {l7 s0 s1 : Int} {q0 q1 q2 q3 q4 q5 q6 q8 : MV} {ds : Ds} {m : Mm} {Q : Ds → Mm → List MV → Prop} : WP 76 161 [q0, q1, q2, q3, q4, q5, q6, (2, l7), q8] [(0, s0), (2, s1)] ds m Q = (WP 76 163 [q0, q1, q2, q3, q4, q5, q6, (2, l7), q8] [(2, l7), (0, s0), (2, s1)] ds m Q) := P_nx k76_161 rfl
set_option maxRecDepth 20000 in
theorem k76_163 : mjCode 76 163 = some (.getfield 164, 3, 4, 1) := by decide +kernel
theorem p76_163 {s0 s1 s2 : Int} {q0 q1 q2 q3 q4 q5 q6 q7 q8 : MV} {ds : Ds} {m : Mm} {Q : Ds → Mm → List MV → Prop} : WP 76 163 [q0, q1, q2, q3, q4, q5, q6, q7, q8] [(2, s0), (0, s1), (2, s2)] ds m Q = ((dk ds s0 = 4 ∧ WP 76 166 [q0, q1, q2, q3, q4, q5, q6, q7, q8] [(2, m s0 1), (0, s1), (2, s2)] ds m Q)) := P_gd k76_163 rfl
set_option maxRecDepth 20000 in
theorem k76_166 : mjCode 76 166 = some (.iload 4, 2, 0, 0) := by decide +kernel
theorem p76_166 {l4 s0 s1 s2 : Int} {q0 q1 q2 q3 q5 q6 q7 q8 : MV} {ds : Ds} {m : Mm} {Q : Ds → Mm → List MV → Prop} : WP 76 166 [q0, q1, q2, q3, (0, l4), q5, q6, q7, q8] [(2, s0), (0, s1), (2, s2)] ds m Q = (WP 76 168 [q0, q1, q2, q3, (0, l4), q5, q6, q7, q8] [(0, l4), (2, s0), (0, s1), (2, s2)] ds m Q) := P_nx k76_166 rfl
set_option maxRecDepth 20000 in
theorem k76_168 : mjCode 76 168 = some (.iload 5, 2, 0, 0) := by decide +kernel
theorem p76_168 {l5 s0 s1 s2 s3 : Int} {q0 q1 q2 q3 q4 q6 q7 q8 : MV} {ds : Ds} {m : Mm} {Q : Ds → Mm → List MV → Prop} : WP 76 168 [q0, q1, q2, q3, q4, (0, l5), q6, q7, q8] [(0, s0), (2, s1), (0, s2), (2, s3)] ds m Q = (WP 76 170 [q0, q1, q2, q3, q4, (0, l5), q6, q7, q8] [(0, l5), (0, s0), (2, s1), (0, s2), (2, s3)] ds m Q) := P_nx k76_168 rfl
set_option maxRecDepth 20000 in
theorem k76_170 : mjCode 76 170 = some (.invokestatic 168, 3, 1000, 5) := by decide +kernel
theorem p76_170 {s0 s1 s2 s3 s4 : Int} {q0 q1 q2 q3 q4 q5 q6 q7 q8 : MV} {ds : Ds} {m : Mm} {Q : Ds → Mm → List MV → Prop} : WP 76 170 [q0, q1, q2, q3, q4, q5, q6, q7, q8] [(0, s0), (0, s1), (2, s2), (0, s3), (2, s4)] ds m Q = (((dk ds s4 = 12 ∧ dk ds s2 = 12 ∧ 0 ≤ s0 ∧ 0 ≤ s3 ∧ 0 ≤ s1 ∧ s3 + s0 ≤ dl ds s4 ∧ s1 + s0 ≤ dl ds s2 ∧ ([].map cat).sum ≤ 8) ∧ WP 76 173 [q0, q1, q2, q3, q4, q5, q6, q7, q8] [] ds (cpy m s4 s3 s2 s1 s0) Q)) := P_gd k76_170 rfl
set_option maxRecDepth 20000 in
theorem k76_173 : mjCode 76 173 = some (.iconst 1, 1, 0, 0) := by decide +kernel
theorem p76_173 {q0 q1 q2 q3 q4 q5 q6 q7 q8 : MV} {ds : Ds} {m : Mm} {Q : Ds → Mm → List MV → Prop} : WP 76 173 [q0, q1, q2, q3, q4, q5, q6, q7, q8] [] ds m Q = (WP 76 174 [q0, q1, q2, q3, q4, q5, q6, q7, q8] [(0, 1)] ds m Q) := P_nx k76_173 rfl
set_option maxRecDepth 20000 in
theorem k76_174 : mjCode 76 174 = some (.ireturn, 1, 0, 0) := by decide +kernel
theorem p76_174 {s0 : Int} {q0 q1 q2 q3 q4 q5 q6 q7 q8 : MV} {ds : Ds} {m : Mm} {Q : Ds → Mm → List MV → Prop} : WP 76 174 [q0, q1, q2, q3, q4, q5, q6, q7, q8] [(0, s0)] ds m Q = (Q ds m [(0, s0)]) := P_ri k76_174 rk76
set_option maxRecDepth 20000 in
theorem k77_0 : mjCode 77 0 = some (.aload_n 0, 1, 0, 0) := by decide +kernel
theorem p77_0 {l0 : Int} {q1 q2 q3 : MV} {ds : Ds} {m : Mm} {Q : Ds → Mm → List MV → Prop} : WP 77 0 [(2, l0), q1, q2, q3] [] ds m Q = (WP 77 1 [(2, l0), q1, q2, q3] [(2, l0)] ds m Q) := P_nx k77_0 rfl
set_option maxRecDepth 20000 in
theorem k77_1 : mjCode 77 1 = some (.iload_n 1, 1, 0, 0) := by decide +kernel
theorem p77_1 {l1 s0 : Int} {q0 q2 q3 : MV} {ds : Ds} {m : Mm} {Q : Ds → Mm → List MV → Prop} : WP 77 1 [q0, (0, l1), q2, q3] [(2, s0)] ds m Q = (WP 77 2 [q0, (0, l1), q2, q3] [(0, l1), (2, s0)] ds m Q) := P_nx k77_1 rfl
set_option maxRecDepth 20000 in
theorem k77_2 : mjCode 77 2 = some (.invokevirtual 146, 3, 97, 2) := by decide +kernel
theorem p77_2 {s0 s1 : Int} {q0 q1 q2 q3 : MV} {ds : Ds} {m : Mm} {Q : Ds → Mm → List MV → Prop} : WP 77 2 [q0, q1, q2, q3] [(0, s0), (2, s1)] ds m Q = ((dk ds s1 = 6 ∧ WP 96 0 [(2, s1), (0, s0)] [] ds m (fun d2 m2 r2 => WP 77 5 [q0, q1, q2, q3] (r2 ++ []) d2 m2 Q))) := P_cv k77_2 mx96 mo96 rfl rfl rfl rfl rfl rfl rfl rfl
set_option maxRecDepth 20000 in
theorem k77_5 : mjCode 77 5 = some (.astore_n 3, 1, 0, 0) := by decide +kernel
theorem p77_5 {l2 s0 : Int} {q0 q1 q3 : MV} {ds : Ds} {m : Mm} {Q : Ds → Mm → List MV → Prop} : WP 77 5 [q0, q1, (0, l2), q3] [(2, s0)] ds m Q = (WP 77 6 [q0, q1, (0, l2), (2, s0)] [] ds m Q) := P_nx k77_5 rfl
set_option maxRecDepth 20000 in
theorem k77_6 : mjCode 77 6 = some (.aload_n 3, 1, 0, 0) := by decide +kernel
theorem p77_6 {l3 : Int} {q0 q1 q2 : MV} {ds : Ds} {m : Mm} {Q : Ds → Mm → List MV → Prop} : WP 77 6 [q0, q1, q2, (2, l3)] [] ds m Q = (WP 77 7 [q0, q1, q2, (2, l3)] [(2, l3)] ds m Q) := P_nx k77_6 rfl
set_option maxRecDepth 20000 in
theorem k77_7 : mjCode 77 7 = some (.ifnonnull 7, 3, 14, 0) := by decide +kernel
theorem p77_7 {s0 : Int} {q0 q1 q2 q3 : MV} {ds : Ds} {m : Mm} {Q : Ds → Mm → List MV → Prop} : WP 77 7 [q0, q1, q2, q3] [(2, s0)] ds m Q = (if s0 < 0 then WP 77 10 [q0, q1, q2, q3] [] ds m Q else WP 77 14 [q0, q1, q2, q3] [] ds m Q) := P_if k77_7 rfl
set_option maxRecDepth 20000 in
theorem k77_10 : mjCode 77 10 = some (.lconst 0, 1, 0, 0) := by decide +kernel
theorem p77_10 {q0 q1 q2 q3 : MV} {ds : Ds} {m : Mm} {Q : Ds → Mm → List MV → Prop} : WP 77 10 [q0, q1, q2, q3] [] ds m Q = (WP 77 11 [q0, q1, q2, q3] [(1, 0)] ds m Q) := P_nx k77_10 rfl
set_option maxRecDepth 20000 in
theorem k77_11 : mjCode 77 11 = some (.goto 8, 3, 19, 0) := by decide +kernel
theorem p77_11 {s0 : Int} {q0 q1 q2 q3 : MV} {ds : Ds} {m : Mm} {Q : Ds → Mm → List MV → Prop} : WP 77 11 [q0, q1, q2, q3] [(1, s0)] ds m Q = (WP 77 19 [q0, q1, q2, q3] [(1, s0)] ds m Q) := P_nx k77_11 rfl
set_option maxRecDepth 20000 in
theorem k77_14 : mjCode 77 14 = some (.aload_n 3, 1, 0, 0) := by decide +kernel
theorem p77_14 {l3 : Int} {q0 q1 q2 : MV} {ds : Ds} {m : Mm} {Q : Ds → Mm → List MV → Prop} : WP 77 14 [q0, q1, q2, (2, l3)] [] ds m Q = (WP 77 15 [q0, q1, q2, (2, l3)] [(2, l3)] ds m Q) := P_nx k77_14 rfl
set_option maxRecDepth 20000 in
theorem k77_15 : mjCode 77 15 = some (.iload_n 2, 1, 0, 0) := by decide +kernel
theorem p77_15 {l2 s0 : Int} {q0 q1 q3 : MV} {ds : Ds} {m : Mm} {Q : Ds → Mm → List MV → Prop} : WP 77 15 [q0, q1, (0, l2), q3] [(2, s0)] ds m Q = (WP 77 16 [q0, q1, (0, l2), q3] [(0, l2), (2, s0)] ds m Q) := P_nx k77_15 rfl
set_option maxRecDepth 20000 in
theorem k77_16 : mjCode 77 16 = some (.invokevirtual 174, 3, 48, 2) := by decide +kernel
theorem p77_16 {s0 s1 : Int} {q0 q1 q2 q3 : MV} {ds : Ds} {m : Mm} {Q : Ds → Mm → List MV → Prop} : WP 77 16 [q0, q1, q2, q3] [(0, s0), (2, s1)] ds m Q = ((dk ds s1 = 4 ∧ WP 47 0 [(2, s1), (0, s0)] [] ds m (fun d2 m2 r2 => WP 77 19 [q0, q1, q2, q3] (r2 ++ []) d2 m2 Q))) := P_cv k77_16 mx47 mo47 rfl rfl rfl rfl rfl rfl rfl rfl
set_option maxRecDepth 20000 in
theorem k77_19 : mjCode 77 19 = some (.lreturn, 1, 0, 0) := by decide +kernel
theorem p77_19 {s0 : Int} {q0 q1 q2 q3 : MV} {ds : Ds} {m : Mm} {Q : Ds → Mm → List MV → Prop} : WP 77 19 [q0, q1, q2, q3] [(1, s0)] ds m Q = (Q ds m [(1, s0)]) := P_rl k77_19 rk77
set_option maxRecDepth 20000 in
theorem k78_0 : mjCode 78 0 = some (.iload_n 1, 1, 0, 0) := by decide +kernel
theorem p78_0 {l1 : Int} {q0 q2 : MV} {ds : Ds} {m : Mm} {Q : Ds → Mm → List MV → Prop} : WP 78 0 [q0, (0, l1), q2] [] ds m Q = (WP 78 1 [q0, (0, l1), q2] [(0, l1)] ds m Q) := P_nx k78_0 rfl
set_option maxRecDepth 20000 in
theorem k78_1 : mjCode 78 1 = some (.invokestatic 140, 3, 110, 1) := by decide +kernel
theorem p78_1 {s0 : Int} {q0 q1 q2 : MV} {ds : Ds} {m : Mm} {Q : Ds → Mm → List MV → Prop} : WP 78 1 [q0, q1, q2] [(0, s0)] ds m Q = (WP 109 0 [(0, s0)] [] ds m (fun d2 m2 r2 => WP 78 4 [q0, q1, q2] (r2 ++ []) d2 m2 Q)) := P_cs k78_1 mx109 rfl rfl rfl rfl rfl rfl rfl
set_option maxRecDepth 20000 in
theorem k78_4 : mjCode 78 4 = some (.ifCond .ne 5, 3, 9, 0) := by decide +kernel
theorem p78_4 {s0 : Int} {q0 q1 q2 : MV} {ds : Ds} {m : Mm} {Q : Ds → Mm → List MV → Prop} : WP 78 4 [q0, q1, q2] [(0, s0)] ds m Q = (if s0 = 0 then WP 78 7 [q0, q1, q2] [] ds m Q else WP 78 9 [q0, q1, q2] [] ds m Q) := P_if k78_4 rfl
set_option maxRecDepth 20000 in
theorem k78_7 : mjCode 78 7 = some (.iconst (-1), 1, 0, 0) := by decide +kernel
theorem p78_7 {q0 q1 q2 : MV} {ds : Ds} {m : Mm} {Q : Ds → Mm → List MV → Prop} : WP 78 7 [q0, q1, q2] [] ds m Q = (WP 78 8 [q0, q1, q2] [(0, (-1))] ds m Q) := P_nx k78_7 rfl
set_option maxRecDepth 20000 in
theorem k78_8 : mjCode 78 8 = some (.ireturn, 1, 0, 0) := by decide +kernel
theorem p78_8 {s0 : Int} {q0 q1 q2 : MV} {ds : Ds} {m : Mm} {Q : Ds → Mm → List MV → Prop} : WP 78 8 [q0, q1, q2] [(0, s0)] ds m Q = (Q ds m [(0, s0)]) := P_ri k78_8 rk78
set_option maxRecDepth 20000 in
theorem k78_9 : mjCode 78 9 = some (.aload_n 0, 1, 0, 0) := by decide +kernel
theorem p78_9 {l0 : Int} {q1 q2 : MV} {ds : Ds} {m : Mm} {Q : Ds → Mm → List MV → Prop} : WP 78 9 [(2, l0), q1, q2] [] ds m Q = (WP 78 10 [(2, l0), q1, q2] [(2, l0)] ds m Q) := P_nx k78_9 rfl
set_option maxRecDepth 20000 in
theorem k78_10 : mjCode 78 10 = some (.getfield 17, 3, 6, 3) := by decide +kernel
theorem p78_10 {s0 : Int} {q0 q1 q2 : MV} {ds : Ds} {m : Mm} {Q : Ds → Mm → List MV → Prop} : WP 78 10 [q0, q1, q2] [(2, s0)] ds m Q = ((dk ds s0 = 6 ∧ WP 78 13 [q0, q1, q2] [(2, m s0 3)] ds m Q)) := P_gd k78_10 rfl
set_option maxRecDepth 20000 in
theorem k78_13 : mjCode 78 13 = some (.iload_n 1, 1, 0, 0) := by decide +kernel
theorem p78_13 {l1 s0 : Int} {q0 q2 : MV} {ds : Ds} {m : Mm} {Q : Ds → Mm → List MV → Prop} : WP 78 13 [q0, (0, l1), q2] [(2, s0)] ds m Q = (WP 78 14 [q0, (0, l1), q2] [(0, l1), (2, s0)] ds m Q) := P_nx k78_13 rfl
set_option maxRecDepth 20000 in
theorem k78_14 : mjCode 78 14 = some (.aaload, 1, 0, 0) := by decide +kernel
theorem p78_14 {s0 s1 : Int} {q0 q1 q2 : MV} {ds : Ds} {m : Mm} {Q : Ds → Mm → List MV → Prop} : WP 78 14 [q0, q1, q2] [(0, s0), (2, s1)] ds m Q = (((dk ds s1 = 13 ∨ dk ds s1 = 14) ∧ 0 ≤ s0 ∧ s0 < dl ds s1 ∧ WP 78 15 [q0, q1, q2] [(2, m s1 s0)] ds m Q)) := P_g3 k78_14 rfl
set_option maxRecDepth 20000 in
theorem k78_15 : mjCode 78 15 = some (.ifnull 5, 3, 20, 0) := by decide +kernel
theorem p78_15 {s0 : Int} {q0 q1 q2 : MV} {ds : Ds} {m : Mm} {Q : Ds → Mm → List MV → Prop} : WP 78 15 [q0, q1, q2] [(2, s0)] ds m Q = (if s0 < 0 then WP 78 20 [q0, q1, q2] [] ds m Q else WP 78 18 [q0, q1, q2] [] ds m Q) := P_if k78_15 rfl
set_option maxRecDepth 20000 in
theorem k78_18 : mjCode 78 18 = some (.iconst 0, 1, 0, 0) := by decide +kernel
theorem p78_18 {q0 q1 q2 : MV} {ds : Ds} {m : Mm} {Q : Ds → Mm → List MV → Prop} : WP 78 18 [q0, q1, q2] [] ds m Q = (WP 78 19 [q0, q1, q2] [(0, 0)] ds m Q) := P_nx k78_18 rfl
set_option maxRecDepth 20000 in
theorem k78_19 : mjCode 78 19 = some (.ireturn, 1, 0, 0) := by decide +kernel
theorem p78_19 {s0 : Int} {q0 q1 q2 : MV} {ds : Ds} {m : Mm} {Q : Ds → Mm → List MV → Prop} : WP 78 19 [q0, q1, q2] [(0, s0)] ds m Q = (Q ds m [(0, s0)]) := P_ri k78_19 rk78
set_option maxRecDepth 20000 in
theorem k78_20 : mjCode 78 20 = some (.aload_n 0, 1, 0, 0) := by decide +kernel
theorem p78_20 {l0 : Int} {q1 q2 : MV} {ds : Ds} {m : Mm} {Q : Ds → Mm → List MV → Prop} : WP 78 20 [(2, l0), q1, q2] [] ds m Q = (WP 78 21 [(2, l0), q1, q2] [(2, l0)] ds m Q) := P_nx k78_20 rfl
set_option maxRecDepth 20000 in
theorem k78_21 : mjCode 78 21 = some (.getfield 11, 3, 6, 2) := by decide +kernel
theorem p78_21 {s0 : Int} {q0 q1 q2 : MV} {ds : Ds} {m : Mm} {Q : Ds → Mm → List MV → Prop} : WP 78 21 [q0, q1, q2] [(2, s0)] ds m Q = ((dk ds s0 = 6 ∧ WP 78 24 [q0, q1, q2] [(2, m s0 2)] ds m Q)) := P_gd k78_21 rfl
set_option maxRecDepth 20000 in
theorem k78_24 : mjCode 78 24 = some (.iload_n 1, 1, 0, 0) := by decide +kernel
theorem p78_24 {l1 s0 : Int} {q0 q2 : MV} {ds : Ds} {m : Mm} {Q : Ds → Mm → List MV → Prop} : WP 78 24 [q0, (0, l1), q2] [(2, s0)] ds m Q = (WP 78 25 [q0, (0, l1), q2] [(0, l1), (2, s0)] ds m Q) := P_nx k78_24 rfl
set_option maxRecDepth 20000 in
theorem k78_25 : mjCode 78 25 = some (.aaload, 1, 0, 0) := by decide +kernel
theorem p78_25 {s0 s1 : Int} {q0 q1 q2 : MV} {ds : Ds} {m : Mm} {Q : Ds → Mm → List MV → Prop} : WP 78 25 [q0, q1, q2] [(0, s0), (2, s1)] ds m Q = (((dk ds s1 = 13 ∨ dk ds s1 = 14) ∧ 0 ≤ s0 ∧ s0 < dl ds s1 ∧ WP 78 26 [q0, q1, q2] [(2, m s1 s0)] ds m Q)) := P_g3 k78_25 rfl
set_option maxRecDepth 20000 in
theorem k78_26 : mjCode 78 26 = some (.astore_n 2, 1, 0, 0) := by decide +kernel
theorem p78_26 {l1 s0 : Int} {q0 q2 : MV} {ds : Ds} {m : Mm} {Q : Ds → Mm → List MV → Prop} : WP 78 26 [q0, (0, l1), q2] [(2, s0)] ds m Q = (WP 78 27 [q0, (0, l1), (2, s0)] [] ds m Q) := P_nx k78_26 rfl
set_option maxRecDepth 20000 in
theorem k78_27 : mjCode 78 27 = some (.aload_n 2, 1, 0, 0) := by decide +kernel
theorem p78_27 {l2 : Int} {q0 q1 : MV} {ds : Ds} {m : Mm} {Q : Ds → Mm → List MV → Prop} : WP 78 27 [q0, q1, (2, l2)] [] ds m Q = (WP 78 28 [q0, q1, (2, l2)] [(2, l2)] ds m Q) := P_nx k78_27 rfl
set_option maxRecDepth 20000 in
theorem k78_28 : mjCode 78 28 = some (.ifnonnull 7, 3, 35, 0) := by decide +kernel
theorem p78_28 {s0 : Int} {q0 q1 q2 : MV} {ds : Ds} {m : Mm} {Q : Ds → Mm → List MV → Prop} : WP 78 28 [q0, q1, q2] [(2, s0)] ds m Q = (if s0 < 0 then WP 78 31 [q0, q1, q2] [] ds m Q else WP 78 35 [q0, q1, q2] [] ds m Q) := P_if k78_28 rfl
set_option maxRecDepth 20000 in
theorem k78_31 : mjCode 78 31 = some (.iconst (-1), 1, 0, 0) := by decide +kernel
theorem p78_31 {q0 q1 q2 : MV} {ds : Ds} {m : Mm} {Q : Ds → Mm → List MV → Prop} : WP 78 31 [q0, q1, q2] [] ds m Q = (WP 78 32 [q0, q1, q2] [(0, (-1))] ds m Q) := P_nx k78_31 rfl
set_option maxRecDepth 20000 in
theorem k78_32 : mjCode 78 32 = some (.goto 10, 3, 42, 0) := by decide +kernel
theorem p78_32 {s0 : Int} {q0 q1 q2 : MV} {ds : Ds} {m : Mm} {Q : Ds → Mm → List MV → Prop} : WP 78 32 [q0, q1, q2] [(0, s0)] ds m Q = (WP 78 42 [q0, q1, q2] [(0, s0)] ds m Q) := P_nx k78_32 rfl
set_option maxRecDepth 20000 in
theorem k78_35 : mjCode 78 35 = some (.bipush 100, 2, 0, 0) := by decide +kernel
theorem p78_35 {q0 q1 q2 : MV} {ds : Ds} {m : Mm} {Q : Ds → Mm → List MV → Prop} : WP 78 35 [q0, q1, q2] [] ds m Q = (WP 78 37 [q0, q1, q2] [(0, 100)] ds m Q) := P_nx k78_35 rfl
set_option maxRecDepth 20000 in
theorem k78_37 : mjCode 78 37 = some (.aload_n 2, 1, 0, 0) := by decide +kernel
theorem p78_37 {l2 s0 : Int} {q0 q1 : MV} {ds : Ds} {m : Mm} {Q : Ds → Mm → List MV → Prop} : WP 78 37 [q0, q1, (2, l2)] [(0, s0)] ds m Q = (WP 78 38 [q0, q1, (2, l2)] [(2, l2), (0, s0)] ds m Q) := P_nx k78_37 rfl
set_option maxRecDepth 20000 in
theorem k78_38 : mjCode 78 38 = some (.getfield 161, 3, 4, 0) := by decide +kernel
theorem p78_38 {s0 s1 : Int} {q0 q1 q2 : MV} {ds : Ds} {m : Mm} {Q : Ds → Mm → List MV → Prop} : WP 78 38 [q0, q1, q2] [(2, s0), (0, s1)] ds m Q = ((dk ds s0 = 4 ∧ WP 78 41 [q0, q1, q2] [(0, m s0 0), (0, s1)] ds m Q)) := P_gd k78_38 rfl
set_option maxRecDepth 20000 in
theorem k78_41 : mjCode 78 41 = some (.iadd, 1, 0, 0) := by decide +kernel
theorem p78_41 {s0 s1 : Int} {q0 q1 q2 : MV} {ds : Ds} {m : Mm} {Q : Ds → Mm → List MV → Prop} : WP 78 41 [q0, q1, q2] [(0, s0), (0, s1)] ds m Q = (WP 78 42 [q0, q1, q2] [(0, w32 (s1 + s0))] ds m Q) := P_nx k78_41 rfl
set_option maxRecDepth 20000 in
theorem k78_42 : mjCode 78 42 = some (.ireturn, 1, 0, 0) := by decide +kernel
theorem p78_42 {s0 : Int} {q0 q1 q2 : MV} {ds : Ds} {m : Mm} {Q : Ds → Mm → List MV → Prop} : WP 78 42 [q0, q1, q2] [(0, s0)] ds m Q = (Q ds m [(0, s0)]) := P_ri k78_42 rk78
set_option maxRecDepth 20000 in
theorem k79_0 : mjCode 79 0 = some (.aload_n 0, 1, 0, 0) := by decide +kernel
theorem p79_0 {l0 : Int} {q1 q2 q3 q4 : MV} {ds : Ds} {m : Mm} {Q : Ds → Mm → List MV → Prop} : WP 79 0 [(2, l0), q1, q2, q3, q4] [] ds m Q = (WP 79 1 [(2, l0), q1, q2, q3, q4] [(2, l0)] ds m Q) := P_nx k79_0 rfl
set_option maxRecDepth 20000 in
theorem k79_1 : mjCode 79 1 = some (.iload_n 1, 1, 0, 0) := by decide +kernel
theorem p79_1 {l1 s0 : Int} {q0 q2 q3 q4 : MV} {ds : Ds} {m : Mm} {Q : Ds → Mm → List MV → Prop} : WP 79 1 [q0, (0, l1), q2, q3, q4] [(2, s0)] ds m Q = (WP 79 2 [q0, (0, l1), q2, q3, q4] [(0, l1), (2, s0)] ds m Q) := P_nx k79_1 rfl
set_option maxRecDepth 20000 in
theorem k79_2 : mjCode 79 2 = some (.invokevirtual 146, 3, 97, 2) := by decide +kernel
theorem p79_2 {s0 s1 : Int} {q0 q1 q2 q3 q4 : MV} {ds : Ds} {m : Mm} {Q : Ds → Mm → List MV → Prop} : WP 79 2 [q0, q1, q2, q3, q4] [(0, s0), (2, s1)] ds m Q = ((dk ds s1 = 6 ∧ WP 96 0 [(2, s1), (0, s0)] [] ds m (fun d2 m2 r2 => WP 79 5 [q0, q1, q2, q3, q4] (r2 ++ []) d2 m2 Q))) := P_cv k79_2 mx96 mo96 rfl rfl rfl rfl rfl rfl rfl rfl
set_option maxRecDepth 20000 in
theorem k79_5 : mjCode 79 5 = some (.astore_n 2, 1, 0, 0) := by decide +kernel
theorem p79_5 {l1 s0 : Int} {q0 q2 q3 q4 : MV} {ds : Ds} {m : Mm} {Q : Ds → Mm → List MV → Prop} : WP 79 5 [q0, (0, l1), q2, q3, q4] [(2, s0)] ds m Q = (WP 79 6 [q0, (0, l1), (2, s0), q3, q4] [] ds m Q) := P_nx k79_5 rfl
set_option maxRecDepth 20000 in
theorem k79_6 : mjCode 79 6 = some (.aload_n 2, 1, 0, 0) := by decide +kernel
theorem p79_6 {l2 : Int} {q0 q1 q3 q4 : MV} {ds : Ds} {m : Mm} {Q : Ds → Mm → List MV → Prop} : WP 79 6 [q0, q1, (2, l2), q3, q4] [] ds m Q = (WP 79 7 [q0, q1, (2, l2), q3, q4] [(2, l2)] ds m Q) := P_nx k79_6 rfl
set_option maxRecDepth 20000 in
theorem k79_7 : mjCode 79 7 = some (.ifnonnull 13, 3, 20, 0) := by decide +kernel
theorem p79_7 {s0 : Int} {q0 q1 q2 q3 q4 : MV} {ds : Ds} {m : Mm} {Q : Ds → Mm → List MV → Prop} : WP 79 7 [q0, q1, q2, q3, q4] [(2, s0)] ds m Q = (if s0 < 0 then WP 79 10 [q0, q1, q2, q3, q4] [] ds m Q else WP 79 20 [q0, q1, q2, q3, q4] [] ds m Q) := P_if k79_7 rfl
set_option maxRecDepth 20000 in
theorem k79_10 : mjCode 79 10 = some (.aload_n 0, 1, 0, 0) := by decide +kernel
theorem p79_10 {l0 : Int} {q1 q2 q3 q4 : MV} {ds : Ds} {m : Mm} {Q : Ds → Mm → List MV → Prop} : WP 79 10 [(2, l0), q1, q2, q3, q4] [] ds m Q = (WP 79 11 [(2, l0), q1, q2, q3, q4] [(2, l0)] ds m Q) := P_nx k79_10 rfl
set_option maxRecDepth 20000 in
theorem k79_11 : mjCode 79 11 = some (.aload_n 0, 1, 0, 0) := by decide +kernel
theorem p79_11 {l0 s0 : Int} {q1 q2 q3 q4 : MV} {ds : Ds} {m : Mm} {Q : Ds → Mm → List MV → Prop} : WP 79 11 [(2, l0), q1, q2, q3, q4] [(2, s0)] ds m Q = (WP 79 12 [(2, l0), q1, q2, q3, q4] [(2, l0), (2, s0)] ds m Q) := P_nx k79_11 rfl
set_option maxRecDepth 20000 in
theorem k79_12 : mjCode 79 12 = some (.iload_n 1, 1, 0, 0) := by decide +kernel
theorem p79_12 {l1 s0 s1 : Int} {q0 q2 q3 q4 : MV} {ds : Ds} {m : Mm} {Q : Ds → Mm → List MV → Prop} : WP 79 12 [q0, (0, l1), q2, q3, q4] [(2, s0), (2, s1)] ds m Q = (WP 79 13 [q0, (0, l1), q2, q3, q4] [(0, l1), (2, s0), (2, s1)] ds m Q) := P_nx k79_12 rfl
set_option maxRecDepth 20000 in
theorem k79_13 : mjCode 79 13 = some (.invokevirtual 150, 3, 98, 2) := by decide +kernel
theorem p79_13 {s0 s1 s2 : Int} {q0 q1 q2 q3 q4 : MV} {ds : Ds} {m : Mm} {Q : Ds → Mm → List MV → Prop} : WP 79 13 [q0, q1, q2, q3, q4] [(0, s0), (2, s1), (2, s2)] ds m Q = ((dk ds s1 = 6 ∧ WP 97 0 [(2, s1), (0, s0)] [] ds m (fun d2 m2 r2 => WP 79 16 [q0, q1, q2, q3, q4] (r2 ++ [(2, s2)]) d2 m2 Q))) := P_cv k79_13 mx97 mo97 rfl rfl rfl rfl rfl rfl rfl rfl
set_option maxRecDepth 20000 in
theorem k79_16 : mjCode 79 16 = some (.invokevirtual 73, 3, 96, 2) := by decide +kernel
theorem p79_16 {s0 s1 : Int} {q0 q1 q2 q3 q4 : MV} {ds : Ds} {m : Mm} {Q : Ds → Mm → List MV → Prop} : WP 79 16 [q0, q1, q2, q3, q4] [(0, s0), (2, s1)] ds m Q = ((dk ds s1 = 6 ∧ WP 95 0 [(2, s1), (0, s0), (3, 0)] [] ds m (fun d2 m2 r2 => WP 79 19 [q0, q1, q2, q3, q4] (r2 ++ []) d2 m2 Q))) := P_cv k79_16 mx95 mo95 rfl rfl rfl rfl rfl rfl rfl rfl
set_option maxRecDepth 20000 in
theorem k79_19 : mjCode 79 19 = some (.ireturn, 1, 0, 0) := by decide +kernel
theorem p79_19 {s0 : Int} {q0 q1 q2 q3 q4 : MV} {ds : Ds} {m : Mm} {Q : Ds → Mm → List MV → Prop} : WP 79 19 [q0, q1, q2, q3, q4] [(0, s0)] ds m Q = (Q ds m [(0, s0)]) := P_ri k79_19 rk79
set_option maxRecDepth 20000 in
theorem k79_20 : mjCode 79 20 = some (.aload_n 2, 1, 0, 0) := by decide +kernel
theorem p79_20 {l2 : Int} {q0 q1 q3 q4 : MV} {ds : Ds} {m : Mm} {Q : Ds → Mm → List MV → Prop} : WP 79 20 [q0, q1, (2, l2), q3, q4] [] ds m Q = (WP 79 21 [q0, q1, (2, l2), q3, q4] [(2, l2)] ds m Q) := P_nx k79_20 rfl
set_option maxRecDepth 20000 in
theorem k79_21 : mjCode 79 21 = some (.invokevirtual 178, 3, 45, 1) := by decide +kernel
theorem p79_21 {s0 : Int} {q0 q1 q2 q3 q4 : MV} {ds : Ds} {m : Mm} {Q : Ds → Mm → List MV → Prop} : WP 79 21 [q0, q1, q2, q3, q4] [(2, s0)] ds m Q = ((dk ds s0 = 4 ∧ WP 44 0 [(2, s0)] [] ds m (fun d2 m2 r2 => WP 79 24 [q0, q1, q2, q3, q4] (r2 ++ []) d2 m2 Q))) := P_cv k79_21 mx44 mo44 rfl rfl rfl rfl rfl rfl rfl rfl
set_option maxRecDepth 20000 in
theorem k79_24 : mjCode 79 24 = some (.istore_n 3, 1, 0, 0) := by decide +kernel
theorem p79_24 {l2 s0 : Int} {q0 q1 q3 q4 : MV} {ds : Ds} {m : Mm} {Q : Ds → Mm → List MV → Prop} : WP 79 24 [q0, q1, (2, l2), q3, q4] [(0, s0)] ds m Q = (WP 79 25 [q0, q1, (2, l2), (0, s0), q4] [] ds m Q) := P_nx k79_24 rfl
set_option maxRecDepth 20000 in
theorem k79_25 : mjCode 79 25 = some (.iload_n 3, 1, 0, 0) := by decide +kernel
theorem p79_25 {l3 : Int} {q0 q1 q2 q4 : MV} {ds : Ds} {m : Mm} {Q : Ds → Mm → List MV → Prop} : WP 79 25 [q0, q1, q2, (0, l3), q4] [] ds m Q = (WP 79 26 [q0, q1, q2, (0, l3), q4] [(0, l3)] ds m Q) := P_nx k79_25 rfl
set_option maxRecDepth 20000 in
theorem k79_26 : mjCode 79 26 = some (.iconst 4, 1, 0, 0) := by decide +kernel
theorem p79_26 {s0 : Int} {q0 q1 q2 q3 q4 : MV} {ds : Ds} {m : Mm} {Q : Ds → Mm → List MV → Prop} : WP 79 26 [q0, q1, q2, q3, q4] [(0, s0)] ds m Q = (WP 79 27 [q0, q1, q2, q3, q4] [(0, 4), (0, s0)] ds m Q) := P_nx k79_26 rfl
set_option maxRecDepth 20000 in
theorem k79_27 : mjCode 79 27 = some (.irem, 1, 0, 0) := by decide +kernel
theorem p79_27 {s0 s1 : Int} {q0 q1 q2 q3 q4 : MV} {ds : Ds} {m : Mm} {Q : Ds → Mm → List MV → Prop} : WP 79 27 [q0, q1, q2, q3, q4] [(0, s0), (0, s1)] ds m Q = ((¬ s0 = 0 ∧ WP 79 28 [q0, q1, q2, q3, q4] [(0, jrem s1 s0)] ds m Q)) := P_dv k79_27 rfl
set_option maxRecDepth 20000 in
theorem k79_28 : mjCode 79 28 = some (.ifCond .eq 10, 3, 38, 0) := by decide +kernel
theorem p79_28 {s0 : Int} {q0 q1 q2 q3 q4 : MV} {ds : Ds} {m : Mm} {Q : Ds → Mm → List MV → Prop} : WP 79 28 [q0, q1, q2, q3, q4] [(0, s0)] ds m Q = (if s0 = 0 then WP 79 38 [q0, q1, q2, q3, q4] [] ds m Q else WP 79 31 [q0, q1, q2, q3, q4] [] ds m Q) := P_if k79_28 rfl
set_option maxRecDepth 20000 in
theorem k79_31 : mjCode 79 31 = some (.aload_n 0, 1, 0, 0) := by decide +kernel
theorem p79_31 {l0 : Int} {q1 q2 q3 q4 : MV} {ds : Ds} {m : Mm} {Q : Ds → Mm → List MV → Prop} : WP 79 31 [(2, l0), q1, q2, q3, q4] [] ds m Q = (WP 79 32 [(2, l0), q1, q2, q3, q4] [(2, l0)] ds m Q) := P_nx k79_31 rfl
set_option maxRecDepth 20000 in
theorem k79_32 : mjCode 79 32 = some (.bipush (-6), 2, 0, 0) := by decide +kernel
theorem p79_32 {s0 : Int} {q0 q1 q2 q3 q4 : MV} {ds : Ds} {m : Mm} {Q : Ds → Mm → List MV → Prop} : WP 79 32 [q0, q1, q2, q3, q4] [(2, s0)] ds m Q = (WP 79 34 [q0, q1, q2, q3, q4] [(0, (-6)), (2, s0)] ds m Q) := P_nx k79_32 rfl
set_option maxRecDepth 20000 in
theorem k79_34 : mjCode 79 34 = some (.invokevirtual 73, 3, 96, 2) := by decide +kernel
theorem p79_34 {s0 s1 : Int} {q0 q1 q2 q3 q4 : MV} {ds : Ds} {m : Mm} {Q : Ds → Mm → List MV → Prop} : WP 79 34 [q0, q1, q2, q3, q4] [(0, s0), (2, s1)] ds m Q = ((dk ds s1 = 6 ∧ WP 95 0 [(2, s1), (0, s0), (3, 0)] [] ds m (fun d2 m2 r2 => WP 79 37 [q0, q1, q2, q3, q4] (r2 ++ []) d2 m2 Q))) := P_cv k79_34 mx95 mo95 rfl rfl rfl rfl rfl rfl rfl rfl
set_option maxRecDepth 20000 in
theorem k79_37 : mjCode 79 37 = some (.ireturn, 1, 0, 0) := by decide +kernel
theorem p79_37 {s0 : Int} {q0 q1 q2 q3 q4 : MV} {ds : Ds} {m : Mm} {Q : Ds → Mm → List MV → Prop} : WP 79 37 [q0, q1, q2, q3, q4] [(0, s0)] ds m Q = (Q ds m [(0, s0)]) := P_ri k79_37 rk79
set_option maxRecDepth 20000 in
theorem k79_38 : mjCode 79 38 = some (.aload_n 0, 1, 0, 0) := by decide +kernel
theorem p79_38 {l0 : Int} {q1 q2 q3 q4 : MV} {ds : Ds} {m : Mm} {Q : Ds → Mm → List MV → Prop} : WP 79 38 [(2, l0), q1, q2, q3, q4] [] ds m Q = (WP 79 39 [(2, l0), q1, q2, q3, q4] [(2, l0)] ds m Q) := P_nx k79_38 rfl
set_option maxRecDepth 20000 in
theorem k79_39 : mjCode 79 39 = some (.getfield 49, 3, 6, 1) := by decide +kernel
theorem p79_39 {s0 : Int} {q0 q1 q2 q3 q4 : MV} {ds : Ds} {m : Mm} {Q : Ds → Mm → List MV → Prop} : WP 79 39 [q0, q1, q2, q3, q4] [(2, s0)] ds m Q = ((dk ds s0 = 6 ∧ WP 79 42 [q0, q1, q2, q3, q4] [(2, m s0 1)] ds m Q)) := P_gd k79_39 rfl
set_option maxRecDepth 20000 in
theorem k79_42 : mjCode 79 42 = some (.aload_n 0, 1, 0, 0) := by decide +kernel
theorem p79_42 {l0 s0 : Int} {q1 q2 q3 q4 : MV} {ds : Ds} {m : Mm} {Q : Ds → Mm → List MV → Prop} : WP 79 42 [(2, l0), q1, q2, q3, q4] [(2, s0)] ds m Q = (WP 79 43 [(2, l0), q1, q2, q3, q4] [(2, l0), (2, s0)] ds m Q) := P_nx k79_42 rfl
set_option maxRecDepth 20000 in
theorem k79_43 : mjCode 79 43 = some (.getfield 45, 3, 6, 0) := by decide +kernel
theorem p79_43 {s0 s1 : Int} {q0 q1 q2 q3 q4 : MV} {ds : Ds} {m : Mm} {Q : Ds → Mm → List MV → Prop} : WP 79 43 [q0, q1, q2, q3, q4] [(2, s0), (2, s1)] ds m Q = ((dk ds s0 = 6 ∧ WP 79 46 [q0, q1, q2, q3, q4] [(2, m s0 0), (2, s1)] ds m Q)) := P_gd k79_43 rfl
set_option maxRecDepth 20000 in
theorem k79_46 : mjCode 79 46 = some (.invokevirtual 181, 3, 24, 2) := by decide +kernel
theorem p79_46 {s0 s1 : Int} {q0 q1 q2 q3 q4 : MV} {ds : Ds} {m : Mm} {Q : Ds → Mm → List MV → Prop} : WP 79 46 [q0, q1, q2, q3, q4] [(2, s0), (2, s1)] ds m Q = ((dk ds s1 = 3 ∧ WP 23 0 [(2, s1), (2, s0), (3, 0)] [] ds m (fun d2 m2 r2 => WP 79 49 [q0, q1, q2, q3, q4] (r2 ++ []) d2 m2 Q))) := P_cv k79_46 mx23 mo23 rfl rfl rfl rfl rfl rfl rfl rfl
set_option maxRecDepth 20000 in
theorem k79_49 : mjCode 79 49 = some (.iconst 0, 1, 0, 0) := by decide +kernel
theorem p79_49 {q0 q1 q2 q3 q4 : MV} {ds : Ds} {m : Mm} {Q : Ds → Mm → List MV → Prop} : WP 79 49 [q0, q1, q2, q3, q4] [] ds m Q = (WP 79 50 [q0, q1, q2, q3, q4] [(0, 0)] ds m Q) := P_nx k79_49 rfl
set_option maxRecDepth 20000 in
theorem k79_50 : mjCode 79 50 = some (.istore 4, 2, 0, 0) := by decide +kernel
theorem p79_50 {l3 s0 : Int} {q0 q1 q2 q4 : MV} {ds : Ds} {m : Mm} {Q : Ds → Mm → List MV → Prop} : WP 79 50 [q0, q1, q2, (0, l3), q4] [(0, s0)] ds m Q = (WP 79 52 [q0, q1, q2, (0, l3), (0, s0)] [] ds m Q) := P_nx k79_50 rfl
set_option maxRecDepth 20000 in
theorem k79_52 : mjCode 79 52 = some (.iload 4, 2, 0, 0) := by decide +kernel
theorem p79_52 {l4 : Int} {q0 q1 q2 q3 : MV} {ds : Ds} {m : Mm} {Q : Ds → Mm → List MV → Prop} : WP 79 52 [q0, q1, q2, q3, (0, l4)] [] ds m Q = (WP 79 54 [q0, q1, q2, q3, (0, l4)] [(0, l4)] ds m Q) := P_nx k79_52 rfl
set_option maxRecDepth 20000 in
theorem k79_54 : mjCode 79 54 = some (.iload_n 3, 1, 0, 0) := by decide +kernel
theorem p79_54 {l3 s0 : Int} {q0 q1 q2 q4 : MV} {ds : Ds} {m : Mm} {Q : Ds → Mm → List MV → Prop} : WP 79 54 [q0, q1, q2, (0, l3), q4] [(0, s0)] ds m Q = (WP 79 55 [q0, q1, q2, (0, l3), q4] [(0, l3), (0, s0)] ds m Q) := P_nx k79_54 rfl
set_option maxRecDepth 20000 in
theorem k79_55 : mjCode 79 55 = some (.if_icmp .ge 53, 3, 108, 0) := by decide +kernel
theorem p79_55 {s0 s1 : Int} {q0 q1 q2 q3 q4 : MV} {ds : Ds} {m : Mm} {Q : Ds → Mm → List MV → Prop} : WP 79 55 [q0, q1, q2, q3, q4] [(0, s0), (0, s1)] ds m Q = (if s1 < s0 then WP 79 58 [q0, q1, q2, q3, q4] [] ds m Q else WP 79 108 [q0, q1, q2, q3, q4] [] ds m Q) := P_if k79_55 rfl
set_option maxRecDepth 20000 in
theorem k79_58 : mjCode 79 58 = some (.aload_n 0, 1, 0, 0) := by decide +kernel
theorem p79_58 {l0 : Int} {q1 q2 q3 q4 : MV} {ds : Ds} {m : Mm} {Q : Ds → Mm → List MV → Prop} : WP 79 58 [(2, l0), q1, q2, q3, q4] [] ds m Q = (WP 79 59 [(2, l0), q1, q2, q3, q4] [(2, l0)] ds m Q) := P_nx k79_58 rfl
set_option maxRecDepth 20000 in
theorem k79_59 : mjCode 79 59 = some (.aload_n 2, 1, 0, 0) := by decide +kernel
theorem p79_59 {l2 s0 : Int} {q0 q1 q3 q4 : MV} {ds : Ds} {m : Mm} {Q : Ds → Mm → List MV → Prop} : WP 79 59 [q0, q1, (2, l2), q3, q4] [(2, s0)] ds m Q = (WP 79 60 [q0, q1, (2, l2), q3, q4] [(2, l2), (2, s0)] ds m Q) := P_nx k79_59 rfl
set_option maxRecDepth 20000 in
theorem k79_60 : mjCode 79 60 = some (.iload 4, 2, 0, 0) := by decide +kernel
theorem p79_60 {l4 s0 s1 : Int} {q0 q1 q2 q3 : MV} {ds : Ds} {m : Mm} {Q : Ds → Mm → List MV → Prop} : WP 79 60 [q0, q1, q2, q3, (0, l4)] [(2, s0), (2, s1)] ds m Q = (WP 79 62 [q0, q1, q2, q3, (0, l4)] [(0, l4), (2, s0), (2, s1)] ds m Q) := P_nx k79_60 rfl
set_option maxRecDepth 20000 in
theorem k79_62 : mjCode 79 62 = some (.invokevirtual 185, 3, 49, 2) := by decide +kernel
theorem p79_62 {s0 s1 s2 : Int} {q0 q1 q2 q3 q4 : MV} {ds : Ds} {m : Mm} {Q : Ds → Mm → List MV → Prop} : WP 79 62 [q0, q1, q2, q3, q4] [(0, s0), (2, s1), (2, s2)] ds m Q = ((dk ds s1 = 4 ∧ WP 48 0 [(2, s1), (0, s0)] [] ds m (fun d2 m2 r2 => WP 79 65 [q0, q1, q2, q3, q4] (r2 ++ [(2, s2)]) d2 m2 Q))) := P_cv k79_62 mx48 mo48 rfl rfl rfl rfl rfl rfl rfl rfl
set_option maxRecDepth 20000 in
theorem k79_65 : mjCode 79 65 = some (.aload_n 2, 1, 0, 0) := by decide +kernel
theorem p79_65 {l2 s0 s1 : Int} {q0 q1 q3 q4 : MV} {ds : Ds} {m : Mm} {Q : Ds → Mm → List MV → Prop} : WP 79 65 [q0, q1, (2, l2), q3, q4] [(0, s0), (2, s1)] ds m Q = (WP 79 66 [q0, q1, (2, l2), q3, q4] [(2, l2), (0, s0), (2, s1)] ds m Q) := P_nx k79_65 rfl
set_option maxRecDepth 20000 in
theorem k79_66 : mjCode 79 66 = some (.iload 4, 2, 0, 0) := by decide +kernel
theorem p79_66 {l4 s0 s1 s2 : Int} {q0 q1 q2 q3 : MV} {ds : Ds} {m : Mm} {Q : Ds → Mm → List MV → Prop} : WP 79 66 [q0, q1, q2, q3, (0, l4)] [(2, s0), (0, s1), (2, s2)] ds m Q = (WP 79 68 [q0, q1, q2, q3, (0, l4)] [(0, l4), (2, s0), (0, s1), (2, s2)] ds m Q) := P_nx k79_66 rfl
set_option maxRecDepth 20000 in
theorem k79_68 : mjCode 79 68 = some (.iconst 1, 1, 0, 0) := by decide +kernel
theorem p79_68 {s0 s1 s2 s3 : Int} {q0 q1 q2 q3 q4 : MV} {ds : Ds} {m : Mm} {Q : Ds → Mm → List MV → Prop} : WP 79 68 [q0, q1, q2, q3, q4] [(0, s0), (2, s1), (0, s2), (2, s3)] ds m Q = (WP 79 69 [q0, q1, q2, q3, q4] [(0, 1), (0, s0), (2, s1), (0, s2), (2, s3)] ds m Q) := P_nx k79_68 rfl
set_option maxRecDepth 20000 in
theorem k79_69 : mjCode 79 69 = some (.iadd, 1, 0, 0) := by decide +kernel
theorem p79_69 {s0 s1 s2 s3 s4 : Int} {q0 q1 q2 q3 q4 : MV} {ds : Ds} {m : Mm} {Q : Ds → Mm → List MV → Prop} : WP 79 69 [q0, q1, q2, q3, q4] [(0, s0), (0, s1), (2, s2), (0, s3), (2, s4)] ds m Q = (WP 79 70 [q0, q1, q2, q3, q4] [(0, w32 (s1 + s0)), (2, s2), (0, s3), (2, s4)] ds m Q) := P_nx k79_69 rfl
set_option maxRecDepth 20000 in
theorem k79_70 : mjCode 79 70 = some (.invokevirtual 185, 3, 49, 2) := by decide +kernel
theorem p79_70 {s0 s1 s2 s3 : Int} {q0 q1 q2 q3 q4 : MV} {ds : Ds} {m : Mm} {Q : Ds → Mm → List MV → Prop} : WP 79 70 [q0, q1, q2, q3, q4] [(0, s0), (2, s1), (0, s2), (2, s3)] ds m Q = ((dk ds s1 = 4 ∧ WP 48 0 [(2, s1), (0, s0)] [] ds m (fun d2 m2 r2 => WP 79 73 [q0, q1, q2, q3, q4] (r2 ++ [(0, s2), (2, s3)]) d2 m2 Q))) := P_cv k79_70 mx48 mo48 rfl rfl rfl rfl rfl rfl rfl rfl
set_option maxRecDepth 20000 in
theorem k79_73 : mjCode 79 73 = some (.aload_n 2, 1, 0, 0) := by decide +kernel
theorem p79_73 {l2 s0 s1 s2 : Int} {q0 q1 q3 q4 : MV} {ds : Ds} {m : Mm} {Q : Ds → Mm → List MV → Prop} : WP 79 73 [q0, q1, (2, l2), q3, q4] [(0, s0), (0, s1), (2, s2)] ds m Q = (WP 79 74 [q0, q1, (2, l2), q3, q4] [(2, l2), (0, s0), (0, s1), (2, s2)] ds m Q) := P_nx k79_73 rfl
set_option maxRecDepth 20000 in
theorem k79_74 : mjCode 79 74 = some (.iload 4, 2, 0, 0) := by decide +kernel
theorem p79_74 {l4 s0 s1 s2 s3 : Int} {q0 q1 q2 q3 : MV} {ds : Ds} {m : Mm} {Q : Ds → Mm → List MV → Prop} : WP 79 74 [q0, q1, q2, q3, (0, l4)] [(2, s0), (0, s1), (0, s2), (2, s3)] ds m Q = (WP 79 76 [q0, q1, q2, q3, (0, l4)] [(0, l4), (2, s0), (0, s1), (0, s2), (2, s3)] ds m Q) := P_nx k79_74 rfl
set_option maxRecDepth 20000 in
theorem k79_76 : mjCode 79 76 = some (.iconst 2, 1, 0, 0) := by decide +kernel
theorem p79_76 {s0 s1 s2 s3 s4 : Int} {q0 q1 q2 q3 q4 : MV} {ds : Ds} {m : Mm} {Q : Ds → Mm → List MV → Prop} : WP 79 76 [q0, q1, q2, q3, q4] [(0, s0), (2, s1), (0, s2), (0, s3), (2, s4)] ds m Q = (WP 79 77 [q0, q1, q2, q3, q4] [(0, 2), (0, s0), (2, s1), (0, s2), (0, s3), (2, s4)] ds m Q) := P_nx k79_76 rfl
set_option maxRecDepth 20000 in
theorem k79_77 : mjCode 79 77 = some (.iadd, 1, 0, 0) := by decide +kernel
theorem p79_77 {s0 s1 s2 s3 s4 s5 : Int} {q0 q1 q2 q3 q4 : MV} {ds : Ds} {m : Mm} {Q : Ds → Mm → List MV → Prop} : WP 79 77 [q0, q1, q2, q3, q4] [(0, s0), (0, s1), (2, s2), (0, s3), (0, s4), (2, s5)] ds m Q = (WP 79 78 [q0, q1, q2, q3, q4] [(0, w32 (s1 + s0)), (2, s2), (0, s3), (0, s4), (2, s5)] ds m Q) := P_nx k79_77 rfl
set_option maxRecDepth 20000 in
theorem k79_78 : mjCode 79 78 = some (.invokevirtual 185, 3, 49, 2) := by decide +kernel
theorem p79_78 {s0 s1 s2 s3 s4 : Int} {q0 q1 q2 q3 q4 : MV} {ds : Ds} {m : Mm} {Q : Ds → Mm → List MV → Prop} : WP 79 78 [q0, q1, q2, q3, q4] [(0, s0), (2, s1), (0, s2), (0, s3), (2, s4)] ds m Q = ((dk ds s1 = 4 ∧ WP 48 0 [(2, s1), (0, s0)] [] ds m (fun d2 m2 r2 => WP 79 81 [q0, q1, q2, q3, q4] (r2 ++ [(0, s2), (0, s3), (2, s4)]) d2 m2 Q))) := P_cv k79_78 mx48 mo48 rfl rfl rfl rfl rfl rfl rfl rfl
set_option maxRecDepth 20000 in
theorem k79_81 : mjCode 79 81 = some (.aload_n 2, 1, 0, 0) := by decide +kernel
theorem p79_81 {l2 s0 s1 s2 s3 : Int} {q0 q1 q3 q4 : MV} {ds : Ds} {m : Mm} {Q : Ds → Mm → List MV → Prop} : WP 79 81 [q0, q1, (2, l2), q3, q4] [(0, s0), (0, s1), (0, s2), (2, s3)] ds m Q = (WP 79 82 [q0, q1, (2, l2), q3, q4] [(2, l2), (0, s0), (0, s1), (0, s2), (2, s3)] ds m Q) := P_nx k79_81 rfl
set_option maxRecDepth 20000 in
theorem k79_82 : mjCode 79 82 = some (.iload 4, 2, 0, 0) := by decide +kernel
theorem p79_82 {l4 s0 s1 s2 s3 s4 : Int} {q0 q1 q2 q3 : MV} {ds : Ds} {m : Mm} {Q : Ds → Mm → List MV → Prop} : WP 79 82 [q0, q1, q2, q3, (0, l4)] [(2, s0), (0, s1), (0, s2), (0, s3), (2, s4)] ds m Q = (WP 79 84 [q0, q1, q2, q3, (0, l4)] [(0, l4), (2, s0), (0, s1), (0, s2), (0, s3), (2, s4)] ds m Q) := P_nx k79_82 rfl
set_option maxRecDepth 20000 in
theorem k79_84 : mjCode 79 84 = some (.iconst 3, 1, 0, 0) := by decide +kernel
theorem p79_84 {s0 s1 s2 s3 s4 s5 : Int} {q0 q1 q2 q3 q4 : MV} {ds : Ds} {m : Mm} {Q : Ds → Mm → List MV → Prop} : WP 79 84 [q0, q1, q2, q3, q4] [(0, s0), (2, s1), (0, s2), (0, s3), (0, s4), (2, s5)] ds m Q = (WP 79 85 [q0, q1, q2, q3, q4] [(0, 3), (0, s0), (2, s1), (0, s2), (0, s3), (0, s4), (2, s5)] ds m Q) := P_nx k79_84 rfl
set_option maxRecDepth 20000 in
theorem k79_85 : mjCode 79 85 = some (.iadd, 1, 0, 0) := by decide +kernel
theorem p79_85 {s0 s1 s2 s3 s4 s5 s6 : Int} {q0 q1 q2 q3 q4 : MV} {ds : Ds} {m : Mm} {Q : Ds → Mm → List MV → Prop} : WP 79 85 [q0, q1, q2, q3, q4] [(0, s0), (0, s1), (2, s2), (0, s3), (0, s4), (0, s5), (2, s6)] ds m Q = (WP 79 86 [q0, q1, q2, q3, q4] [(0, w32 (s1 + s0)), (2, s2), (0, s3), (0, s4), (0, s5), (2, s6)] ds m Q) := P_nx k79_85 rfl
set_option maxRecDepth 20000 in
theorem k79_86 : mjCode 79 86 = some (.invokevirtual 185, 3, 49, 2) := by decide +kernel
theorem p79_86 {s0 s1 s2 s3 s4 s5 : Int} {q0 q1 q2 q3 q4 : MV} {ds : Ds} {m : Mm} {Q : Ds → Mm → List MV → Prop} : WP 79 86 [q0, q1, q2, q3, q4] [(0, s0), (2, s1), (0, s2), (0, s3), (0, s4), (2, s5)] ds m Q = ((dk ds s1 = 4 ∧ WP 48 0 [(2, s1), (0, s0)] [] ds m (fun d2 m2 r2 => WP 79 89 [q0, q1, q2, q3, q4] (r2 ++ [(0, s2), (0, s3), (0, s4), (2, s5)]) d2 m2 Q))) := P_cv k79_86 mx48 mo48 rfl rfl rfl rfl rfl rfl rfl rfl
set_option maxRecDepth 20000 in
theorem k79_89 : mjCode 79 89 = some (.invokevirtual 188, 3, 99, 5) := by decide +kernel
theorem p79_89 {s0 s1 s2 s3 s4 : Int} {q0 q1 q2 q3 q4 : MV} {ds : Ds} {m : Mm} {Q : Ds → Mm → List MV → Prop} : WP 79 89 [q0, q1, q2, q3, q4] [(0, s0), (0, s1), (0, s2), (0, s3), (2, s4)] ds m Q = ((dk ds s4 = 6 ∧ WP 98 0 [(2, s4), (0, s3), (0, s2), (0, s1), (0, s0), (3, 0)] [] ds m (fun d2 m2 r2 => WP 79 92 [q0, q1, q2, q3, q4] (r2 ++ []) d2 m2 Q))) := P_cv k79_89 mx98 mo98 rfl rfl rfl rfl rfl rfl rfl rfl
set_option maxRecDepth 20000 in
theorem k79_92 : mjCode 79 92 = some (.ifCond .ne 10, 3, 102, 0) := by decide +kernel
theorem p79_92 {s0 : Int} {q0 q1 q2 q3 q4 : MV} {ds : Ds} {m : Mm} {Q : Ds → Mm → List MV → Prop} : WP 79 92 [q0, q1, q2, q3, q4] [(0, s0)] ds m Q = (if s0 = 0 then WP 79 95 [q0, q1, q2, q3, q4] [] ds m Q else WP 79 102 [q0, q1, q2, q3, q4] [] ds m Q) := P_if k79_92 rfl
set_option maxRecDepth 20000 in
theorem k79_95 : mjCode 79 95 = some (.aload_n 0, 1, 0, 0) := by decide +kernel
theorem p79_95 {l0 : Int} {q1 q2 q3 q4 : MV} {ds : Ds} {m : Mm} {Q : Ds → Mm → List MV → Prop} : WP 79 95 [(2, l0), q1, q2, q3, q4] [] ds m Q = (WP 79 96 [(2, l0), q1, q2, q3, q4] [(2, l0)] ds m Q) := P_nx k79_95 rfl
set_option maxRecDepth 20000 in
theorem k79_96 : mjCode 79 96 = some (.bipush (-6), 2, 0, 0) := by decide +kernel
theorem p79_96 {s0 : Int} {q0 q1 q2 q3 q4 : MV} {ds : Ds} {m : Mm} {Q : Ds → Mm → List MV → Prop} : WP 79 96 [q0, q1, q2, q3, q4] [(2, s0)] ds m Q = (WP 79 98 [q0, q1, q2, q3, q4] [(0, (-6)), (2, s0)] ds m Q) := P_nx k79_96 rfl
set_option maxRecDepth 20000 in
theorem k79_98 : mjCode 79 98 = some (.invokevirtual 73, 3, 96, 2) := by decide +kernel
theorem p79_98 {s0 s1 : Int} {q0 q1 q2 q3 q4 : MV} {ds : Ds} {m : Mm} {Q : Ds → Mm → List MV → Prop} : WP 79 98 [q0, q1, q2, q3, q4] [(0, s0), (2, s1)] ds m Q = ((dk ds s1 = 6 ∧ WP 95 0 [(2, s1), (0, s0), (3, 0)] [] ds m (fun d2 m2 r2 => WP 79 101 [q0, q1, q2, q3, q4] (r2 ++ []) d2 m2 Q))) := P_cv k79_98 mx95 mo95 rfl rfl rfl rfl rfl rfl rfl rfl
set_option maxRecDepth 20000 in
theorem k79_101 : mjCode 79 101 = some (.ireturn, 1, 0, 0) := by decide +kernel
theorem p79_101 {s0 : Int} {q0 q1 q2 q3 q4 : MV} {ds : Ds} {m : Mm} {Q : Ds → Mm → List MV → Prop} : WP 79 101 [q0, q1, q2, q3, q4] [(0, s0)] ds m Q = (Q ds m [(0, s0)]) := P_ri k79_101 rk79
set_option maxRecDepth 20000 in
theorem k79_102 : mjCode 79 102 = some (.iinc 4 4, 3, 0, 0) := by decide +kernel
theorem p79_102 {l4 : Int} {q0 q1 q2 q3 : MV} {ds : Ds} {m : Mm} {Q : Ds → Mm → List MV → Prop} : WP 79 102 [q0, q1, q2, q3, (0, l4)] [] ds m Q = (WP 79 105 [q0, q1, q2, q3, (0, w32 (l4 + 4))] [] ds m Q) := P_nx k79_102 rfl
set_option maxRecDepth 20000 in
theorem k79_105 : mjCode 79 105 = some (.goto (-53), 3, 52, 0) := by decide +kernel
theorem p79_105 {q0 q1 q2 q3 q4 : MV} {ds : Ds} {m : Mm} {Q : Ds → Mm → List MV → Prop} : WP 79 105 [q0, q1, q2, q3, q4] [] ds m Q = (WP 79 52 [q0, q1, q2, q3, q4] [] ds m Q) := P_nx k79_105 rfl
set_option maxRecDepth 20000 in
theorem k79_108 : mjCode 79 108 = some (.aload_n 0, 1, 0, 0) := by decide +kernel
theorem p79_108 {l0 : Int} {q1 q2 q3 q4 : MV} {ds : Ds} {m : Mm} {Q : Ds → Mm → List MV → Prop} : WP 79 108 [(2, l0), q1, q2, q3, q4] [] ds m Q = (WP 79 109 [(2, l0), q1, q2, q3, q4] [(2, l0)] ds m Q) := P_nx k79_108 rfl
set_option maxRecDepth 20000 in
theorem k79_109 : mjCode 79 109 = some (.getfield 45, 3, 6, 0) := by decide +kernel
theorem p79_109 {s0 : Int} {q0 q1 q2 q3 q4 : MV} {ds : Ds} {m : Mm} {Q : Ds → Mm → List MV → Prop} : WP 79 109 [q0, q1, q2, q3, q4] [(2, s0)] ds m Q = ((dk ds s0 = 6 ∧ WP 79 112 [q0, q1, q2, q3, q4] [(2, m s0 0)] ds m Q)) := P_gd k79_109 rfl
set_option maxRecDepth 20000 in
theorem k79_112 : mjCode 79 112 = some (.aload_n 0, 1, 0, 0) := by decide +kernel
theorem p79_112 {l0 s0 : Int} {q1 q2 q3 q4 : MV} {ds : Ds} {m : Mm} {Q : Ds → Mm → List MV → Prop} : WP 79 112 [(2, l0), q1, q2, q3, q4] [(2, s0)] ds m Q = (WP 79 113 [(2, l0), q1, q2, q3, q4] [(2, l0), (2, s0)] ds m Q) := P_nx k79_112 rfl
set_option maxRecDepth 20000 in
theorem k79_113 : mjCode 79 113 = some (.getfield 49, 3, 6, 1) := by decide +kernel
theorem p79_113 {s0 s1 : Int} {q0 q1 q2 q3 q4 : MV} {ds : Ds} {m : Mm} {Q : Ds → Mm → List MV → Prop} : WP 79 113 [q0, q1, q2, q3, q4] [(2, s0), (2, s1)] ds m Q = ((dk ds s0 = 6 ∧ WP 79 116 [q0, q1, q2, q3, q4] [(2, m s0 1), (2, s1)] ds m Q)) := P_gd k79_113 rfl
set_option maxRecDepth 20000 in
theorem k79_116 : mjCode 79 116 = some (.invokevirtual 181, 3, 24, 2) := by decide +kernel
theorem p79_116 {s0 s1 : Int} {q0 q1 q2 q3 q4 : MV} {ds : Ds} {m : Mm} {Q : Ds → Mm → List MV → Prop} : WP 79 116 [q0, q1, q2, q3, q4] [(2, s0), (2, s1)] ds m Q = ((dk ds s1 = 3 ∧ WP 23 0 [(2, s1), (2, s0), (3, 0)] [] ds m (fun d2 m2 r2 => WP 79 119 [q0, q1, q2, q3, q4] (r2 ++ []) d2 m2 Q))) := P_cv k79_116 mx23 mo23 rfl rfl rfl rfl rfl rfl rfl rfl
set_option maxRecDepth 20000 in
theorem k79_119 : mjCode 79 119 = some (.iload_n 3, 1, 0, 0) := by decide +kernel
theorem p79_119 {l3 : Int} {q0 q1 q2 q4 : MV} {ds : Ds} {m : Mm} {Q : Ds → Mm → List MV → Prop} : WP 79 119 [q0, q1, q2, (0, l3), q4] [] ds m Q = (WP 79 120 [q0, q1, q2, (0, l3), q4] [(0, l3)] ds m Q) := P_nx k79_119 rfl
set_option maxRecDepth 20000 in
theorem k79_120 : mjCode 79 120 = some (.iconst 4, 1, 0, 0) := by decide +kernel
theorem p79_120 {s0 : Int} {q0 q1 q2 q3 q4 : MV} {ds : Ds} {m : Mm} {Q : Ds → Mm → List MV → Prop} : WP 79 120 [q0, q1, q2, q3, q4] [(0, s0)] ds m Q = (WP 79 121 [q0, q1, q2, q3, q4] [(0, 4), (0, s0)] ds m Q) := P_nx k79_120 rfl
set_option maxRecDepth 20000 in
theorem k79_121 : mjCode 79 121 = some (.idiv, 1, 0, 0) := by decide +kernel
theorem p79_121 {s0 s1 : Int} {q0 q1 q2 q3 q4 : MV} {ds : Ds} {m : Mm} {Q : Ds → Mm → List MV → Prop} : WP 79 121 [q0, q1, q2, q3, q4] [(0, s0), (0, s1)] ds m Q = ((¬ s0 = 0 ∧ WP 79 122 [q0, q1, q2, q3, q4] [(0, jdiv s1 s0)] ds m Q)) := P_dv k79_121 rfl
set_option maxRecDepth 20000 in
theorem k79_122 : mjCode 79 122 = some (.ireturn, 1, 0, 0) := by decide +kernel
theorem p79_122 {s0 : Int} {q0 q1 q2 q3 q4 : MV} {ds : Ds} {m : Mm} {Q : Ds → Mm → List MV → Prop} : WP 79 122 [q0, q1, q2, q3, q4] [(0, s0)] ds m Q = (Q ds m [(0, s0)]) := P_ri k79_122 rk79
set_option maxRecDepth 20000 in
theorem k80_0 : mjCode 80 0 = some (.iload_n 1, 1, 0, 0) := by decide +kernel
theorem p80_0 {l1 : Int} {q0 q2 : MV} {ds : Ds} {m : Mm} {Q : Ds → Mm → List MV → Prop} : WP 80 0 [q0, (0, l1), q2] [] ds m Q = (WP 80 1 [q0, (0, l1), q2] [(0, l1)] ds m Q) := P_nx k80_0 rfl
set_option maxRecDepth 20000 in
theorem k80_1 : mjCode 80 1 = some (.invokestatic 140, 3, 110, 1) := by decide +kernel
theorem p80_1 {s0 : Int} {q0 q1 q2 : MV} {ds : Ds} {m : Mm} {Q : Ds → Mm → List MV → Prop} : WP 80 1 [q0, q1, q2] [(0, s0)] ds m Q = (WP 109 0 [(0, s0)] [] ds m (fun d2 m2 r2 => WP 80 4 [q0, q1, q2] (r2 ++ []) d2 m2 Q)) := P_cs k80_1 mx109 rfl rfl rfl rfl rfl rfl rfl
set_option maxRecDepth 20000 in
theorem k80_4 : mjCode 80 4 = some (.ifCond .ne 9, 3, 13, 0) := by decide +kernel
theorem p80_4 {s0 : Int} {q0 q1 q2 : MV} {ds : Ds} {m : Mm} {Q : Ds → Mm → List MV → Prop} : WP 80 4 [q0, q1, q2] [(0, s0)] ds m Q = (if s0 = 0 then WP 80 7 [q0, q1, q2] [] ds m Q else WP 80 13 [q0, q1, q2] [] ds m Q) := P_if k80_4 rfl
set_option maxRecDepth 20000 in
theorem k80_7 : mjCode 80 7 = some (.aload_n 0, 1, 0, 0) := by decide +kernel
theorem p80_7 {l0 : Int} {q1 q2 : MV} {ds : Ds} {m : Mm} {Q : Ds → Mm → List MV → Prop} : WP 80 7 [(2, l0), q1, q2] [] ds m Q = (WP 80 8 [(2, l0), q1, q2] [(2, l0)] ds m Q) := P_nx k80_7 rfl
set_option maxRecDepth 20000 in
theorem k80_8 : mjCode 80 8 = some (.iconst (-1), 1, 0, 0) := by decide +kernel
theorem p80_8 {s0 : Int} {q0 q1 q2 : MV} {ds : Ds} {m : Mm} {Q : Ds → Mm → List MV → Prop} : WP 80 8 [q0, q1, q2] [(2, s0)] ds m Q = (WP 80 9 [q0, q1, q2] [(0, (-1)), (2, s0)] ds m Q) := P_nx k80_8 rfl
set_option maxRecDepth 20000 in
theorem k80_9 : mjCode 80 9 = some (.invokevirtual 73, 3, 96, 2) := by decide +kernel
theorem p80_9 {s0 s1 : Int} {q0 q1 q2 : MV} {ds : Ds} {m : Mm} {Q : Ds → Mm → List MV → Prop} : WP 80 9 [q0, q1, q2] [(0, s0), (2, s1)] ds m Q = ((dk ds s1 = 6 ∧ WP 95 0 [(2, s1), (0, s0), (3, 0)] [] ds m (fun d2 m2 r2 => WP 80 12 [q0, q1, q2] (r2 ++ []) d2 m2 Q))) := P_cv k80_9 mx95 mo95 rfl rfl rfl rfl rfl rfl rfl rfl
set_option maxRecDepth 20000 in
theorem k80_12 : mjCode 80 12 = some (.ireturn, 1, 0, 0) := by decide +kernel
theorem p80_12 {s0 : Int} {q0 q1 q2 : MV} {ds : Ds} {m : Mm} {Q : Ds → Mm → List MV → Prop} : WP 80 12 [q0, q1, q2] [(0, s0)] ds m Q = (Q ds m [(0, s0)]) := P_ri k80_12 rk80
set_option maxRecDepth 20000 in
theorem k80_13 : mjCode 80 13 = some (.aload_n 0, 1, 0, 0) := by decide +kernel
theorem p80_13 {l0 : Int} {q1 q2 : MV} {ds : Ds} {m : Mm} {Q : Ds → Mm → List MV → Prop} : WP 80 13 [(2, l0), q1, q2] [] ds m Q = (WP 80 14 [(2, l0), q1, q2] [(2, l0)] ds m Q) := P_nx k80_13 rfl
set_option maxRecDepth 20000 in
theorem k80_14 : mjCode 80 14 = some (.getfield 17, 3, 6, 3) := by decide +kernel
theorem p80_14 {s0 : Int} {q0 q1 q2 : MV} {ds : Ds} {m : Mm} {Q : Ds → Mm → List MV → Prop} : WP 80 14 [q0, q1, q2] [(2, s0)] ds m Q = ((dk ds s0 = 6 ∧ WP 80 17 [q0, q1, q2] [(2, m s0 3)] ds m Q)) := P_gd k80_14 rfl
set_option maxRecDepth 20000 in
theorem k80_17 : mjCode 80 17 = some (.iload_n 1, 1, 0, 0) := by decide +kernel
theorem p80_17 {l1 s0 : Int} {q0 q2 : MV} {ds : Ds} {m : Mm} {Q : Ds → Mm → List MV → Prop} : WP 80 17 [q0, (0, l1), q2] [(2, s0)] ds m Q = (WP 80 18 [q0, (0, l1), q2] [(0, l1), (2, s0)] ds m Q) := P_nx k80_17 rfl
set_option maxRecDepth 20000 in
theorem k80_18 : mjCode 80 18 = some (.aaload, 1, 0, 0) := by decide +kernel
theorem p80_18 {s0 s1 : Int} {q0 q1 q2 : MV} {ds : Ds} {m : Mm} {Q : Ds → Mm → List MV → Prop} : WP 80 18 [q0, q1, q2] [(0, s0), (2, s1)] ds m Q = (((dk ds s1 = 13 ∨ dk ds s1 = 14) ∧ 0 ≤ s0 ∧ s0 < dl ds s1 ∧ WP 80 19 [q0, q1, q2] [(2, m s1 s0)] ds m Q)) := P_g3 k80_18 rfl
set_option maxRecDepth 20000 in
theorem k80_19 : mjCode 80 19 = some (.astore_n 2, 1, 0, 0) := by decide +kernel
theorem p80_19 {l1 s0 : Int} {q0 q2 : MV} {ds : Ds} {m : Mm} {Q : Ds → Mm → List MV → Prop} : WP 80 19 [q0, (0, l1), q2] [(2, s0)] ds m Q = (WP 80 20 [q0, (0, l1), (2, s0)] [] ds m Q) := P_nx k80_19 rfl
set_option maxRecDepth 20000 in
theorem k80_20 : mjCode 80 20 = some (.aload_n 2, 1, 0, 0) := by decide +kernel
theorem p80_20 {l2 : Int} {q0 q1 : MV} {ds : Ds} {m : Mm} {Q : Ds → Mm → List MV → Prop} : WP 80 20 [q0, q1, (2, l2)] [] ds m Q = (WP 80 21 [q0, q1, (2, l2)] [(2, l2)] ds m Q) := P_nx k80_20 rfl
set_option maxRecDepth 20000 in
theorem k80_21 : mjCode 80 21 = some (.ifnonnull 25, 3, 46, 0) := by decide +kernel
theorem p80_21 {s0 : Int} {q0 q1 q2 : MV} {ds : Ds} {m : Mm} {Q : Ds → Mm → List MV → Prop} : WP 80 21 [q0, q1, q2] [(2, s0)] ds m Q = (if s0 < 0 then WP 80 24 [q0, q1, q2] [] ds m Q else WP 80 46 [q0, q1, q2] [] ds m Q) := P_if k80_21 rfl
set_option maxRecDepth 20000 in
theorem k80_24 : mjCode 80 24 = some (.new 15, 3, 3, 0) := by decide +kernel
theorem p80_24 {q0 q1 q2 : MV} {ds : Ds} {m : Mm} {Q : Ds → Mm → List MV → Prop} : WP 80 24 [q0, q1, q2] [] ds m Q = (WP 80 27 [q0, q1, q2] [(2, (ds.length : Int))] (ds ++ [(3, 9)]) (al m (ds.length : Int) (dfl 3)) Q) := P_nx k80_24 rfl
set_option maxRecDepth 20000 in
theorem k80_27 : mjCode 80 27 = some (.dup, 1, 0, 0) := by decide +kernel
theorem p80_27 {s0 : Int} {q0 q1 q2 : MV} {ds : Ds} {m : Mm} {Q : Ds → Mm → List MV → Prop} : WP 80 27 [q0, q1, q2] [(2, s0)] ds m Q = (WP 80 28 [q0, q1, q2] [(2, s0), (2, s0)] ds m Q) := P_nx k80_27 rfl
set_option maxRecDepth 20000 in
theorem k80_28 : mjCode 80 28 = some (.invokespecial 41, 3, 23, 1) := by decide +kernel
theorem p80_28 {s0 s1 : Int} {q0 q1 q2 : MV} {ds : Ds} {m : Mm} {Q : Ds → Mm → List MV → Prop} : WP 80 28 [q0, q1, q2] [(2, s0), (2, s1)] ds m Q = ((dk ds s0 = 3 ∧ WP 22 0 [(2, s0)] [] ds m (fun d2 m2 r2 => WP 80 31 [q0, q1, q2] (r2 ++ [(2, s1)]) d2 m2 Q))) := P_cv k80_28 mx22 mo22 rfl rfl rfl rfl rfl rfl rfl rfl
set_option maxRecDepth 20000 in
theorem k80_31 : mjCode 80 31 = some (.astore_n 2, 1, 0, 0) := by decide +kernel
theorem p80_31 {l1 s0 : Int} {q0 q2 : MV} {ds : Ds} {m : Mm} {Q : Ds → Mm → List MV → Prop} : WP 80 31 [q0, (0, l1), q2] [(2, s0)] ds m Q = (WP 80 32 [q0, (0, l1), (2, s0)] [] ds m Q) := P_nx k80_31 rfl
set_option maxRecDepth 20000 in
theorem k80_32 : mjCode 80 32 = some (.aload_n 0, 1, 0, 0) := by decide +kernel
theorem p80_32 {l0 : Int} {q1 q2 : MV} {ds : Ds} {m : Mm} {Q : Ds → Mm → List MV → Prop} : WP 80 32 [(2, l0), q1, q2] [] ds m Q = (WP 80 33 [(2, l0), q1, q2] [(2, l0)] ds m Q) := P_nx k80_32 rfl
set_option maxRecDepth 20000 in
theorem k80_33 : mjCode 80 33 = some (.getfield 17, 3, 6, 3) := by decide +kernel
theorem p80_33 {s0 : Int} {q0 q1 q2 : MV} {ds : Ds} {m : Mm} {Q : Ds → Mm → List MV → Prop} : WP 80 33 [q0, q1, q2] [(2, s0)] ds m Q = ((dk ds s0 = 6 ∧ WP 80 36 [q0, q1, q2] [(2, m s0 3)] ds m Q)) := P_gd k80_33 rfl
set_option maxRecDepth 20000 in
theorem k80_36 : mjCode 80 36 = some (.iload_n 1, 1, 0, 0) := by decide +kernel
theorem p80_36 {l1 s0 : Int} {q0 q2 : MV} {ds : Ds} {m : Mm} {Q : Ds → Mm → List MV → Prop} : WP 80 36 [q0, (0, l1), q2] [(2, s0)] ds m Q = (WP 80 37 [q0, (0, l1), q2] [(0, l1), (2, s0)] ds m Q) := P_nx k80_36 rfl
set_option maxRecDepth 20000 in
theorem k80_37 : mjCode 80 37 = some (.aload_n 2, 1, 0, 0) := by decide +kernel
theorem p80_37 {l2 s0 s1 : Int} {q0 q1 : MV} {ds : Ds} {m : Mm} {Q : Ds → Mm → List MV → Prop} : WP 80 37 [q0, q1, (2, l2)] [(0, s0), (2, s1)] ds m Q = (WP 80 38 [q0, q1, (2, l2)] [(2, l2), (0, s0), (2, s1)] ds m Q) := P_nx k80_37 rfl
set_option maxRecDepth 20000 in
theorem k80_38 : mjCode 80 38 = some (.aastore, 1, 0, 0) := by decide +kernel
theorem p80_38 {s0 s1 s2 : Int} {q0 q1 q2 : MV} {ds : Ds} {m : Mm} {Q : Ds → Mm → List MV → Prop} : WP 80 38 [q0, q1, q2] [(2, s0), (0, s1), (2, s2)] ds m Q = (((dk ds s2 = 13 ∧ (s0 < 0 ∨ dk ds s0 = 4) ∨ dk ds s2 = 14 ∧ (s0 < 0 ∨ dk ds s0 = 3)) ∧ 0 ≤ s1 ∧ s1 < dl ds s2 ∧ WP 80 39 [q0, q1, q2] [] ds (up m s2 s1 s0) Q)) := P_g3 k80_38 rfl
set_option maxRecDepth 20000 in
theorem k80_39 : mjCode 80 39 = some (.aload_n 0, 1, 0, 0) := by decide +kernel
theorem p80_39 {l0 : Int} {q1 q2 : MV} {ds : Ds} {m : Mm} {Q : Ds → Mm → List MV → Prop} : WP 80 39 [(2, l0), q1, q2] [] ds m Q = (WP 80 40 [(2, l0), q1, q2] [(2, l0)] ds m Q) := P_nx k80_39 rfl
set_option maxRecDepth 20000 in
theorem k80_40 : mjCode 80 40 = some (.getfield 11, 3, 6, 2) := by decide +kernel
theorem p80_40 {s0 : Int} {q0 q1 q2 : MV} {ds : Ds} {m : Mm} {Q : Ds → Mm → List MV → Prop} : WP 80 40 [q0, q1, q2] [(2, s0)] ds m Q = ((dk ds s0 = 6 ∧ WP 80 43 [q0, q1, q2] [(2, m s0 2)] ds m Q)) := P_gd k80_40 rfl
set_option maxRecDepth 20000 in
theorem k80_43 : mjCode 80 43 = some (.iload_n 1, 1, 0, 0) := by decide +kernel
theorem p80_43 {l1 s0 : Int} {q0 q2 : MV} {ds : Ds} {m : Mm} {Q : Ds → Mm → List MV → Prop} : WP 80 43 [q0, (0, l1), q2] [(2, s0)] ds m Q = (WP 80 44 [q0, (0, l1), q2] [(0, l1), (2, s0)] ds m Q) := P_nx k80_43 rfl
set_option maxRecDepth 20000 in
theorem k80_44 : mjCode 80 44 = some (.aconst_null, 1, 0, 0) := by decide +kernel
theorem p80_44 {s0 s1 : Int} {q0 q1 q2 : MV} {ds : Ds} {m : Mm} {Q : Ds → Mm → List MV → Prop} : WP 80 44 [q0, q1, q2] [(0, s0), (2, s1)] ds m Q = (WP 80 45 [q0, q1, q2] [(2, -1), (0, s0), (2, s1)] ds m Q) := P_nx k80_44 rfl
set_option maxRecDepth 20000 in
theorem k80_45 : mjCode 80 45 = some (.aastore, 1, 0, 0) := by decide +kernel
theorem p80_45 {s0 s1 s2 : Int} {q0 q1 q2 : MV} {ds : Ds} {m : Mm} {Q : Ds → Mm → List MV → Prop} : WP 80 45 [q0, q1, q2] [(2, s0), (0, s1), (2, s2)] ds m Q = (((dk ds s2 = 13 ∧ (s0 < 0 ∨ dk ds s0 = 4) ∨ dk ds s2 = 14 ∧ (s0 < 0 ∨ dk ds s0 = 3)) ∧ 0 ≤ s1 ∧ s1 < dl ds s2 ∧ WP 80 46 [q0, q1, q2] [] ds (up m s2 s1 s0) Q)) := P_g3 k80_45 rfl
set_option maxRecDepth 20000 in
theorem k80_46 : mjCode 80 46 = some (.aload_n 2, 1, 0, 0) := by decide +kernel
theorem p80_46 {l2 : Int} {q0 q1 : MV} {ds : Ds} {m : Mm} {Q : Ds → Mm → List MV → Prop} : WP 80 46 [q0, q1, (2, l2)] [] ds m Q = (WP 80 47 [q0, q1, (2, l2)] [(2, l2)] ds m Q) := P_nx k80_46 rfl
set_option maxRecDepth 20000 in
theorem k80_47 : mjCode 80 47 = some (.aload_n 0, 1, 0, 0) := by decide +kernel
theorem p80_47 {l0 s0 : Int} {q1 q2 : MV} {ds : Ds} {m : Mm} {Q : Ds → Mm → List MV → Prop} : WP 80 47 [(2, l0), q1, q2] [(2, s0)] ds m Q = (WP 80 48 [(2, l0), q1, q2] [(2, l0), (2, s0)] ds m Q) := P_nx k80_47 rfl
set_option maxRecDepth 20000 in
theorem k80_48 : mjCode 80 48 = some (.getfield 45, 3, 6, 0) := by decide +kernel
theorem p80_48 {s0 s1 : Int} {q0 q1 q2 : MV} {ds : Ds} {m : Mm} {Q : Ds → Mm → List MV → Prop} : WP 80 48 [q0, q1, q2] [(2, s0), (2, s1)] ds m Q = ((dk ds s0 = 6 ∧ WP 80 51 [q0, q1, q2] [(2, m s0 0), (2, s1)] ds m Q)) := P_gd k80_48 rfl
set_option maxRecDepth 20000 in
theorem k80_51 : mjCode 80 51 = some (.invokevirtual 181, 3, 24, 2) := by decide +kernel
theorem p80_51 {s0 s1 : Int} {q0 q1 q2 : MV} {ds : Ds} {m : Mm} {Q : Ds → Mm → List MV → Prop} : WP 80 51 [q0, q1, q2] [(2, s0), (2, s1)] ds m Q = ((dk ds s1 = 3 ∧ WP 23 0 [(2, s1), (2, s0), (3, 0)] [] ds m (fun d2 m2 r2 => WP 80 54 [q0, q1, q2] (r2 ++ []) d2 m2 Q))) := P_cv k80_51 mx23 mo23 rfl rfl rfl rfl rfl rfl rfl rfl
set_option maxRecDepth 20000 in
theorem k80_54 : mjCode 80 54 = some (.aload_n 0, 1, 0, 0) := by decide +kernel
theorem p80_54 {l0 : Int} {q1 q2 : MV} {ds : Ds} {m : Mm} {Q : Ds → Mm → List MV → Prop} : WP 80 54 [(2, l0), q1, q2] [] ds m Q = (WP 80 55 [(2, l0), q1, q2] [(2, l0)] ds m Q) := P_nx k80_54 rfl
set_option maxRecDepth 20000 in
theorem k80_55 : mjCode 80 55 = some (.getfield 45, 3, 6, 0) := by decide +kernel
theorem p80_55 {s0 : Int} {q0 q1 q2 : MV} {ds : Ds} {m : Mm} {Q : Ds → Mm → List MV → Prop} : WP 80 55 [q0, q1, q2] [(2, s0)] ds m Q = ((dk ds s0 = 6 ∧ WP 80 58 [q0, q1, q2] [(2, m s0 0)] ds m Q)) := P_gd k80_55 rfl
set_option maxRecDepth 20000 in
theorem k80_58 : mjCode 80 58 = some (.invokevirtual 127, 3, 41, 1) := by decide +kernel
theorem p80_58 {s0 : Int} {q0 q1 q2 : MV} {ds : Ds} {m : Mm} {Q : Ds → Mm → List MV → Prop} : WP 80 58 [q0, q1, q2] [(2, s0)] ds m Q = ((dk ds s0 = 3 ∧ WP 40 0 [(2, s0), (3, 0), (3, 0)] [] ds m (fun d2 m2 r2 => WP 80 61 [q0, q1, q2] (r2 ++ []) d2 m2 Q))) := P_cv k80_58 mx40 mo40 rfl rfl rfl rfl rfl rfl rfl rfl
set_option maxRecDepth 20000 in
theorem k80_61 : mjCode 80 61 = some (.ireturn, 1, 0, 0) := by decide +kernel
theorem p80_61 {s0 : Int} {q0 q1 q2 : MV} {ds : Ds} {m : Mm} {Q : Ds → Mm → List MV → Prop} : WP 80 61 [q0, q1, q2] [(0, s0)] ds m Q = (Q ds m [(0, s0)]) := P_ri k80_61 rk80
set_option maxRecDepth 20000 in
theorem k81_0 : mjCode 81 0 = some (.iload_n 1, 1, 0, 0) := by decide +kernel
theorem p81_0 {l1 : Int} {q0 q2 : MV} {ds : Ds} {m : Mm} {Q : Ds → Mm → List MV → Prop} : WP 81 0 [q0, (0, l1), q2] [] ds m Q = (WP 81 1 [q0, (0, l1), q2] [(0, l1)] ds m Q) := P_nx k81_0 rfl
set_option maxRecDepth 20000 in
theorem k81_1 : mjCode 81 1 = some (.invokestatic 140, 3, 110, 1) := by decide +kernel
theorem p81_1 {s0 : Int} {q0 q1 q2 : MV} {ds : Ds} {m : Mm} {Q : Ds → Mm → List MV → Prop} : WP 81 1 [q0, q1, q2] [(0, s0)] ds m Q = (WP 109 0 [(0, s0)] [] ds m (fun d2 m2 r2 => WP 81 4 [q0, q1, q2] (r2 ++ []) d2 m2 Q)) := P_cs k81_1 mx109 rfl rfl rfl rfl rfl rfl rfl
set_option maxRecDepth 20000 in
theorem k81_4 : mjCode 81 4 = some (.ifCond .ne 9, 3, 13, 0) := by decide +kernel
theorem p81_4 {s0 : Int} {q0 q1 q2 : MV} {ds : Ds} {m : Mm} {Q : Ds → Mm → List MV → Prop} : WP 81 4 [q0, q1, q2] [(0, s0)] ds m Q = (if s0 = 0 then WP 81 7 [q0, q1, q2] [] ds m Q else WP 81 13 [q0, q1, q2] [] ds m Q) := P_if k81_4 rfl
set_option maxRecDepth 20000 in
theorem k81_7 : mjCode 81 7 = some (.aload_n 0, 1, 0, 0) := by decide +kernel
theorem p81_7 {l0 : Int} {q1 q2 : MV} {ds : Ds} {m : Mm} {Q : Ds → Mm → List MV → Prop} : WP 81 7 [(2, l0), q1, q2] [] ds m Q = (WP 81 8 [(2, l0), q1, q2] [(2, l0)] ds m Q) := P_nx k81_7 rfl
set_option maxRecDepth 20000 in
theorem k81_8 : mjCode 81 8 = some (.iconst (-1), 1, 0, 0) := by decide +kernel
theorem p81_8 {s0 : Int} {q0 q1 q2 : MV} {ds : Ds} {m : Mm} {Q : Ds → Mm → List MV → Prop} : WP 81 8 [q0, q1, q2] [(2, s0)] ds m Q = (WP 81 9 [q0, q1, q2] [(0, (-1)), (2, s0)] ds m Q) := P_nx k81_8 rfl
set_option maxRecDepth 20000 in
theorem k81_9 : mjCode 81 9 = some (.invokevirtual 73, 3, 96, 2) := by decide +kernel
theorem p81_9 {s0 s1 : Int} {q0 q1 q2 : MV} {ds : Ds} {m : Mm} {Q : Ds → Mm → List MV → Prop} : WP 81 9 [q0, q1, q2] [(0, s0), (2, s1)] ds m Q = ((dk ds s1 = 6 ∧ WP 95 0 [(2, s1), (0, s0), (3, 0)] [] ds m (fun d2 m2 r2 => WP 81 12 [q0, q1, q2] (r2 ++ []) d2 m2 Q))) := P_cv k81_9 mx95 mo95 rfl rfl rfl rfl rfl rfl rfl rfl
set_option maxRecDepth 20000 in
theorem k81_12 : mjCode 81 12 = some (.ireturn, 1, 0, 0) := by decide +kernel
theorem p81_12 {s0 : Int} {q0 q1 q2 : MV} {ds : Ds} {m : Mm} {Q : Ds → Mm → List MV → Prop} : WP 81 12 [q0, q1, q2] [(0, s0)] ds m Q = (Q ds m [(0, s0)]) := P_ri k81_12 rk81
set_option maxRecDepth 20000 in
theorem k81_13 : mjCode 81 13 = some (.aload_n 0, 1, 0, 0) := by decide +kernel
theorem p81_13 {l0 : Int} {q1 q2 : MV} {ds : Ds} {m : Mm} {Q : Ds → Mm → List MV → Prop} : WP 81 13 [(2, l0), q1, q2] [] ds m Q = (WP 81 14 [(2, l0), q1, q2] [(2, l0)] ds m Q) := P_nx k81_13 rfl
set_option maxRecDepth 20000 in
theorem k81_14 : mjCode 81 14 = some (.getfield 11, 3, 6, 2) := by decide +kernel
theorem p81_14 {s0 : Int} {q0 q1 q2 : MV} {ds : Ds} {m : Mm} {Q : Ds → Mm → List MV → Prop} : WP 81 14 [q0, q1, q2] [(2, s0)] ds m Q = ((dk ds s0 = 6 ∧ WP 81 17 [q0, q1, q2] [(2, m s0 2)] ds m Q)) := P_gd k81_14 rfl
set_option maxRecDepth 20000 in
theorem k81_17 : mjCode 81 17 = some (.iload_n 1, 1, 0, 0) := by decide +kernel
theorem p81_17 {l1 s0 : Int} {q0 q2 : MV} {ds : Ds} {m : Mm} {Q : Ds → Mm → List MV → Prop} : WP 81 17 [q0, (0, l1), q2] [(2, s0)] ds m Q = (WP 81 18 [q0, (0, l1), q2] [(0, l1), (2, s0)] ds m Q) := P_nx k81_17 rfl
set_option maxRecDepth 20000 in
theorem k81_18 : mjCode 81 18 = some (.aaload, 1, 0, 0) := by decide +kernel
theorem p81_18 {s0 s1 : Int} {q0 q1 q2 : MV} {ds : Ds} {m : Mm} {Q : Ds → Mm → List MV → Prop} : WP 81 18 [q0, q1, q2] [(0, s0), (2, s1)] ds m Q = (((dk ds s1 = 13 ∨ dk ds s1 = 14) ∧ 0 ≤ s0 ∧ s0 < dl ds s1 ∧ WP 81 19 [q0, q1, q2] [(2, m s1 s0)] ds m Q)) := P_g3 k81_18 rfl
set_option maxRecDepth 20000 in
theorem k81_19 : mjCode 81 19 = some (.ifnull 10, 3, 29, 0) := by decide +kernel
theorem p81_19 {s0 : Int} {q0 q1 q2 : MV} {ds : Ds} {m : Mm} {Q : Ds → Mm → List MV → Prop} : WP 81 19 [q0, q1, q2] [(2, s0)] ds m Q = (if s0 < 0 then WP 81 29 [q0, q1, q2] [] ds m Q else WP 81 22 [q0, q1, q2] [] ds m Q) := P_if k81_19 rfl
set_option maxRecDepth 20000 in
theorem k81_22 : mjCode 81 22 = some (.aload_n 0, 1, 0, 0) := by decide +kernel
theorem p81_22 {l0 : Int} {q1 q2 : MV} {ds : Ds} {m : Mm} {Q : Ds → Mm → List MV → Prop} : WP 81 22 [(2, l0), q1, q2] [] ds m Q = (WP 81 23 [(2, l0), q1, q2] [(2, l0)] ds m Q) := P_nx k81_22 rfl
set_option maxRecDepth 20000 in
theorem k81_23 : mjCode 81 23 = some (.bipush (-2), 2, 0, 0) := by decide +kernel
theorem p81_23 {s0 : Int} {q0 q1 q2 : MV} {ds : Ds} {m : Mm} {Q : Ds → Mm → List MV → Prop} : WP 81 23 [q0, q1, q2] [(2, s0)] ds m Q = (WP 81 25 [q0, q1, q2] [(0, (-2)), (2, s0)] ds m Q) := P_nx k81_23 rfl
set_option maxRecDepth 20000 in
theorem k81_25 : mjCode 81 25 = some (.invokevirtual 73, 3, 96, 2) := by decide +kernel
theorem p81_25 {s0 s1 : Int} {q0 q1 q2 : MV} {ds : Ds} {m : Mm} {Q : Ds → Mm → List MV → Prop} : WP 81 25 [q0, q1, q2] [(0, s0), (2, s1)] ds m Q = ((dk ds s1 = 6 ∧ WP 95 0 [(2, s1), (0, s0), (3, 0)] [] ds m (fun d2 m2 r2 => WP 81 28 [q0, q1, q2] (r2 ++ []) d2 m2 Q))) := P_cv k81_25 mx95 mo95 rfl rfl rfl rfl rfl rfl rfl rfl
set_option maxRecDepth 20000 in
theorem k81_28 : mjCode 81 28 = some (.ireturn, 1, 0, 0) := by decide +kernel
theorem p81_28 {s0 : Int} {q0 q1 q2 : MV} {ds : Ds} {m : Mm} {Q : Ds → Mm → List MV → Prop} : WP 81 28 [q0, q1, q2] [(0, s0)] ds m Q = (Q ds m [(0, s0)]) := P_ri k81_28 rk81
set_option maxRecDepth 20000 in
theorem k81_29 : mjCode 81 29 = some (.aload_n 0, 1, 0, 0) := by decide +kernel
theorem p81_29 {l0 : Int} {q1 q2 : MV} {ds : Ds} {m : Mm} {Q : Ds → Mm → List MV → Prop} : WP 81 29 [(2, l0), q1, q2] [] ds m Q = (WP 81 30 [(2, l0), q1, q2] [(2, l0)] ds m Q) := P_nx k81_29 rfl
set_option maxRecDepth 20000 in
theorem k81_30 : mjCode 81 30 = some (.getfield 17, 3, 6, 3) := by decide +kernel
theorem p81_30 {s0 : Int} {q0 q1 q2 : MV} {ds : Ds} {m : Mm} {Q : Ds → Mm → List MV → Prop} : WP 81 30 [q0, q1, q2] [(2, s0)] ds m Q = ((dk ds s0 = 6 ∧ WP 81 33 [q0, q1, q2] [(2, m s0 3)] ds m Q)) := P_gd k81_30 rfl
set_option maxRecDepth 20000 in
theorem k81_33 : mjCode 81 33 = some (.iload_n 1, 1, 0, 0) := by decide +kernel
theorem p81_33 {l1 s0 : Int} {q0 q2 : MV} {ds : Ds} {m : Mm} {Q : Ds → Mm → List MV → Prop} : WP 81 33 [q0, (0, l1), q2] [(2, s0)] ds m Q = (WP 81 34 [q0, (0, l1), q2] [(0, l1), (2, s0)] ds m Q) := P_nx k81_33 rfl
set_option maxRecDepth 20000 in
theorem k81_34 : mjCode 81 34 = some (.aaload, 1, 0, 0) := by decide +kernel
theorem p81_34 {s0 s1 : Int} {q0 q1 q2 : MV} {ds : Ds} {m : Mm} {Q : Ds → Mm → List MV → Prop} : WP 81 34 [q0, q1, q2] [(0, s0), (2, s1)] ds m Q = (((dk ds s1 = 13 ∨ dk ds s1 = 14) ∧ 0 ≤ s0 ∧ s0 < dl ds s1 ∧ WP 81 35 [q0, q1, q2] [(2, m s1 s0)] ds m Q)) := P_g3 k81_34 rfl
set_option maxRecDepth 20000 in
theorem k81_35 : mjCode 81 35 = some (.astore_n 2, 1, 0, 0) := by decide +kernel
theorem p81_35 {l1 s0 : Int} {q0 q2 : MV} {ds : Ds} {m : Mm} {Q : Ds → Mm → List MV → Prop} : WP 81 35 [q0, (0, l1), q2] [(2, s0)] ds m Q = (WP 81 36 [q0, (0, l1), (2, s0)] [] ds m Q) := P_nx k81_35 rfl
set_option maxRecDepth 20000 in
theorem k81_36 : mjCode 81 36 = some (.aload_n 2, 1, 0, 0) := by decide +kernel
theorem p81_36 {l2 : Int} {q0 q1 : MV} {ds : Ds} {m : Mm} {Q : Ds → Mm → List MV → Prop} : WP 81 36 [q0, q1, (2, l2)] [] ds m Q = (WP 81 37 [q0, q1, (2, l2)] [(2, l2)] ds m Q) := P_nx k81_36 rfl
set_option maxRecDepth 20000 in
theorem k81_37 : mjCode 81 37 = some (.ifnonnull 10, 3, 47, 0) := by decide +kernel
theorem p81_37 {s0 : Int} {q0 q1 q2 : MV} {ds : Ds} {m : Mm} {Q : Ds → Mm → List MV → Prop} : WP 81 37 [q0, q1, q2] [(2, s0)] ds m Q = (if s0 < 0 then WP 81 40 [q0, q1, q2] [] ds m Q else WP 81 47 [q0, q1, q2] [] ds m Q) := P_if k81_37 rfl
set_option maxRecDepth 20000 in
theorem k81_40 : mjCode 81 40 = some (.aload_n 0, 1, 0, 0) := by decide +kernel
theorem p81_40 {l0 : Int} {q1 q2 : MV} {ds : Ds} {m : Mm} {Q : Ds → Mm → List MV → Prop} : WP 81 40 [(2, l0), q1, q2] [] ds m Q = (WP 81 41 [(2, l0), q1, q2] [(2, l0)] ds m Q) := P_nx k81_40 rfl
set_option maxRecDepth 20000 in
theorem k81_41 : mjCode 81 41 = some (.bipush (-3), 2, 0, 0) := by decide +kernel
theorem p81_41 {s0 : Int} {q0 q1 q2 : MV} {ds : Ds} {m : Mm} {Q : Ds → Mm → List MV → Prop} : WP 81 41 [q0, q1, q2] [(2, s0)] ds m Q = (WP 81 43 [q0, q1, q2] [(0, (-3)), (2, s0)] ds m Q) := P_nx k81_41 rfl
set_option maxRecDepth 20000 in
theorem k81_43 : mjCode 81 43 = some (.invokevirtual 73, 3, 96, 2) := by decide +kernel
theorem p81_43 {s0 s1 : Int} {q0 q1 q2 : MV} {ds : Ds} {m : Mm} {Q : Ds → Mm → List MV → Prop} : WP 81 43 [q0, q1, q2] [(0, s0), (2, s1)] ds m Q = ((dk ds s1 = 6 ∧ WP 95 0 [(2, s1), (0, s0), (3, 0)] [] ds m (fun d2 m2 r2 => WP 81 46 [q0, q1, q2] (r2 ++ []) d2 m2 Q))) := P_cv k81_43 mx95 mo95 rfl rfl rfl rfl rfl rfl rfl rfl
set_option maxRecDepth 20000 in
theorem k81_46 : mjCode 81 46 = some (.ireturn, 1, 0, 0) := by decide +kernel
theorem p81_46 {s0 : Int} {q0 q1 q2 : MV} {ds : Ds} {m : Mm} {Q : Ds → Mm → List MV → Prop} : WP 81 46 [q0, q1, q2] [(0, s0)] ds m Q = (Q ds m [(0, s0)]) := P_ri k81_46 rk81
set_option maxRecDepth 20000 in
theorem k81_47 : mjCode 81 47 = some (.aload_n 0, 1, 0, 0) := by decide +kernel
theorem p81_47 {l0 : Int} {q1 q2 : MV} {ds : Ds} {m : Mm} {Q : Ds → Mm → List MV → Prop} : WP 81 47 [(2, l0), q1, q2] [] ds m Q = (WP 81 48 [(2, l0), q1, q2] [(2, l0)] ds m Q) := P_nx k81_47 rfl
set_option maxRecDepth 20000 in
theorem k81_48 : mjCode 81 48 = some (.getfield 45, 3, 6, 0) := by decide +kernel
theorem p81_48 {s0 : Int} {q0 q1 q2 : MV} {ds : Ds} {m : Mm} {Q : Ds → Mm → List MV → Prop} : WP 81 48 [q0, q1, q2] [(2, s0)] ds m Q = ((dk ds s0 = 6 ∧ WP 81 51 [q0, q1, q2] [(2, m s0 0)] ds m Q)) := P_gd k81_48 rfl
set_option maxRecDepth 20000 in
theorem k81_51 : mjCode 81 51 = some (.aload_n 2, 1, 0, 0) := by decide +kernel
theorem p81_51 {l2 s0 : Int} {q0 q1 : MV} {ds : Ds} {m : Mm} {Q : Ds → Mm → List MV → Prop} : WP 81 51 [q0, q1, (2, l2)] [(2, s0)] ds m Q = (WP 81 52 [q0, q1, (2, l2)] [(2, l2), (2, s0)] ds m Q) := P_nx k81_51 rfl
set_option maxRecDepth 20000 in
theorem k81_52 : mjCode 81 52 = some (.invokevirtual 181, 3, 24, 2) := by decide +kernel
theorem p81_52 {s0 s1 : Int} {q0 q1 q2 : MV} {ds : Ds} {m : Mm} {Q : Ds → Mm → List MV → Prop} : WP 81 52 [q0, q1, q2] [(2, s0), (2, s1)] ds m Q = ((dk ds s1 = 3 ∧ WP 23 0 [(2, s1), (2, s0), (3, 0)] [] ds m (fun d2 m2 r2 => WP 81 55 [q0, q1, q2] (r2 ++ []) d2 m2 Q))) := P_cv k81_52 mx23 mo23 rfl rfl rfl rfl rfl rfl rfl rfl
set_option maxRecDepth 20000 in
theorem k81_55 : mjCode 81 55 = some (.aload_n 0, 1, 0, 0) := by decide +kernel
theorem p81_55 {l0 : Int} {q1 q2 : MV} {ds : Ds} {m : Mm} {Q : Ds → Mm → List MV → Prop} : WP 81 55 [(2, l0), q1, q2] [] ds m Q = (WP 81 56 [(2, l0), q1, q2] [(2, l0)] ds m Q) := P_nx k81_55 rfl
set_option maxRecDepth 20000 in
theorem k81_56 : mjCode 81 56 = some (.getfield 45, 3, 6, 0) := by decide +kernel
theorem p81_56 {s0 : Int} {q0 q1 q2 : MV} {ds : Ds} {m : Mm} {Q : Ds → Mm → List MV → Prop} : WP 81 56 [q0, q1, q2] [(2, s0)] ds m Q = ((dk ds s0 = 6 ∧ WP 81 59 [q0, q1, q2] [(2, m s0 0)] ds m Q)) := P_gd k81_56 rfl
set_option maxRecDepth 20000 in
theorem k81_59 : mjCode 81 59 = some (.invokevirtual 127, 3, 41, 1) := by decide +kernel
theorem p81_59 {s0 : Int} {q0 q1 q2 : MV} {ds : Ds} {m : Mm} {Q : Ds → Mm → List MV → Prop} : WP 81 59 [q0, q1, q2] [(2, s0)] ds m Q = ((dk ds s0 = 3 ∧ WP 40 0 [(2, s0), (3, 0), (3, 0)] [] ds m (fun d2 m2 r2 => WP 81 62 [q0, q1, q2] (r2 ++ []) d2 m2 Q))) := P_cv k81_59 mx40 mo40 rfl rfl rfl rfl rfl rfl rfl rfl
set_option maxRecDepth 20000 in
theorem k81_62 : mjCode 81 62 = some (.ireturn, 1, 0, 0) := by decide +kernel
theorem p81_62 {s0 : Int} {q0 q1 q2 : MV} {ds : Ds} {m : Mm} {Q : Ds → Mm → List MV → Prop} : WP 81 62 [q0, q1, q2] [(0, s0)] ds m Q = (Q ds m [(0, s0)]) := P_ri k81_62 rk81
set_option maxRecDepth 20000 in
theorem k82_0 : mjCode 82 0 = some (.aload_n 0, 1, 0, 0) := by decide +kernel
theorem p82_0 {l0 : Int} {ds : Ds} {m : Mm} {Q : Ds → Mm → List MV → Prop} : WP 82 0 [(2, l0)] [] ds m Q = (WP 82 1 [(2, l0)] [(2, l0)] ds m Q) := P_nx k82_0 rfl
set_option maxRecDepth 20000 in
theorem k82_1 : mjCode 82 1 = some (.dup, 1, 0, 0) := by decide +kernel
theorem p82_1 {s0 : Int} {q0 : MV} {ds : Ds} {m : Mm} {Q : Ds → Mm → List MV → Prop} : WP 82 1 [q0] [(2, s0)] ds m Q = (WP 82 2 [q0] [(2, s0), (2, s0)] ds m Q) := P_nx k82_1 rfl
set_option maxRecDepth 20000 in
theorem k82_2 : mjCode 82 2 = some (.getfield 137, 3, 6, 6) := by decide +kernel
theorem p82_2 {s0 s1 : Int} {q0 : MV} {ds : Ds} {m : Mm} {Q : Ds → Mm → List MV → Prop} : WP 82 2 [q0] [(2, s0), (2, s1)] ds m Q = ((dk ds s0 = 6 ∧ WP 82 5 [q0] [(0, m s0 6), (2, s1)] ds m Q)) := P_gd k82_2 rfl
set_option maxRecDepth 20000 in
theorem k82_5 : mjCode 82 5 = some (.iconst 1, 1, 0, 0) := by decide +kernel
theorem p82_5 {s0 s1 : Int} {q0 : MV} {ds : Ds} {m : Mm} {Q : Ds → Mm → List MV → Prop} : WP 82 5 [q0] [(0, s0), (2, s1)] ds m Q = (WP 82 6 [q0] [(0, 1), (0, s0), (2, s1)] ds m Q) := P_nx k82_5 rfl
set_option maxRecDepth 20000 in
theorem k82_6 : mjCode 82 6 = some (.iadd, 1, 0, 0) := by decide +kernel
theorem p82_6 {s0 s1 s2 : Int} {q0 : MV} {ds : Ds} {m : Mm} {Q : Ds → Mm → List MV → Prop} : WP 82 6 [q0] [(0, s0), (0, s1), (2, s2)] ds m Q = (WP 82 7 [q0] [(0, w32 (s1 + s0)), (2, s2)] ds m Q) := P_nx k82_6 rfl
set_option maxRecDepth 20000 in
theorem k82_7 : mjCode 82 7 = some (.putfield 137, 3, 6, 6) := by decide +kernel
theorem p82_7 {s0 s1 : Int} {q0 : MV} {ds : Ds} {m : Mm} {Q : Ds → Mm → List MV → Prop} : WP 82 7 [q0] [(0, s0), (2, s1)] ds m Q = ((dk ds s1 = 6 ∧ WP 82 10 [q0] [] ds (up m s1 6 s0) Q)) := P_pf k82_7 rfl
set_option maxRecDepth 20000 in
theorem k82_10 : mjCode 82 10 = some (.aload_n 0, 1, 0, 0) := by decide +kernel
theorem p82_10 {l0 : Int} {ds : Ds} {m : Mm} {Q : Ds → Mm → List MV → Prop} : WP 82 10 [(2, l0)] [] ds m Q = (WP 82 11 [(2, l0)] [(2, l0)] ds m Q) := P_nx k82_10 rfl
set_option maxRecDepth 20000 in
theorem k82_11 : mjCode 82 11 = some (.getfield 62, 3, 6, 4) := by decide +kernel
theorem p82_11 {s0 : Int} {q0 : MV} {ds : Ds} {m : Mm} {Q : Ds → Mm → List MV → Prop} : WP 82 11 [q0] [(2, s0)] ds m Q = ((dk ds s0 = 6 ∧ WP 82 14 [q0] [(2, m s0 4)] ds m Q)) := P_gd k82_11 rfl
set_option maxRecDepth 20000 in
theorem k82_14 : mjCode 82 14 = some (.aload_n 0, 1, 0, 0) := by decide +kernel
theorem p82_14 {l0 s0 : Int} {ds : Ds} {m : Mm} {Q : Ds → Mm → List MV → Prop} : WP 82 14 [(2, l0)] [(2, s0)] ds m Q = (WP 82 15 [(2, l0)] [(2, l0), (2, s0)] ds m Q) := P_nx k82_14 rfl
set_option maxRecDepth 20000 in
theorem k82_15 : mjCode 82 15 = some (.getfield 45, 3, 6, 0) := by decide +kernel
theorem p82_15 {s0 s1 : Int} {q0 : MV} {ds : Ds} {m : Mm} {Q : Ds → Mm → List MV → Prop} : WP 82 15 [q0] [(2, s0), (2, s1)] ds m Q = ((dk ds s0 = 6 ∧ WP 82 18 [q0] [(2, m s0 0), (2, s1)] ds m Q)) := P_gd k82_15 rfl
set_option maxRecDepth 20000 in
theorem k82_18 : mjCode 82 18 = some (.iconst (-1), 1, 0, 0) := by decide +kernel
theorem p82_18 {s0 s1 : Int} {q0 : MV} {ds : Ds} {m : Mm} {Q : Ds → Mm → List MV → Prop} : WP 82 18 [q0] [(2, s0), (2, s1)] ds m Q = (WP 82 19 [q0] [(0, (-1)), (2, s0), (2, s1)] ds m Q) := P_nx k82_18 rfl
set_option maxRecDepth 20000 in
theorem k82_19 : mjCode 82 19 = some (.iconst (-1), 1, 0, 0) := by decide +kernel
theorem p82_19 {s0 s1 s2 : Int} {q0 : MV} {ds : Ds} {m : Mm} {Q : Ds → Mm → List MV → Prop} : WP 82 19 [q0] [(0, s0), (2, s1), (2, s2)] ds m Q = (WP 82 20 [q0] [(0, (-1)), (0, s0), (2, s1), (2, s2)] ds m Q) := P_nx k82_19 rfl
set_option maxRecDepth 20000 in
theorem k82_20 : mjCode 82 20 = some (.invokevirtual 191, 3, 52, 4) := by decide +kernel
theorem p82_20 {s0 s1 s2 s3 : Int} {q0 : MV} {ds : Ds} {m : Mm} {Q : Ds → Mm → List MV → Prop} : WP 82 20 [q0] [(0, s0), (0, s1), (2, s2), (2, s3)] ds m Q = ((dk ds s3 = 5 ∧ WP 51 0 [(2, s3), (2, s2), (0, s1), (0, s0), (3, 0)] [] ds m (fun d2 m2 r2 => WP 82 23 [q0] (r2 ++ []) d2 m2 Q))) := P_cv k82_20 mx51 mo51 rfl rfl rfl rfl rfl rfl rfl rfl
set_option maxRecDepth 20000 in
theorem k82_23 : mjCode 82 23 = some (.pop, 1, 0, 0) := by decide +kernel
theorem p82_23 {s0 : Int} {q0 : MV} {ds : Ds} {m : Mm} {Q : Ds → Mm → List MV → Prop} : WP 82 23 [q0] [(0, s0)] ds m Q = (WP 82 24 [q0] [] ds m Q) := P_nx k82_23 rfl
set_option maxRecDepth 20000 in
theorem k82_24 : mjCode 82 24 = some (.aload_n 0, 1, 0, 0) := by decide +kernel
theorem p82_24 {l0 : Int} {ds : Ds} {m : Mm} {Q : Ds → Mm → List MV → Prop} : WP 82 24 [(2, l0)] [] ds m Q = (WP 82 25 [(2, l0)] [(2, l0)] ds m Q) := P_nx k82_24 rfl
set_option maxRecDepth 20000 in
theorem k82_25 : mjCode 82 25 = some (.getfield 62, 3, 6, 4) := by decide +kernel
theorem p82_25 {s0 : Int} {q0 : MV} {ds : Ds} {m : Mm} {Q : Ds → Mm → List MV → Prop} : WP 82 25 [q0] [(2, s0)] ds m Q = ((dk ds s0 = 6 ∧ WP 82 28 [q0] [(2, m s0 4)] ds m Q)) := P_gd k82_25 rfl
set_option maxRecDepth 20000 in
theorem k82_28 : mjCode 82 28 = some (.getfield 195, 3, 5, 9) := by decide +kernel
theorem p82_28 {s0 : Int} {q0 : MV} {ds : Ds} {m : Mm} {Q : Ds → Mm → List MV → Prop} : WP 82 28 [q0] [(2, s0)] ds m Q = ((dk ds s0 = 5 ∧ WP 82 31 [q0] [(0, m s0 9)] ds m Q)) := P_gd k82_28 rfl
set_option maxRecDepth 20000 in
theorem k82_31 : mjCode 82 31 = some (.ireturn, 1, 0, 0) := by decide +kernel
theorem p82_31 {s0 : Int} {q0 : MV} {ds : Ds} {m : Mm} {Q : Ds → Mm → List MV → Prop} : WP 82 31 [q0] [(0, s0)] ds m Q = (Q ds m [(0, s0)]) := P_ri k82_31 rk82
set_option maxRecDepth 20000 in
theorem k83_0 : mjCode 83 0 = some (.aload_n 0, 1, 0, 0) := by decide +kernel
theorem p83_0 {l0 : Int} {q1 : MV} {ds : Ds} {m : Mm} {Q : Ds → Mm → List MV → Prop} : WP 83 0 [(2, l0), q1] [] ds m Q = (WP 83 1 [(2, l0), q1] [(2, l0)] ds m Q) := P_nx k83_0 rfl
set_option maxRecDepth 20000 in
theorem k83_1 : mjCode 83 1 = some (.getfield 137, 3, 6, 6) := by decide +kernel
theorem p83_1 {s0 : Int} {q0 q1 : MV} {ds : Ds} {m : Mm} {Q : Ds → Mm → List MV → Prop} : WP 83 1 [q0, q1] [(2, s0)] ds m Q = ((dk ds s0 = 6 ∧ WP 83 4 [q0, q1] [(0, m s0 6)] ds m Q)) := P_gd k83_1 rfl
set_option maxRecDepth 20000 in
theorem k83_4 : mjCode 83 4 = some (.ifCond .ne 5, 3, 9, 0) := by decide +kernel
theorem p83_4 {s0 : Int} {q0 q1 : MV} {ds : Ds} {m : Mm} {Q : Ds → Mm → List MV → Prop} : WP 83 4 [q0, q1] [(0, s0)] ds m Q = (if s0 = 0 then WP 83 7 [q0, q1] [] ds m Q else WP 83 9 [q0, q1] [] ds m Q) := P_if k83_4 rfl
set_option maxRecDepth 20000 in
theorem k83_7 : mjCode 83 7 = some (.iconst (-1), 1, 0, 0) := by decide +kernel
theorem p83_7 {q0 q1 : MV} {ds : Ds} {m : Mm} {Q : Ds → Mm → List MV → Prop} : WP 83 7 [q0, q1] [] ds m Q = (WP 83 8 [q0, q1] [(0, (-1))] ds m Q) := P_nx k83_7 rfl
set_option maxRecDepth 20000 in
theorem k83_8 : mjCode 83 8 = some (.ireturn, 1, 0, 0) := by decide +kernel
theorem p83_8 {s0 : Int} {q0 q1 : MV} {ds : Ds} {m : Mm} {Q : Ds → Mm → List MV → Prop} : WP 83 8 [q0, q1] [(0, s0)] ds m Q = (Q ds m [(0, s0)]) := P_ri k83_8 rk83
set_option maxRecDepth 20000 in
theorem k83_9 : mjCode 83 9 = some (.iload_n 1, 1, 0, 0) := by decide +kernel
theorem p83_9 {l1 : Int} {q0 : MV} {ds : Ds} {m : Mm} {Q : Ds → Mm → List MV → Prop} : WP 83 9 [q0, (0, l1)] [] ds m Q = (WP 83 10 [q0, (0, l1)] [(0, l1)] ds m Q) := P_nx k83_9 rfl
set_option maxRecDepth 20000 in
theorem k83_10 : mjCode 83 10 = some (.tableswitch 92 0 5 #[38, 46, 54, 65, 73, 81], 38, 0, 0) := by decide +kernel
theorem p83_10 {s0 : Int} {q0 q1 : MV} {ds : Ds} {m : Mm} {Q : Ds → Mm → List MV → Prop} : WP 83 10 [q0, q1] [(0, s0)] ds m Q = (if s0 = 0 then WP 83 48 [q0, q1] [] ds m Q else if s0 = 1 then WP 83 56 [q0, q1] [] ds m Q else if s0 = 2 then WP 83 64 [q0, q1] [] ds m Q else if s0 = 3 then WP 83 75 [q0, q1] [] ds m Q else if s0 = 4 then WP 83 83 [q0, q1] [] ds m Q else if s0 = 5 then WP 83 91 [q0, q1] [] ds m Q else WP 83 102 [q0, q1] [] ds m Q) := by
  by_cases h0 : s0 = 0
  · subst h0
    rw [if_pos rfl]
    exact P_nx k83_10 rfl
  rw [if_neg h0]
  by_cases h1 : s0 = 1
  · subst h1
    rw [if_pos rfl]
    exact P_nx k83_10 rfl
  rw [if_neg h1]
  by_cases h2 : s0 = 2
  · subst h2
    rw [if_pos rfl]
    exact P_nx k83_10 rfl
  rw [if_neg h2]
  by_cases h3 : s0 = 3
  · subst h3
    rw [if_pos rfl]
    exact P_nx k83_10 rfl
  rw [if_neg h3]
  by_cases h4 : s0 = 4
  · subst h4
    rw [if_pos rfl]
    exact P_nx k83_10 rfl
  rw [if_neg h4]
  by_cases h5 : s0 = 5
  · subst h5
    rw [if_pos rfl]
    exact P_nx k83_10 rfl
  rw [if_neg h5]
  exact P_nx k83_10 (by simp only [stpI]; rw [if_pos (by omega)]; rfl)
set_option maxRecDepth 20000 in
theorem k83_48 : mjCode 83 48 = some (.aload_n 0, 1, 0, 0) := by decide +kernel
theorem p83_48 {l0 : Int} {q1 : MV} {ds : Ds} {m : Mm} {Q : Ds → Mm → List MV → Prop} : WP 83 48 [(2, l0), q1] [] ds m Q = (WP 83 49 [(2, l0), q1] [(2, l0)] ds m Q) := P_nx k83_48 rfl
set_option maxRecDepth 20000 in
theorem k83_49 : mjCode 83 49 = some (.getfield 62, 3, 6, 4) := by decide +kernel
theorem p83_49 {s0 : Int} {q0 q1 : MV} {ds : Ds} {m : Mm} {Q : Ds → Mm → List MV → Prop} : WP 83 49 [q0, q1] [(2, s0)] ds m Q = ((dk ds s0 = 6 ∧ WP 83 52 [q0, q1] [(2, m s0 4)] ds m Q)) := P_gd k83_49 rfl
set_option maxRecDepth 20000 in
theorem k83_52 : mjCode 83 52 = some (.getfield 198, 3, 5, 10) := by decide +kernel
theorem p83_52 {s0 : Int} {q0 q1 : MV} {ds : Ds} {m : Mm} {Q : Ds → Mm → List MV → Prop} : WP 83 52 [q0, q1] [(2, s0)] ds m Q = ((dk ds s0 = 5 ∧ WP 83 55 [q0, q1] [(0, m s0 10)] ds m Q)) := P_gd k83_52 rfl
set_option maxRecDepth 20000 in
theorem k83_55 : mjCode 83 55 = some (.ireturn, 1, 0, 0) := by decide +kernel
theorem p83_55 {s0 : Int} {q0 q1 : MV} {ds : Ds} {m : Mm} {Q : Ds → Mm → List MV → Prop} : WP 83 55 [q0, q1] [(0, s0)] ds m Q = (Q ds m [(0, s0)]) := P_ri k83_55 rk83
set_option maxRecDepth 20000 in
theorem k83_56 : mjCode 83 56 = some (.aload_n 0, 1, 0, 0) := by decide +kernel
theorem p83_56 {l0 : Int} {q1 : MV} {ds : Ds} {m : Mm} {Q : Ds → Mm → List MV → Prop} : WP 83 56 [(2, l0), q1] [] ds m Q = (WP 83 57 [(2, l0), q1] [(2, l0)] ds m Q) := P_nx k83_56 rfl
set_option maxRecDepth 20000 in
theorem k83_57 : mjCode 83 57 = some (.getfield 62, 3, 6, 4) := by decide +kernel
theorem p83_57 {s0 : Int} {q0 q1 : MV} {ds : Ds} {m : Mm} {Q : Ds → Mm → List MV → Prop} : WP 83 57 [q0, q1] [(2, s0)] ds m Q = ((dk ds s0 = 6 ∧ WP 83 60 [q0, q1] [(2, m s0 4)] ds m Q)) := P_gd k83_57 rfl
set_option maxRecDepth 20000 in
theorem k83_60 : mjCode 83 60 = some (.getfield 195, 3, 5, 9) := by decide +kernel
theorem p83_60 {s0 : Int} {q0 q1 : MV} {ds : Ds} {m : Mm} {Q : Ds → Mm → List MV → Prop} : WP 83 60 [q0, q1] [(2, s0)] ds m Q = ((dk ds s0 = 5 ∧ WP 83 63 [q0, q1] [(0, m s0 9)] ds m Q)) := P_gd k83_60 rfl
set_option maxRecDepth 20000 in
theorem k83_63 : mjCode 83 63 = some (.ireturn, 1, 0, 0) := by decide +kernel
theorem p83_63 {s0 : Int} {q0 q1 : MV} {ds : Ds} {m : Mm} {Q : Ds → Mm → List MV → Prop} : WP 83 63 [q0, q1] [(0, s0)] ds m Q = (Q ds m [(0, s0)]) := P_ri k83_63 rk83
set_option maxRecDepth 20000 in
theorem k83_64 : mjCode 83 64 = some (.aload_n 0, 1, 0, 0) := by decide +kernel
theorem p83_64 {l0 : Int} {q1 : MV} {ds : Ds} {m : Mm} {Q : Ds → Mm → List MV → Prop} : WP 83 64 [(2, l0), q1] [] ds m Q = (WP 83 65 [(2, l0), q1] [(2, l0)] ds m Q) := P_nx k83_64 rfl
set_option maxRecDepth 20000 in
theorem k83_65 : mjCode 83 65 = some (.getfield 62, 3, 6, 4) := by decide +kernel
theorem p83_65 {s0 : Int} {q0 q1 : MV} {ds : Ds} {m : Mm} {Q : Ds → Mm → List MV → Prop} : WP 83 65 [q0, q1] [(2, s0)] ds m Q = ((dk ds s0 = 6 ∧ WP 83 68 [q0, q1] [(2, m s0 4)] ds m Q)) := P_gd k83_65 rfl
set_option maxRecDepth 20000 in
theorem k83_68 : mjCode 83 68 = some (.getfield 201, 3, 5, 1) := by decide +kernel
theorem p83_68 {s0 : Int} {q0 q1 : MV} {ds : Ds} {m : Mm} {Q : Ds → Mm → List MV → Prop} : WP 83 68 [q0, q1] [(2, s0)] ds m Q = ((dk ds s0 = 5 ∧ WP 83 71 [q0, q1] [(2, m s0 1)] ds m Q)) := P_gd k83_68 rfl
set_option maxRecDepth 20000 in
theorem k83_71 : mjCode 83 71 = some (.getfield 205, 3, 2, 4) := by decide +kernel
theorem p83_71 {s0 : Int} {q0 q1 : MV} {ds : Ds} {m : Mm} {Q : Ds → Mm → List MV → Prop} : WP 83 71 [q0, q1] [(2, s0)] ds m Q = ((dk ds s0 = 2 ∧ WP 83 74 [q0, q1] [(0, m s0 4)] ds m Q)) := P_gd k83_71 rfl
set_option maxRecDepth 20000 in
theorem k83_74 : mjCode 83 74 = some (.ireturn, 1, 0, 0) := by decide +kernel
theorem p83_74 {s0 : Int} {q0 q1 : MV} {ds : Ds} {m : Mm} {Q : Ds → Mm → List MV → Prop} : WP 83 74 [q0, q1] [(0, s0)] ds m Q = (Q ds m [(0, s0)]) := P_ri k83_74 rk83
set_option maxRecDepth 20000 in
theorem k83_75 : mjCode 83 75 = some (.aload_n 0, 1, 0, 0) := by decide +kernel
theorem p83_75 {l0 : Int} {q1 : MV} {ds : Ds} {m : Mm} {Q : Ds → Mm → List MV → Prop} : WP 83 75 [(2, l0), q1] [] ds m Q = (WP 83 76 [(2, l0), q1] [(2, l0)] ds m Q) := P_nx k83_75 rfl
set_option maxRecDepth 20000 in
theorem k83_76 : mjCode 83 76 = some (.getfield 62, 3, 6, 4) := by decide +kernel
theorem p83_76 {s0 : Int} {q0 q1 : MV} {ds : Ds} {m : Mm} {Q : Ds → Mm → List MV → Prop} : WP 83 76 [q0, q1] [(2, s0)] ds m Q = ((dk ds s0 = 6 ∧ WP 83 79 [q0, q1] [(2, m s0 4)] ds m Q)) := P_gd k83_76 rfl
set_option maxRecDepth 20000 in
theorem k83_79 : mjCode 83 79 = some (.getfield 208, 3, 5, 11) := by decide +kernel
theorem p83_79 {s0 : Int} {q0 q1 : MV} {ds : Ds} {m : Mm} {Q : Ds → Mm → List MV → Prop} : WP 83 79 [q0, q1] [(2, s0)] ds m Q = ((dk ds s0 = 5 ∧ WP 83 82 [q0, q1] [(0, m s0 11)] ds m Q)) := P_gd k83_79 rfl
set_option maxRecDepth 20000 in
theorem k83_82 : mjCode 83 82 = some (.ireturn, 1, 0, 0) := by decide +kernel
theorem p83_82 {s0 : Int} {q0 q1 : MV} {ds : Ds} {m : Mm} {Q : Ds → Mm → List MV → Prop} : WP 83 82 [q0, q1] [(0, s0)] ds m Q = (Q ds m [(0, s0)]) := P_ri k83_82 rk83
set_option maxRecDepth 20000 in
theorem k83_83 : mjCode 83 83 = some (.aload_n 0, 1, 0, 0) := by decide +kernel
theorem p83_83 {l0 : Int} {q1 : MV} {ds : Ds} {m : Mm} {Q : Ds → Mm → List MV → Prop} : WP 83 83 [(2, l0), q1] [] ds m Q = (WP 83 84 [(2, l0), q1] [(2, l0)] ds m Q) := P_nx k83_83 rfl
set_option maxRecDepth 20000 in
theorem k83_84 : mjCode 83 84 = some (.getfield 62, 3, 6, 4) := by decide +kernel
theorem p83_84 {s0 : Int} {q0 q1 : MV} {ds : Ds} {m : Mm} {Q : Ds → Mm → List MV → Prop} : WP 83 84 [q0, q1] [(2, s0)] ds m Q = ((dk ds s0 = 6 ∧ WP 83 87 [q0, q1] [(2, m s0 4)] ds m Q)) := P_gd k83_84 rfl
set_option maxRecDepth 20000 in
theorem k83_87 : mjCode 83 87 = some (.getfield 211, 3, 5, 12) := by decide +kernel
theorem p83_87 {s0 : Int} {q0 q1 : MV} {ds : Ds} {m : Mm} {Q : Ds → Mm → List MV → Prop} : WP 83 87 [q0, q1] [(2, s0)] ds m Q = ((dk ds s0 = 5 ∧ WP 83 90 [q0, q1] [(0, m s0 12)] ds m Q)) := P_gd k83_87 rfl
set_option maxRecDepth 20000 in
theorem k83_90 : mjCode 83 90 = some (.ireturn, 1, 0, 0) := by decide +kernel
theorem p83_90 {s0 : Int} {q0 q1 : MV} {ds : Ds} {m : Mm} {Q : Ds → Mm → List MV → Prop} : WP 83 90 [q0, q1] [(0, s0)] ds m Q = (Q ds m [(0, s0)]) := P_ri k83_90 rk83
set_option maxRecDepth 20000 in
theorem k83_91 : mjCode 83 91 = some (.aload_n 0, 1, 0, 0) := by decide +kernel
theorem p83_91 {l0 : Int} {q1 : MV} {ds : Ds} {m : Mm} {Q : Ds → Mm → List MV → Prop} : WP 83 91 [(2, l0), q1] [] ds m Q = (WP 83 92 [(2, l0), q1] [(2, l0)] ds m Q) := P_nx k83_91 rfl
set_option maxRecDepth 20000 in
theorem k83_92 : mjCode 83 92 = some (.getfield 62, 3, 6, 4) := by decide +kernel
theorem p83_92 {s0 : Int} {q0 q1 : MV} {ds : Ds} {m : Mm} {Q : Ds → Mm → List MV → Prop} : WP 83 92 [q0, q1] [(2, s0)] ds m Q = ((dk ds s0 = 6 ∧ WP 83 95 [q0, q1] [(2, m s0 4)] ds m Q)) := P_gd k83_92 rfl
set_option maxRecDepth 20000 in
theorem k83_95 : mjCode 83 95 = some (.getfield 214, 3, 5, 2) := by decide +kernel
theorem p83_95 {s0 : Int} {q0 q1 : MV} {ds : Ds} {m : Mm} {Q : Ds → Mm → List MV → Prop} : WP 83 95 [q0, q1] [(2, s0)] ds m Q = ((dk ds s0 = 5 ∧ WP 83 98 [q0, q1] [(2, m s0 2)] ds m Q)) := P_gd k83_95 rfl
set_option maxRecDepth 20000 in
theorem k83_98 : mjCode 83 98 = some (.getfield 218, 3, 0, 8) := by decide +kernel
theorem p83_98 {s0 : Int} {q0 q1 : MV} {ds : Ds} {m : Mm} {Q : Ds → Mm → List MV → Prop} : WP 83 98 [q0, q1] [(2, s0)] ds m Q = ((dk ds s0 = 0 ∧ WP 83 101 [q0, q1] [(0, m s0 8)] ds m Q)) := P_gd k83_98 rfl
set_option maxRecDepth 20000 in
theorem k83_101 : mjCode 83 101 = some (.ireturn, 1, 0, 0) := by decide +kernel
theorem p83_101 {s0 : Int} {q0 q1 : MV} {ds : Ds} {m : Mm} {Q : Ds → Mm → List MV → Prop} : WP 83 101 [q0, q1] [(0, s0)] ds m Q = (Q ds m [(0, s0)]) := P_ri k83_101 rk83
set_option maxRecDepth 20000 in
theorem k83_102 : mjCode 83 102 = some (.iconst (-1), 1, 0, 0) := by decide +kernel
theorem p83_102 {q0 q1 : MV} {ds : Ds} {m : Mm} {Q : Ds → Mm → List MV → Prop} : WP 83 102 [q0, q1] [] ds m Q = (WP 83 103 [q0, q1] [(0, (-1))] ds m Q) := P_nx k83_102 rfl
set_option maxRecDepth 20000 in
theorem k83_103 : mjCode 83 103 = some (.ireturn, 1, 0, 0) := by decide +kernel
theorem p83_103 {s0 : Int} {q0 q1 : MV} {ds : Ds} {m : Mm} {Q : Ds → Mm → List MV → Prop} : WP 83 103 [q0, q1] [(0, s0)] ds m Q = (Q ds m [(0, s0)]) := P_ri k83_103 rk83
set_option maxRecDepth 20000 in
theorem k84_0 : mjCode 84 0 = some (.aload_n 0, 1, 0, 0) := by decide +kernel
theorem p84_0 {l0 : Int} {q1 q2 q3 : MV} {ds : Ds} {m : Mm} {Q : Ds → Mm → List MV → Prop} : WP 84 0 [(2, l0), q1, q2, q3] [] ds m Q = (WP 84 1 [(2, l0), q1, q2, q3] [(2, l0)] ds m Q) := P_nx k84_0 rfl
set_option maxRecDepth 20000 in
theorem k84_1 : mjCode 84 1 = some (.getfield 62, 3, 6, 4) := by decide +kernel
theorem p84_1 {s0 : Int} {q0 q1 q2 q3 : MV} {ds : Ds} {m : Mm} {Q : Ds → Mm → List MV → Prop} : WP 84 1 [q0, q1, q2, q3] [(2, s0)] ds m Q = ((dk ds s0 = 6 ∧ WP 84 4 [q0, q1, q2, q3] [(2, m s0 4)] ds m Q)) := P_gd k84_1 rfl
set_option maxRecDepth 20000 in
theorem k84_4 : mjCode 84 4 = some (.getfield 201, 3, 5, 1) := by decide +kernel
theorem p84_4 {s0 : Int} {q0 q1 q2 q3 : MV} {ds : Ds} {m : Mm} {Q : Ds → Mm → List MV → Prop} : WP 84 4 [q0, q1, q2, q3] [(2, s0)] ds m Q = ((dk ds s0 = 5 ∧ WP 84 7 [q0, q1, q2, q3] [(2, m s0 1)] ds m Q)) := P_gd k84_4 rfl
set_option maxRecDepth 20000 in
theorem k84_7 : mjCode 84 7 = some (.astore_n 3, 1, 0, 0) := by decide +kernel
theorem p84_7 {l2 s0 : Int} {q0 q1 q3 : MV} {ds : Ds} {m : Mm} {Q : Ds → Mm → List MV → Prop} : WP 84 7 [q0, q1, (0, l2), q3] [(2, s0)] ds m Q = (WP 84 8 [q0, q1, (0, l2), (2, s0)] [] ds m Q) := P_nx k84_7 rfl
set_option maxRecDepth 20000 in
theorem k84_8 : mjCode 84 8 = some (.aload_n 3, 1, 0, 0) := by decide +kernel
theorem p84_8 {l3 : Int} {q0 q1 q2 : MV} {ds : Ds} {m : Mm} {Q : Ds → Mm → List MV → Prop} : WP 84 8 [q0, q1, q2, (2, l3)] [] ds m Q = (WP 84 9 [q0, q1, q2, (2, l3)] [(2, l3)] ds m Q) := P_nx k84_8 rfl
set_option maxRecDepth 20000 in
theorem k84_9 : mjCode 84 9 = some (.iload_n 1, 1, 0, 0) := by decide +kernel
theorem p84_9 {l1 s0 : Int} {q0 q2 q3 : MV} {ds : Ds} {m : Mm} {Q : Ds → Mm → List MV → Prop} : WP 84 9 [q0, (0, l1), q2, q3] [(2, s0)] ds m Q = (WP 84 10 [q0, (0, l1), q2, q3] [(0, l1), (2, s0)] ds m Q) := P_nx k84_9 rfl
set_option maxRecDepth 20000 in
theorem k84_10 : mjCode 84 10 = some (.invokevirtual 223, 3, 17, 2) := by decide +kernel
theorem p84_10 {s0 s1 : Int} {q0 q1 q2 q3 : MV} {ds : Ds} {m : Mm} {Q : Ds → Mm → List MV → Prop} : WP 84 10 [q0, q1, q2, q3] [(0, s0), (2, s1)] ds m Q = ((dk ds s1 = 2 ∧ WP 16 0 [(2, s1), (0, s0)] [] ds m (fun d2 m2 r2 => WP 84 13 [q0, q1, q2, q3] (r2 ++ []) d2 m2 Q))) := P_cv k84_10 mx16 mo16 rfl rfl rfl rfl rfl rfl rfl rfl
set_option maxRecDepth 20000 in
theorem k84_13 : mjCode 84 13 = some (.ifCond .ne 5, 3, 18, 0) := by decide +kernel
theorem p84_13 {s0 : Int} {q0 q1 q2 q3 : MV} {ds : Ds} {m : Mm} {Q : Ds → Mm → List MV → Prop} : WP 84 13 [q0, q1, q2, q3] [(0, s0)] ds m Q = (if s0 = 0 then WP 84 16 [q0, q1, q2, q3] [] ds m Q else WP 84 18 [q0, q1, q2, q3] [] ds m Q) := P_if k84_13 rfl
set_option maxRecDepth 20000 in
theorem k84_16 : mjCode 84 16 = some (.iconst (-1), 1, 0, 0) := by decide +kernel
theorem p84_16 {q0 q1 q2 q3 : MV} {ds : Ds} {m : Mm} {Q : Ds → Mm → List MV → Prop} : WP 84 16 [q0, q1, q2, q3] [] ds m Q = (WP 84 17 [q0, q1, q2, q3] [(0, (-1))] ds m Q) := P_nx k84_16 rfl
set_option maxRecDepth 20000 in
theorem k84_17 : mjCode 84 17 = some (.ireturn, 1, 0, 0) := by decide +kernel
theorem p84_17 {s0 : Int} {q0 q1 q2 q3 : MV} {ds : Ds} {m : Mm} {Q : Ds → Mm → List MV → Prop} : WP 84 17 [q0, q1, q2, q3] [(0, s0)] ds m Q = (Q ds m [(0, s0)]) := P_ri k84_17 rk84
set_option maxRecDepth 20000 in
theorem k84_18 : mjCode 84 18 = some (.iload_n 2, 1, 0, 0) := by decide +kernel
theorem p84_18 {l2 : Int} {q0 q1 q3 : MV} {ds : Ds} {m : Mm} {Q : Ds → Mm → List MV → Prop} : WP 84 18 [q0, q1, (0, l2), q3] [] ds m Q = (WP 84 19 [q0, q1, (0, l2), q3] [(0, l2)] ds m Q) := P_nx k84_18 rfl
set_option maxRecDepth 20000 in
theorem k84_19 : mjCode 84 19 = some (.tableswitch 99 0 5 #[37, 44, 53, 62, 69, 84], 37, 0, 0) := by decide +kernel
theorem p84_19 {s0 : Int} {q0 q1 q2 q3 : MV} {ds : Ds} {m : Mm} {Q : Ds → Mm → List MV → Prop} : WP 84 19 [q0, q1, q2, q3] [(0, s0)] ds m Q = (if s0 = 0 then WP 84 56 [q0, q1, q2, q3] [] ds m Q else if s0 = 1 then WP 84 63 [q0, q1, q2, q3] [] ds m Q else if s0 = 2 then WP 84 72 [q0, q1, q2, q3] [] ds m Q else if s0 = 3 then WP 84 81 [q0, q1, q2, q3] [] ds m Q else if s0 = 4 then WP 84 88 [q0, q1, q2, q3] [] ds m Q else if s0 = 5 then WP 84 103 [q0, q1, q2, q3] [] ds m Q else WP 84 118 [q0, q1, q2, q3] [] ds m Q) := by
  by_cases h0 : s0 = 0
  · subst h0
    rw [if_pos rfl]
    exact P_nx k84_19 rfl
  rw [if_neg h0]
  by_cases h1 : s0 = 1
  · subst h1
    rw [if_pos rfl]
    exact P_nx k84_19 rfl
  rw [if_neg h1]
  by_cases h2 : s0 = 2
  · subst h2
    rw [if_pos rfl]
    exact P_nx k84_19 rfl
  rw [if_neg h2]
  by_cases h3 : s0 = 3
  · subst h3
    rw [if_pos rfl]
    exact P_nx k84_19 rfl
  rw [if_neg h3]
  by_cases h4 : s0 = 4
  · subst h4
    rw [if_pos rfl]
    exact P_nx k84_19 rfl
  rw [if_neg h4]
  by_cases h5 : s0 = 5
  · subst h5
    rw [if_pos rfl]
    exact P_nx k84_19 rfl
  rw [if_neg h5]
  exact P_nx k84_19 (by simp only [stpI]; rw [if_pos (by omega)]; rfl)
set_option maxRecDepth 20000 in
theorem k84_56 : mjCode 84 56 = some (.aload_n 3, 1, 0, 0) := by decide +kernel
theorem p84_56 {l3 : Int} {q0 q1 q2 : MV} {ds : Ds} {m : Mm} {Q : Ds → Mm → List MV → Prop} : WP 84 56 [q0, q1, q2, (2, l3)] [] ds m Q = (WP 84 57 [q0, q1, q2, (2, l3)] [(2, l3)] ds m Q) := P_nx k84_56 rfl
set_option maxRecDepth 20000 in
theorem k84_57 : mjCode 84 57 = some (.getfield 226, 3, 2, 0) := by decide +kernel
theorem p84_57 {s0 : Int} {q0 q1 q2 q3 : MV} {ds : Ds} {m : Mm} {Q : Ds → Mm → List MV → Prop} : WP 84 57 [q0, q1, q2, q3] [(2, s0)] ds m Q = ((dk ds s0 = 2 ∧ WP 84 60 [q0, q1, q2, q3] [(2, m s0 0)] ds m Q)) := P_gd k84_57 rfl
set_option maxRecDepth 20000 in
theorem k84_60 : mjCode 84 60 = some (.iload_n 1, 1, 0, 0) := by decide +kernel
theorem p84_60 {l1 s0 : Int} {q0 q2 q3 : MV} {ds : Ds} {m : Mm} {Q : Ds → Mm → List MV → Prop} : WP 84 60 [q0, (0, l1), q2, q3] [(2, s0)] ds m Q = (WP 84 61 [q0, (0, l1), q2, q3] [(0, l1), (2, s0)] ds m Q) := P_nx k84_60 rfl
set_option maxRecDepth 20000 in
theorem k84_61 : mjCode 84 61 = some (.iaload, 1, 0, 0) := by decide +kernel
theorem p84_61 {s0 s1 : Int} {q0 q1 q2 q3 : MV} {ds : Ds} {m : Mm} {Q : Ds → Mm → List MV → Prop} : WP 84 61 [q0, q1, q2, q3] [(0, s0), (2, s1)] ds m Q = ((dk ds s1 = 10 ∧ 0 ≤ s0 ∧ s0 < dl ds s1 ∧ WP 84 62 [q0, q1, q2, q3] [(0, m s1 s0)] ds m Q)) := P_g3 k84_61 rfl
set_option maxRecDepth 20000 in
theorem k84_62 : mjCode 84 62 = some (.ireturn, 1, 0, 0) := by decide +kernel
theorem p84_62 {s0 : Int} {q0 q1 q2 q3 : MV} {ds : Ds} {m : Mm} {Q : Ds → Mm → List MV → Prop} : WP 84 62 [q0, q1, q2, q3] [(0, s0)] ds m Q = (Q ds m [(0, s0)]) := P_ri k84_62 rk84
set_option maxRecDepth 20000 in
theorem k84_63 : mjCode 84 63 = some (.aload_n 3, 1, 0, 0) := by decide +kernel
theorem p84_63 {l3 : Int} {q0 q1 q2 : MV} {ds : Ds} {m : Mm} {Q : Ds → Mm → List MV → Prop} : WP 84 63 [q0, q1, q2, (2, l3)] [] ds m Q = (WP 84 64 [q0, q1, q2, (2, l3)] [(2, l3)] ds m Q) := P_nx k84_63 rfl
set_option maxRecDepth 20000 in
theorem k84_64 : mjCode 84 64 = some (.getfield 228, 3, 2, 1) := by decide +kernel
theorem p84_64 {s0 : Int} {q0 q1 q2 q3 : MV} {ds : Ds} {m : Mm} {Q : Ds → Mm → List MV → Prop} : WP 84 64 [q0, q1, q2, q3] [(2, s0)] ds m Q = ((dk ds s0 = 2 ∧ WP 84 67 [q0, q1, q2, q3] [(2, m s0 1)] ds m Q)) := P_gd k84_64 rfl
set_option maxRecDepth 20000 in
theorem k84_67 : mjCode 84 67 = some (.iload_n 1, 1, 0, 0) := by decide +kernel
theorem p84_67 {l1 s0 : Int} {q0 q2 q3 : MV} {ds : Ds} {m : Mm} {Q : Ds → Mm → List MV → Prop} : WP 84 67 [q0, (0, l1), q2, q3] [(2, s0)] ds m Q = (WP 84 68 [q0, (0, l1), q2, q3] [(0, l1), (2, s0)] ds m Q) := P_nx k84_67 rfl
set_option maxRecDepth 20000 in
theorem k84_68 : mjCode 84 68 = some (.iaload, 1, 0, 0) := by decide +kernel
theorem p84_68 {s0 s1 : Int} {q0 q1 q2 q3 : MV} {ds : Ds} {m : Mm} {Q : Ds → Mm → List MV → Prop} : WP 84 68 [q0, q1, q2, q3] [(0, s0), (2, s1)] ds m Q = ((dk ds s1 = 10 ∧ 0 ≤ s0 ∧ s0 < dl ds s1 ∧ WP 84 69 [q0, q1, q2, q3] [(0, m s1 s0)] ds m Q)) := P_g3 k84_68 rfl
set_option maxRecDepth 20000 in
theorem k84_69 : mjCode 84 69 = some (.iconst 4, 1, 0, 0) := by decide +kernel
theorem p84_69 {s0 : Int} {q0 q1 q2 q3 : MV} {ds : Ds} {m : Mm} {Q : Ds → Mm → List MV → Prop} : WP 84 69 [q0, q1, q2, q3] [(0, s0)] ds m Q = (WP 84 70 [q0, q1, q2, q3] [(0, 4), (0, s0)] ds m Q) := P_nx k84_69 rfl
set_option maxRecDepth 20000 in
theorem k84_70 : mjCode 84 70 = some (.idiv, 1, 0, 0) := by decide +kernel
theorem p84_70 {s0 s1 : Int} {q0 q1 q2 q3 : MV} {ds : Ds} {m : Mm} {Q : Ds → Mm → List MV → Prop} : WP 84 70 [q0, q1, q2, q3] [(0, s0), (0, s1)] ds m Q = ((¬ s0 = 0 ∧ WP 84 71 [q0, q1, q2, q3] [(0, jdiv s1 s0)] ds m Q)) := P_dv k84_70 rfl
set_option maxRecDepth 20000 in
theorem k84_71 : mjCode 84 71 = some (.ireturn, 1, 0, 0) := by decide +kernel
theorem p84_71 {s0 : Int} {q0 q1 q2 q3 : MV} {ds : Ds} {m : Mm} {Q : Ds → Mm → List MV → Prop} : WP 84 71 [q0, q1, q2, q3] [(0, s0)] ds m Q = (Q ds m [(0, s0)]) := P_ri k84_71 rk84
set_option maxRecDepth 20000 in
theorem k84_72 : mjCode 84 72 = some (.aload_n 3, 1, 0, 0) := by decide +kernel
theorem p84_72 {l3 : Int} {q0 q1 q2 : MV} {ds : Ds} {m : Mm} {Q : Ds → Mm → List MV → Prop} : WP 84 72 [q0, q1, q2, (2, l3)] [] ds m Q = (WP 84 73 [q0, q1, q2, (2, l3)] [(2, l3)] ds m Q) := P_nx k84_72 rfl
set_option maxRecDepth 20000 in
theorem k84_73 : mjCode 84 73 = some (.getfield 228, 3, 2, 1) := by decide +kernel
theorem p84_73 {s0 : Int} {q0 q1 q2 q3 : MV} {ds : Ds} {m : Mm} {Q : Ds → Mm → List MV → Prop} : WP 84 73 [q0, q1, q2, q3] [(2, s0)] ds m Q = ((dk ds s0 = 2 ∧ WP 84 76 [q0, q1, q2, q3] [(2, m s0 1)] ds m Q)) := P_gd k84_73 rfl
set_option maxRecDepth 20000 in
theorem k84_76 : mjCode 84 76 = some (.iload_n 1, 1, 0, 0) := by decide +kernel
theorem p84_76 {l1 s0 : Int} {q0 q2 q3 : MV} {ds : Ds} {m : Mm} {Q : Ds → Mm → List MV → Prop} : WP 84 76 [q0, (0, l1), q2, q3] [(2, s0)] ds m Q = (WP 84 77 [q0, (0, l1), q2, q3] [(0, l1), (2, s0)] ds m Q) := P_nx k84_76 rfl
set_option maxRecDepth 20000 in
theorem k84_77 : mjCode 84 77 = some (.iaload, 1, 0, 0) := by decide +kernel
theorem p84_77 {s0 s1 : Int} {q0 q1 q2 q3 : MV} {ds : Ds} {m : Mm} {Q : Ds → Mm → List MV → Prop} : WP 84 77 [q0, q1, q2, q3] [(0, s0), (2, s1)] ds m Q = ((dk ds s1 = 10 ∧ 0 ≤ s0 ∧ s0 < dl ds s1 ∧ WP 84 78 [q0, q1, q2, q3] [(0, m s1 s0)] ds m Q)) := P_g3 k84_77 rfl
set_option maxRecDepth 20000 in
theorem k84_78 : mjCode 84 78 = some (.iconst 4, 1, 0, 0) := by decide +kernel
theorem p84_78 {s0 : Int} {q0 q1 q2 q3 : MV} {ds : Ds} {m : Mm} {Q : Ds → Mm → List MV → Prop} : WP 84 78 [q0, q1, q2, q3] [(0, s0)] ds m Q = (WP 84 79 [q0, q1, q2, q3] [(0, 4), (0, s0)] ds m Q) := P_nx k84_78 rfl
set_option maxRecDepth 20000 in
theorem k84_79 : mjCode 84 79 = some (.irem, 1, 0, 0) := by decide +kernel
theorem p84_79 {s0 s1 : Int} {q0 q1 q2 q3 : MV} {ds : Ds} {m : Mm} {Q : Ds → Mm → List MV → Prop} : WP 84 79 [q0, q1, q2, q3] [(0, s0), (0, s1)] ds m Q = ((¬ s0 = 0 ∧ WP 84 80 [q0, q1, q2, q3] [(0, jrem s1 s0)] ds m Q)) := P_dv k84_79 rfl
set_option maxRecDepth 20000 in
theorem k84_80 : mjCode 84 80 = some (.ireturn, 1, 0, 0) := by decide +kernel
theorem p84_80 {s0 : Int} {q0 q1 q2 q3 : MV} {ds : Ds} {m : Mm} {Q : Ds → Mm → List MV → Prop} : WP 84 80 [q0, q1, q2, q3] [(0, s0)] ds m Q = (Q ds m [(0, s0)]) := P_ri k84_80 rk84
set_option maxRecDepth 20000 in
theorem k84_81 : mjCode 84 81 = some (.aload_n 3, 1, 0, 0) := by decide +kernel
theorem p84_81 {l3 : Int} {q0 q1 q2 : MV} {ds : Ds} {m : Mm} {Q : Ds → Mm → List MV → Prop} : WP 84 81 [q0, q1, q2, (2, l3)] [] ds m Q = (WP 84 82 [q0, q1, q2, (2, l3)] [(2, l3)] ds m Q) := P_nx k84_81 rfl
set_option maxRecDepth 20000 in
theorem k84_82 : mjCode 84 82 = some (.getfield 230, 3, 2, 2) := by decide +kernel
theorem p84_82 {s0 : Int} {q0 q1 q2 q3 : MV} {ds : Ds} {m : Mm} {Q : Ds → Mm → List MV → Prop} : WP 84 82 [q0, q1, q2, q3] [(2, s0)] ds m Q = ((dk ds s0 = 2 ∧ WP 84 85 [q0, q1, q2, q3] [(2, m s0 2)] ds m Q)) := P_gd k84_82 rfl
set_option maxRecDepth 20000 in
theorem k84_85 : mjCode 84 85 = some (.iload_n 1, 1, 0, 0) := by decide +kernel
theorem p84_85 {l1 s0 : Int} {q0 q2 q3 : MV} {ds : Ds} {m : Mm} {Q : Ds → Mm → List MV → Prop} : WP 84 85 [q0, (0, l1), q2, q3] [(2, s0)] ds m Q = (WP 84 86 [q0, (0, l1), q2, q3] [(0, l1), (2, s0)] ds m Q) := P_nx k84_85 rfl
set_option maxRecDepth 20000 in
theorem k84_86 : mjCode 84 86 = some (.iaload, 1, 0, 0) := by decide +kernel
theorem p84_86 {s0 s1 : Int} {q0 q1 q2 q3 : MV} {ds : Ds} {m : Mm} {Q : Ds → Mm → List MV → Prop} : WP 84 86 [q0, q1, q2, q3] [(0, s0), (2, s1)] ds m Q = ((dk ds s1 = 10 ∧ 0 ≤ s0 ∧ s0 < dl ds s1 ∧ WP 84 87 [q0, q1, q2, q3] [(0, m s1 s0)] ds m Q)) := P_g3 k84_86 rfl
set_option maxRecDepth 20000 in
theorem k84_87 : mjCode 84 87 = some (.ireturn, 1, 0, 0) := by decide +kernel
theorem p84_87 {s0 : Int} {q0 q1 q2 q3 : MV} {ds : Ds} {m : Mm} {Q : Ds → Mm → List MV → Prop} : WP 84 87 [q0, q1, q2, q3] [(0, s0)] ds m Q = (Q ds m [(0, s0)]) := P_ri k84_87 rk84
set_option maxRecDepth 20000 in
theorem k84_88 : mjCode 84 88 = some (.aload_n 3, 1, 0, 0) := by decide +kernel
theorem p84_88 {l3 : Int} {q0 q1 q2 : MV} {ds : Ds} {m : Mm} {Q : Ds → Mm → List MV → Prop} : WP 84 88 [q0, q1, q2, (2, l3)] [] ds m Q = (WP 84 89 [q0, q1, q2, (2, l3)] [(2, l3)] ds m Q) := P_nx k84_88 rfl
set_option maxRecDepth 20000 in
theorem k84_89 : mjCode 84 89 = some (.iload_n 1, 1, 0, 0) := by decide +kernel
theorem p84_89 {l1 s0 : Int} {q0 q2 q3 : MV} {ds : Ds} {m : Mm} {Q : Ds → Mm → List MV → Prop} : WP 84 89 [q0, (0, l1), q2, q3] [(2, s0)] ds m Q = (WP 84 90 [q0, (0, l1), q2, q3] [(0, l1), (2, s0)] ds m Q) := P_nx k84_89 rfl
set_option maxRecDepth 20000 in
theorem k84_90 : mjCode 84 90 = some (.iconst 1, 1, 0, 0) := by decide +kernel
theorem p84_90 {s0 s1 : Int} {q0 q1 q2 q3 : MV} {ds : Ds} {m : Mm} {Q : Ds → Mm → List MV → Prop} : WP 84 90 [q0, q1, q2, q3] [(0, s0), (2, s1)] ds m Q = (WP 84 91 [q0, q1, q2, q3] [(0, 1), (0, s0), (2, s1)] ds m Q) := P_nx k84_90 rfl
set_option maxRecDepth 20000 in
theorem k84_91 : mjCode 84 91 = some (.invokevirtual 233, 3, 18, 3) := by decide +kernel
theorem p84_91 {s0 s1 s2 : Int} {q0 q1 q2 q3 : MV} {ds : Ds} {m : Mm} {Q : Ds → Mm → List MV → Prop} : WP 84 91 [q0, q1, q2, q3] [(0, s0), (0, s1), (2, s2)] ds m Q = ((dk ds s2 = 2 ∧ WP 17 0 [(2, s2), (0, s1), (0, s0)] [] ds m (fun d2 m2 r2 => WP 84 94 [q0, q1, q2, q3] (r2 ++ []) d2 m2 Q))) := P_cv k84_91 mx17 mo17 rfl rfl rfl rfl rfl rfl rfl rfl
set_option maxRecDepth 20000 in
theorem k84_94 : mjCode 84 94 = some (.ifCond .eq 7, 3, 101, 0) := by decide +kernel
theorem p84_94 {s0 : Int} {q0 q1 q2 q3 : MV} {ds : Ds} {m : Mm} {Q : Ds → Mm → List MV → Prop} : WP 84 94 [q0, q1, q2, q3] [(0, s0)] ds m Q = (if s0 = 0 then WP 84 101 [q0, q1, q2, q3] [] ds m Q else WP 84 97 [q0, q1, q2, q3] [] ds m Q) := P_if k84_94 rfl
set_option maxRecDepth 20000 in
theorem k84_97 : mjCode 84 97 = some (.iconst 1, 1, 0, 0) := by decide +kernel
theorem p84_97 {q0 q1 q2 q3 : MV} {ds : Ds} {m : Mm} {Q : Ds → Mm → List MV → Prop} : WP 84 97 [q0, q1, q2, q3] [] ds m Q = (WP 84 98 [q0, q1, q2, q3] [(0, 1)] ds m Q) := P_nx k84_97 rfl
set_option maxRecDepth 20000 in
theorem k84_98 : mjCode 84 98 = some (.goto 4, 3, 102, 0) := by decide +kernel
theorem p84_98 {s0 : Int} {q0 q1 q2 q3 : MV} {ds : Ds} {m : Mm} {Q : Ds → Mm → List MV → Prop} : WP 84 98 [q0, q1, q2, q3] [(0, s0)] ds m Q = (WP 84 102 [q0, q1, q2, q3] [(0, s0)] ds m Q) := P_nx k84_98 rfl
set_option maxRecDepth 20000 in
theorem k84_101 : mjCode 84 101 = some (.iconst 0, 1, 0, 0) := by decide +kernel
theorem p84_101 {q0 q1 q2 q3 : MV} {ds : Ds} {m : Mm} {Q : Ds → Mm → List MV → Prop} : WP 84 101 [q0, q1, q2, q3] [] ds m Q = (WP 84 102 [q0, q1, q2, q3] [(0, 0)] ds m Q) := P_nx k84_101 rfl
set_option maxRecDepth 20000 in
theorem k84_102 : mjCode 84 102 = some (.ireturn, 1, 0, 0) := by decide +kernel
theorem p84_102 {s0 : Int} {q0 q1 q2 q3 : MV} {ds : Ds} {m : Mm} {Q : Ds → Mm → List MV → Prop} : WP 84 102 [q0, q1, q2, q3] [(0, s0)] ds m Q = (Q ds m [(0, s0)]) := P_ri k84_102 rk84
set_option maxRecDepth 20000 in
theorem k84_103 : mjCode 84 103 = some (.aload_n 3, 1, 0, 0) := by decide +kernel
theorem p84_103 {l3 : Int} {q0 q1 q2 : MV} {ds : Ds} {m : Mm} {Q : Ds → Mm → List MV → Prop} : WP 84 103 [q0, q1, q2, (2, l3)] [] ds m Q = (WP 84 104 [q0, q1, q2, (2, l3)] [(2, l3)] ds m Q) := P_nx k84_103 rfl
set_option maxRecDepth 20000 in
theorem k84_104 : mjCode 84 104 = some (.iload_n 1, 1, 0, 0) := by decide +kernel
theorem p84_104 {l1 s0 : Int} {q0 q2 q3 : MV} {ds : Ds} {m : Mm} {Q : Ds → Mm → List MV → Prop} : WP 84 104 [q0, (0, l1), q2, q3] [(2, s0)] ds m Q = (WP 84 105 [q0, (0, l1), q2, q3] [(0, l1), (2, s0)] ds m Q) := P_nx k84_104 rfl
set_option maxRecDepth 20000 in
theorem k84_105 : mjCode 84 105 = some (.iconst 2, 1, 0, 0) := by decide +kernel
theorem p84_105 {s0 s1 : Int} {q0 q1 q2 q3 : MV} {ds : Ds} {m : Mm} {Q : Ds → Mm → List MV → Prop} : WP 84 105 [q0, q1, q2, q3] [(0, s0), (2, s1)] ds m Q = (WP 84 106 [q0, q1, q2, q3] [(0, 2), (0, s0), (2, s1)] ds m Q) := P_nx k84_105 rfl
set_option maxRecDepth 20000 in
theorem k84_106 : mjCode 84 106 = some (.invokevirtual 233, 3, 18, 3) := by decide +kernel
theorem p84_106 {s0 s1 s2 : Int} {q0 q1 q2 q3 : MV} {ds : Ds} {m : Mm} {Q : Ds → Mm → List MV → Prop} : WP 84 106 [q0, q1, q2, q3] [(0, s0), (0, s1), (2, s2)] ds m Q = ((dk ds s2 = 2 ∧ WP 17 0 [(2, s2), (0, s1), (0, s0)] [] ds m (fun d2 m2 r2 => WP 84 109 [q0, q1, q2, q3] (r2 ++ []) d2 m2 Q))) := P_cv k84_106 mx17 mo17 rfl rfl rfl rfl rfl rfl rfl rfl
set_option maxRecDepth 20000 in
theorem k84_109 : mjCode 84 109 = some (.ifCond .eq 7, 3, 116, 0) := by decide +kernel
theorem p84_109 {s0 : Int} {q0 q1 q2 q3 : MV} {ds : Ds} {m : Mm} {Q : Ds → Mm → List MV → Prop} : WP 84 109 [q0, q1, q2, q3] [(0, s0)] ds m Q = (if s0 = 0 then WP 84 116 [q0, q1, q2, q3] [] ds m Q else WP 84 112 [q0, q1, q2, q3] [] ds m Q) := P_if k84_109 rfl
set_option maxRecDepth 20000 in
theorem k84_112 : mjCode 84 112 = some (.iconst 1, 1, 0, 0) := by decide +kernel
theorem p84_112 {q0 q1 q2 q3 : MV} {ds : Ds} {m : Mm} {Q : Ds → Mm → List MV → Prop} : WP 84 112 [q0, q1, q2, q3] [] ds m Q = (WP 84 113 [q0, q1, q2, q3] [(0, 1)] ds m Q) := P_nx k84_112 rfl
set_option maxRecDepth 20000 in
theorem k84_113 : mjCode 84 113 = some (.goto 4, 3, 117, 0) := by decide +kernel
theorem p84_113 {s0 : Int} {q0 q1 q2 q3 : MV} {ds : Ds} {m : Mm} {Q : Ds → Mm → List MV → Prop} : WP 84 113 [q0, q1, q2, q3] [(0, s0)] ds m Q = (WP 84 117 [q0, q1, q2, q3] [(0, s0)] ds m Q) := P_nx k84_113 rfl
set_option maxRecDepth 20000 in
theorem k84_116 : mjCode 84 116 = some (.iconst 0, 1, 0, 0) := by decide +kernel
theorem p84_116 {q0 q1 q2 q3 : MV} {ds : Ds} {m : Mm} {Q : Ds → Mm → List MV → Prop} : WP 84 116 [q0, q1, q2, q3] [] ds m Q = (WP 84 117 [q0, q1, q2, q3] [(0, 0)] ds m Q) := P_nx k84_116 rfl
set_option maxRecDepth 20000 in
theorem k84_117 : mjCode 84 117 = some (.ireturn, 1, 0, 0) := by decide +kernel
theorem p84_117 {s0 : Int} {q0 q1 q2 q3 : MV} {ds : Ds} {m : Mm} {Q : Ds → Mm → List MV → Prop} : WP 84 117 [q0, q1, q2, q3] [(0, s0)] ds m Q = (Q ds m [(0, s0)]) := P_ri k84_117 rk84
set_option maxRecDepth 20000 in
theorem k84_118 : mjCode 84 118 = some (.iconst (-1), 1, 0, 0) := by decide +kernel
theorem p84_118 {q0 q1 q2 q3 : MV} {ds : Ds} {m : Mm} {Q : Ds → Mm → List MV → Prop} : WP 84 118 [q0, q1, q2, q3] [] ds m Q = (WP 84 119 [q0, q1, q2, q3] [(0, (-1))] ds m Q) := P_nx k84_118 rfl
set_option maxRecDepth 20000 in
theorem k84_119 : mjCode 84 119 = some (.ireturn, 1, 0, 0) := by decide +kernel
theorem p84_119 {s0 : Int} {q0 q1 q2 q3 : MV} {ds : Ds} {m : Mm} {Q : Ds → Mm → List MV → Prop} : WP 84 119 [q0, q1, q2, q3] [(0, s0)] ds m Q = (Q ds m [(0, s0)]) := P_ri k84_119 rk84
set_option maxRecDepth 20000 in
theorem k85_0 : mjCode 85 0 = some (.aload_n 0, 1, 0, 0) := by decide +kernel
theorem p85_0 {l0 : Int} {q1 q2 : MV} {ds : Ds} {m : Mm} {Q : Ds → Mm → List MV → Prop} : WP 85 0 [(2, l0), q1, q2] [] ds m Q = (WP 85 1 [(2, l0), q1, q2] [(2, l0)] ds m Q) := P_nx k85_0 rfl
set_option maxRecDepth 20000 in
theorem k85_1 : mjCode 85 1 = some (.getfield 137, 3, 6, 6) := by decide +kernel
theorem p85_1 {s0 : Int} {q0 q1 q2 : MV} {ds : Ds} {m : Mm} {Q : Ds → Mm → List MV → Prop} : WP 85 1 [q0, q1, q2] [(2, s0)] ds m Q = ((dk ds s0 = 6 ∧ WP 85 4 [q0, q1, q2] [(0, m s0 6)] ds m Q)) := P_gd k85_1 rfl
set_option maxRecDepth 20000 in
theorem k85_4 : mjCode 85 4 = some (.ifCond .eq 10, 3, 14, 0) := by decide +kernel
theorem p85_4 {s0 : Int} {q0 q1 q2 : MV} {ds : Ds} {m : Mm} {Q : Ds → Mm → List MV → Prop} : WP 85 4 [q0, q1, q2] [(0, s0)] ds m Q = (if s0 = 0 then WP 85 14 [q0, q1, q2] [] ds m Q else WP 85 7 [q0, q1, q2] [] ds m Q) := P_if k85_4 rfl
set_option maxRecDepth 20000 in
theorem k85_7 : mjCode 85 7 = some (.iload_n 1, 1, 0, 0) := by decide +kernel
theorem p85_7 {l1 : Int} {q0 q2 : MV} {ds : Ds} {m : Mm} {Q : Ds → Mm → List MV → Prop} : WP 85 7 [q0, (0, l1), q2] [] ds m Q = (WP 85 8 [q0, (0, l1), q2] [(0, l1)] ds m Q) := P_nx k85_7 rfl
set_option maxRecDepth 20000 in
theorem k85_8 : mjCode 85 8 = some (.invokestatic 69, 3, 108, 1) := by decide +kernel
theorem p85_8 {s0 : Int} {q0 q1 q2 : MV} {ds : Ds} {m : Mm} {Q : Ds → Mm → List MV → Prop} : WP 85 8 [q0, q1, q2] [(0, s0)] ds m Q = (WP 107 0 [(0, s0)] [] ds m (fun d2 m2 r2 => WP 85 11 [q0, q1, q2] (r2 ++ []) d2 m2 Q)) := P_cs k85_8 mx107 rfl rfl rfl rfl rfl rfl rfl
set_option maxRecDepth 20000 in
theorem k85_11 : mjCode 85 11 = some (.ifCond .ne 5, 3, 16, 0) := by decide +kernel
theorem p85_11 {s0 : Int} {q0 q1 q2 : MV} {ds : Ds} {m : Mm} {Q : Ds → Mm → List MV → Prop} : WP 85 11 [q0, q1, q2] [(0, s0)] ds m Q = (if s0 = 0 then WP 85 14 [q0, q1, q2] [] ds m Q else WP 85 16 [q0, q1, q2] [] ds m Q) := P_if k85_11 rfl
set_option maxRecDepth 20000 in
theorem k85_14 : mjCode 85 14 = some (.iconst (-1), 1, 0, 0) := by decide +kernel
theorem p85_14 {q0 q1 q2 : MV} {ds : Ds} {m : Mm} {Q : Ds → Mm → List MV → Prop} : WP 85 14 [q0, q1, q2] [] ds m Q = (WP 85 15 [q0, q1, q2] [(0, (-1))] ds m Q) := P_nx k85_14 rfl
set_option maxRecDepth 20000 in
theorem k85_15 : mjCode 85 15 = some (.ireturn, 1, 0, 0) := by decide +kernel
theorem p85_15 {s0 : Int} {q0 q1 q2 : MV} {ds : Ds} {m : Mm} {Q : Ds → Mm → List MV → Prop} : WP 85 15 [q0, q1, q2] [(0, s0)] ds m Q = (Q ds m [(0, s0)]) := P_ri k85_15 rk85
set_option maxRecDepth 20000 in
theorem k85_16 : mjCode 85 16 = some (.iload_n 2, 1, 0, 0) := by decide +kernel
theorem p85_16 {l2 : Int} {q0 q1 : MV} {ds : Ds} {m : Mm} {Q : Ds → Mm → List MV → Prop} : WP 85 16 [q0, q1, (0, l2)] [] ds m Q = (WP 85 17 [q0, q1, (0, l2)] [(0, l2)] ds m Q) := P_nx k85_16 rfl
set_option maxRecDepth 20000 in
theorem k85_17 : mjCode 85 17 = some (.tableswitch 104 0 4 #[35, 45, 55, 65, 86], 35, 0, 0) := by decide +kernel
theorem p85_17 {s0 : Int} {q0 q1 q2 : MV} {ds : Ds} {m : Mm} {Q : Ds → Mm → List MV → Prop} : WP 85 17 [q0, q1, q2] [(0, s0)] ds m Q = (if s0 = 0 then WP 85 52 [q0, q1, q2] [] ds m Q else if s0 = 1 then WP 85 62 [q0, q1, q2] [] ds m Q else if s0 = 2 then WP 85 72 [q0, q1, q2] [] ds m Q else if s0 = 3 then WP 85 82 [q0, q1, q2] [] ds m Q else if s0 = 4 then WP 85 103 [q0, q1, q2] [] ds m Q else WP 85 121 [q0, q1, q2] [] ds m Q) := by
  by_cases h0 : s0 = 0
  · subst h0
    rw [if_pos rfl]
    exact P_nx k85_17 rfl
  rw [if_neg h0]
  by_cases h1 : s0 = 1
  · subst h1
    rw [if_pos rfl]
    exact P_nx k85_17 rfl
  rw [if_neg h1]
  by_cases h2 : s0 = 2
  · subst h2
    rw [if_pos rfl]
    exact P_nx k85_17 rfl
  rw [if_neg h2]
  by_cases h3 : s0 = 3
  · subst h3
    rw [if_pos rfl]
    exact P_nx k85_17 rfl
  rw [if_neg h3]
  by_cases h4 : s0 = 4
  · subst h4
    rw [if_pos rfl]
    exact P_nx k85_17 rfl
  rw [if_neg h4]
  exact P_nx k85_17 (by simp only [stpI]; rw [if_pos (by omega)]; rfl)
set_option maxRecDepth 20000 in
theorem k85_52 : mjCode 85 52 = some (.aload_n 0, 1, 0, 0) := by decide +kernel
theorem p85_52 {l0 : Int} {q1 q2 : MV} {ds : Ds} {m : Mm} {Q : Ds → Mm → List MV → Prop} : WP 85 52 [(2, l0), q1, q2] [] ds m Q = (WP 85 53 [(2, l0), q1, q2] [(2, l0)] ds m Q) := P_nx k85_52 rfl
set_option maxRecDepth 20000 in
theorem k85_53 : mjCode 85 53 = some (.getfield 62, 3, 6, 4) := by decide +kernel
theorem p85_53 {s0 : Int} {q0 q1 q2 : MV} {ds : Ds} {m : Mm} {Q : Ds → Mm → List MV → Prop} : WP 85 53 [q0, q1, q2] [(2, s0)] ds m Q = ((dk ds s0 = 6 ∧ WP 85 56 [q0, q1, q2] [(2, m s0 4)] ds m Q)) := P_gd k85_53 rfl
set_option maxRecDepth 20000 in
theorem k85_56 : mjCode 85 56 = some (.getfield 236, 3, 5, 5) := by decide +kernel
theorem p85_56 {s0 : Int} {q0 q1 q2 : MV} {ds : Ds} {m : Mm} {Q : Ds → Mm → List MV → Prop} : WP 85 56 [q0, q1, q2] [(2, s0)] ds m Q = ((dk ds s0 = 5 ∧ WP 85 59 [q0, q1, q2] [(2, m s0 5)] ds m Q)) := P_gd k85_56 rfl
set_option maxRecDepth 20000 in
theorem k85_59 : mjCode 85 59 = some (.iload_n 1, 1, 0, 0) := by decide +kernel
theorem p85_59 {l1 s0 : Int} {q0 q2 : MV} {ds : Ds} {m : Mm} {Q : Ds → Mm → List MV → Prop} : WP 85 59 [q0, (0, l1), q2] [(2, s0)] ds m Q = (WP 85 60 [q0, (0, l1), q2] [(0, l1), (2, s0)] ds m Q) := P_nx k85_59 rfl
set_option maxRecDepth 20000 in
theorem k85_60 : mjCode 85 60 = some (.iaload, 1, 0, 0) := by decide +kernel
theorem p85_60 {s0 s1 : Int} {q0 q1 q2 : MV} {ds : Ds} {m : Mm} {Q : Ds → Mm → List MV → Prop} : WP 85 60 [q0, q1, q2] [(0, s0), (2, s1)] ds m Q = ((dk ds s1 = 10 ∧ 0 ≤ s0 ∧ s0 < dl ds s1 ∧ WP 85 61 [q0, q1, q2] [(0, m s1 s0)] ds m Q)) := P_g3 k85_60 rfl
set_option maxRecDepth 20000 in
theorem k85_61 : mjCode 85 61 = some (.ireturn, 1, 0, 0) := by decide +kernel
theorem p85_61 {s0 : Int} {q0 q1 q2 : MV} {ds : Ds} {m : Mm} {Q : Ds → Mm → List MV → Prop} : WP 85 61 [q0, q1, q2] [(0, s0)] ds m Q = (Q ds m [(0, s0)]) := P_ri k85_61 rk85
set_option maxRecDepth 20000 in
theorem k85_62 : mjCode 85 62 = some (.aload_n 0, 1, 0, 0) := by decide +kernel
theorem p85_62 {l0 : Int} {q1 q2 : MV} {ds : Ds} {m : Mm} {Q : Ds → Mm → List MV → Prop} : WP 85 62 [(2, l0), q1, q2] [] ds m Q = (WP 85 63 [(2, l0), q1, q2] [(2, l0)] ds m Q) := P_nx k85_62 rfl
set_option maxRecDepth 20000 in
theorem k85_63 : mjCode 85 63 = some (.getfield 62, 3, 6, 4) := by decide +kernel
theorem p85_63 {s0 : Int} {q0 q1 q2 : MV} {ds : Ds} {m : Mm} {Q : Ds → Mm → List MV → Prop} : WP 85 63 [q0, q1, q2] [(2, s0)] ds m Q = ((dk ds s0 = 6 ∧ WP 85 66 [q0, q1, q2] [(2, m s0 4)] ds m Q)) := P_gd k85_63 rfl
set_option maxRecDepth 20000 in
theorem k85_66 : mjCode 85 66 = some (.getfield 239, 3, 5, 4) := by decide +kernel
theorem p85_66 {s0 : Int} {q0 q1 q2 : MV} {ds : Ds} {m : Mm} {Q : Ds → Mm → List MV → Prop} : WP 85 66 [q0, q1, q2] [(2, s0)] ds m Q = ((dk ds s0 = 5 ∧ WP 85 69 [q0, q1, q2] [(2, m s0 4)] ds m Q)) := P_gd k85_66 rfl
set_option maxRecDepth 20000 in
theorem k85_69 : mjCode 85 69 = some (.iload_n 1, 1, 0, 0) := by decide +kernel
theorem p85_69 {l1 s0 : Int} {q0 q2 : MV} {ds : Ds} {m : Mm} {Q : Ds → Mm → List MV → Prop} : WP 85 69 [q0, (0, l1), q2] [(2, s0)] ds m Q = (WP 85 70 [q0, (0, l1), q2] [(0, l1), (2, s0)] ds m Q) := P_nx k85_69 rfl
set_option maxRecDepth 20000 in
theorem k85_70 : mjCode 85 70 = some (.iaload, 1, 0, 0) := by decide +kernel
theorem p85_70 {s0 s1 : Int} {q0 q1 q2 : MV} {ds : Ds} {m : Mm} {Q : Ds → Mm → List MV → Prop} : WP 85 70 [q0, q1, q2] [(0, s0), (2, s1)] ds m Q = ((dk ds s1 = 10 ∧ 0 ≤ s0 ∧ s0 < dl ds s1 ∧ WP 85 71 [q0, q1, q2] [(0, m s1 s0)] ds m Q)) := P_g3 k85_70 rfl
set_option maxRecDepth 20000 in
theorem k85_71 : mjCode 85 71 = some (.ireturn, 1, 0, 0) := by decide +kernel
theorem p85_71 {s0 : Int} {q0 q1 q2 : MV} {ds : Ds} {m : Mm} {Q : Ds → Mm → List MV → Prop} : WP 85 71 [q0, q1, q2] [(0, s0)] ds m Q = (Q ds m [(0, s0)]) := P_ri k85_71 rk85
set_option maxRecDepth 20000 in
theorem k85_72 : mjCode 85 72 = some (.aload_n 0, 1, 0, 0) := by decide +kernel
theorem p85_72 {l0 : Int} {q1 q2 : MV} {ds : Ds} {m : Mm} {Q : Ds → Mm → List MV → Prop} : WP 85 72 [(2, l0), q1, q2] [] ds m Q = (WP 85 73 [(2, l0), q1, q2] [(2, l0)] ds m Q) := P_nx k85_72 rfl
set_option maxRecDepth 20000 in
theorem k85_73 : mjCode 85 73 = some (.getfield 62, 3, 6, 4) := by decide +kernel
theorem p85_73 {s0 : Int} {q0 q1 q2 : MV} {ds : Ds} {m : Mm} {Q : Ds → Mm → List MV → Prop} : WP 85 73 [q0, q1, q2] [(2, s0)] ds m Q = ((dk ds s0 = 6 ∧ WP 85 76 [q0, q1, q2] [(2, m s0 4)] ds m Q)) := P_gd k85_73 rfl
set_option maxRecDepth 20000 in
theorem k85_76 : mjCode 85 76 = some (.getfield 242, 3, 5, 3) := by decide +kernel
theorem p85_76 {s0 : Int} {q0 q1 q2 : MV} {ds : Ds} {m : Mm} {Q : Ds → Mm → List MV → Prop} : WP 85 76 [q0, q1, q2] [(2, s0)] ds m Q = ((dk ds s0 = 5 ∧ WP 85 79 [q0, q1, q2] [(2, m s0 3)] ds m Q)) := P_gd k85_76 rfl
set_option maxRecDepth 20000 in
theorem k85_79 : mjCode 85 79 = some (.iload_n 1, 1, 0, 0) := by decide +kernel
theorem p85_79 {l1 s0 : Int} {q0 q2 : MV} {ds : Ds} {m : Mm} {Q : Ds → Mm → List MV → Prop} : WP 85 79 [q0, (0, l1), q2] [(2, s0)] ds m Q = (WP 85 80 [q0, (0, l1), q2] [(0, l1), (2, s0)] ds m Q) := P_nx k85_79 rfl
set_option maxRecDepth 20000 in
theorem k85_80 : mjCode 85 80 = some (.iaload, 1, 0, 0) := by decide +kernel
theorem p85_80 {s0 s1 : Int} {q0 q1 q2 : MV} {ds : Ds} {m : Mm} {Q : Ds → Mm → List MV → Prop} : WP 85 80 [q0, q1, q2] [(0, s0), (2, s1)] ds m Q = ((dk ds s1 = 10 ∧ 0 ≤ s0 ∧ s0 < dl ds s1 ∧ WP 85 81 [q0, q1, q2] [(0, m s1 s0)] ds m Q)) := P_g3 k85_80 rfl
set_option maxRecDepth 20000 in
theorem k85_81 : mjCode 85 81 = some (.ireturn, 1, 0, 0) := by decide +kernel
theorem p85_81 {s0 : Int} {q0 q1 q2 : MV} {ds : Ds} {m : Mm} {Q : Ds → Mm → List MV → Prop} : WP 85 81 [q0, q1, q2] [(0, s0)] ds m Q = (Q ds m [(0, s0)]) := P_ri k85_81 rk85
set_option maxRecDepth 20000 in
theorem k85_82 : mjCode 85 82 = some (.aload_n 0, 1, 0, 0) := by decide +kernel
theorem p85_82 {l0 : Int} {q1 q2 : MV} {ds : Ds} {m : Mm} {Q : Ds → Mm → List MV → Prop} : WP 85 82 [(2, l0), q1, q2] [] ds m Q = (WP 85 83 [(2, l0), q1, q2] [(2, l0)] ds m Q) := P_nx k85_82 rfl
set_option maxRecDepth 20000 in
theorem k85_83 : mjCode 85 83 = some (.getfield 62, 3, 6, 4) := by decide +kernel
theorem p85_83 {s0 : Int} {q0 q1 q2 : MV} {ds : Ds} {m : Mm} {Q : Ds → Mm → List MV → Prop} : WP 85 83 [q0, q1, q2] [(2, s0)] ds m Q = ((dk ds s0 = 6 ∧ WP 85 86 [q0, q1, q2] [(2, m s0 4)] ds m Q)) := P_gd k85_83 rfl
set_option maxRecDepth 20000 in
theorem k85_86 : mjCode 85 86 = some (.getfield 214, 3, 5, 2) := by decide +kernel
theorem p85_86 {s0 : Int} {q0 q1 q2 : MV} {ds : Ds} {m : Mm} {Q : Ds → Mm → List MV → Prop} : WP 85 86 [q0, q1, q2] [(2, s0)] ds m Q = ((dk ds s0 = 5 ∧ WP 85 89 [q0, q1, q2] [(2, m s0 2)] ds m Q)) := P_gd k85_86 rfl
set_option maxRecDepth 20000 in
theorem k85_89 : mjCode 85 89 = some (.iload_n 1, 1, 0, 0) := by decide +kernel
theorem p85_89 {l1 s0 : Int} {q0 q2 : MV} {ds : Ds} {m : Mm} {Q : Ds → Mm → List MV → Prop} : WP 85 89 [q0, (0, l1), q2] [(2, s0)] ds m Q = (WP 85 90 [q0, (0, l1), q2] [(0, l1), (2, s0)] ds m Q) := P_nx k85_89 rfl
set_option maxRecDepth 20000 in
theorem k85_90 : mjCode 85 90 = some (.invokevirtual 245, 3, 4, 2) := by decide +kernel
theorem p85_90 {s0 s1 : Int} {q0 q1 q2 : MV} {ds : Ds} {m : Mm} {Q : Ds → Mm → List MV → Prop} : WP 85 90 [q0, q1, q2] [(0, s0), (2, s1)] ds m Q = ((dk ds s1 = 0 ∧ WP 3 0 [(2, s1), (0, s0)] [] ds m (fun d2 m2 r2 => WP 85 93 [q0, q1, q2] (r2 ++ []) d2 m2 Q))) := P_cv k85_90 mx3 mo3 rfl rfl rfl rfl rfl rfl rfl rfl
set_option maxRecDepth 20000 in
theorem k85_93 : mjCode 85 93 = some (.iconst (-1), 1, 0, 0) := by decide +kernel
theorem p85_93 {s0 : Int} {q0 q1 q2 : MV} {ds : Ds} {m : Mm} {Q : Ds → Mm → List MV → Prop} : WP 85 93 [q0, q1, q2] [(0, s0)] ds m Q = (WP 85 94 [q0, q1, q2] [(0, (-1)), (0, s0)] ds m Q) := P_nx k85_93 rfl
set_option maxRecDepth 20000 in
theorem k85_94 : mjCode 85 94 = some (.if_icmp .eq 7, 3, 101, 0) := by decide +kernel
theorem p85_94 {s0 s1 : Int} {q0 q1 q2 : MV} {ds : Ds} {m : Mm} {Q : Ds → Mm → List MV → Prop} : WP 85 94 [q0, q1, q2] [(0, s0), (0, s1)] ds m Q = (if s1 = s0 then WP 85 101 [q0, q1, q2] [] ds m Q else WP 85 97 [q0, q1, q2] [] ds m Q) := P_if k85_94 rfl
set_option maxRecDepth 20000 in
theorem k85_97 : mjCode 85 97 = some (.iconst 1, 1, 0, 0) := by decide +kernel
theorem p85_97 {q0 q1 q2 : MV} {ds : Ds} {m : Mm} {Q : Ds → Mm → List MV → Prop} : WP 85 97 [q0, q1, q2] [] ds m Q = (WP 85 98 [q0, q1, q2] [(0, 1)] ds m Q) := P_nx k85_97 rfl
set_option maxRecDepth 20000 in
theorem k85_98 : mjCode 85 98 = some (.goto 4, 3, 102, 0) := by decide +kernel
theorem p85_98 {s0 : Int} {q0 q1 q2 : MV} {ds : Ds} {m : Mm} {Q : Ds → Mm → List MV → Prop} : WP 85 98 [q0, q1, q2] [(0, s0)] ds m Q = (WP 85 102 [q0, q1, q2] [(0, s0)] ds m Q) := P_nx k85_98 rfl
set_option maxRecDepth 20000 in
theorem k85_101 : mjCode 85 101 = some (.iconst 0, 1, 0, 0) := by decide +kernel
theorem p85_101 {q0 q1 q2 : MV} {ds : Ds} {m : Mm} {Q : Ds → Mm → List MV → Prop} : WP 85 101 [q0, q1, q2] [] ds m Q = (WP 85 102 [q0, q1, q2] [(0, 0)] ds m Q) := P_nx k85_101 rfl
set_option maxRecDepth 20000 in
theorem k85_102 : mjCode 85 102 = some (.ireturn, 1, 0, 0) := by decide +kernel
theorem p85_102 {s0 : Int} {q0 q1 q2 : MV} {ds : Ds} {m : Mm} {Q : Ds → Mm → List MV → Prop} : WP 85 102 [q0, q1, q2] [(0, s0)] ds m Q = (Q ds m [(0, s0)]) := P_ri k85_102 rk85
set_option maxRecDepth 20000 in
theorem k85_103 : mjCode 85 103 = some (.aload_n 0, 1, 0, 0) := by decide +kernel
theorem p85_103 {l0 : Int} {q1 q2 : MV} {ds : Ds} {m : Mm} {Q : Ds → Mm → List MV → Prop} : WP 85 103 [(2, l0), q1, q2] [] ds m Q = (WP 85 104 [(2, l0), q1, q2] [(2, l0)] ds m Q) := P_nx k85_103 rfl
set_option maxRecDepth 20000 in
theorem k85_104 : mjCode 85 104 = some (.getfield 62, 3, 6, 4) := by decide +kernel
theorem p85_104 {s0 : Int} {q0 q1 q2 : MV} {ds : Ds} {m : Mm} {Q : Ds → Mm → List MV → Prop} : WP 85 104 [q0, q1, q2] [(2, s0)] ds m Q = ((dk ds s0 = 6 ∧ WP 85 107 [q0, q1, q2] [(2, m s0 4)] ds m Q)) := P_gd k85_104 rfl
set_option maxRecDepth 20000 in
theorem k85_107 : mjCode 85 107 = some (.getfield 248, 3, 5, 6) := by decide +kernel
theorem p85_107 {s0 : Int} {q0 q1 q2 : MV} {ds : Ds} {m : Mm} {Q : Ds → Mm → List MV → Prop} : WP 85 107 [q0, q1, q2] [(2, s0)] ds m Q = ((dk ds s0 = 5 ∧ WP 85 110 [q0, q1, q2] [(2, m s0 6)] ds m Q)) := P_gd k85_107 rfl
set_option maxRecDepth 20000 in
theorem k85_110 : mjCode 85 110 = some (.iload_n 1, 1, 0, 0) := by decide +kernel
theorem p85_110 {l1 s0 : Int} {q0 q2 : MV} {ds : Ds} {m : Mm} {Q : Ds → Mm → List MV → Prop} : WP 85 110 [q0, (0, l1), q2] [(2, s0)] ds m Q = (WP 85 111 [q0, (0, l1), q2] [(0, l1), (2, s0)] ds m Q) := P_nx k85_110 rfl
set_option maxRecDepth 20000 in
theorem k85_111 : mjCode 85 111 = some (.baload, 1, 0, 0) := by decide +kernel
theorem p85_111 {s0 s1 : Int} {q0 q1 q2 : MV} {ds : Ds} {m : Mm} {Q : Ds → Mm → List MV → Prop} : WP 85 111 [q0, q1, q2] [(0, s0), (2, s1)] ds m Q = ((dk ds s1 = 11 ∧ 0 ≤ s0 ∧ s0 < dl ds s1 ∧ WP 85 112 [q0, q1, q2] [(0, m s1 s0)] ds m Q)) := P_g3 k85_111 rfl
set_option maxRecDepth 20000 in
theorem k85_112 : mjCode 85 112 = some (.ifCond .eq 7, 3, 119, 0) := by decide +kernel
theorem p85_112 {s0 : Int} {q0 q1 q2 : MV} {ds : Ds} {m : Mm} {Q : Ds → Mm → List MV → Prop} : WP 85 112 [q0, q1, q2] [(0, s0)] ds m Q = (if s0 = 0 then WP 85 119 [q0, q1, q2] [] ds m Q else WP 85 115 [q0, q1, q2] [] ds m Q) := P_if k85_112 rfl
set_option maxRecDepth 20000 in
theorem k85_115 : mjCode 85 115 = some (.iconst 1, 1, 0, 0) := by decide +kernel
theorem p85_115 {q0 q1 q2 : MV} {ds : Ds} {m : Mm} {Q : Ds → Mm → List MV → Prop} : WP 85 115 [q0, q1, q2] [] ds m Q = (WP 85 116 [q0, q1, q2] [(0, 1)] ds m Q) := P_nx k85_115 rfl
set_option maxRecDepth 20000 in
theorem k85_116 : mjCode 85 116 = some (.goto 4, 3, 120, 0) := by decide +kernel
theorem p85_116 {s0 : Int} {q0 q1 q2 : MV} {ds : Ds} {m : Mm} {Q : Ds → Mm → List MV → Prop} : WP 85 116 [q0, q1, q2] [(0, s0)] ds m Q = (WP 85 120 [q0, q1, q2] [(0, s0)] ds m Q) := P_nx k85_116 rfl
set_option maxRecDepth 20000 in
theorem k85_119 : mjCode 85 119 = some (.iconst 0, 1, 0, 0) := by decide +kernel
theorem p85_119 {q0 q1 q2 : MV} {ds : Ds} {m : Mm} {Q : Ds → Mm → List MV → Prop} : WP 85 119 [q0, q1, q2] [] ds m Q = (WP 85 120 [q0, q1, q2] [(0, 0)] ds m Q) := P_nx k85_119 rfl
set_option maxRecDepth 20000 in
theorem k85_120 : mjCode 85 120 = some (.ireturn, 1, 0, 0) := by decide +kernel
theorem p85_120 {s0 : Int} {q0 q1 q2 : MV} {ds : Ds} {m : Mm} {Q : Ds → Mm → List MV → Prop} : WP 85 120 [q0, q1, q2] [(0, s0)] ds m Q = (Q ds m [(0, s0)]) := P_ri k85_120 rk85
set_option maxRecDepth 20000 in
theorem k85_121 : mjCode 85 121 = some (.iconst (-1), 1, 0, 0) := by decide +kernel
theorem p85_121 {q0 q1 q2 : MV} {ds : Ds} {m : Mm} {Q : Ds → Mm → List MV → Prop} : WP 85 121 [q0, q1, q2] [] ds m Q = (WP 85 122 [q0, q1, q2] [(0, (-1))] ds m Q) := P_nx k85_121 rfl
set_option maxRecDepth 20000 in
theorem k85_122 : mjCode 85 122 = some (.ireturn, 1, 0, 0) := by decide +kernel
theorem p85_122 {s0 : Int} {q0 q1 q2 : MV} {ds : Ds} {m : Mm} {Q : Ds → Mm → List MV → Prop} : WP 85 122 [q0, q1, q2] [(0, s0)] ds m Q = (Q ds m [(0, s0)]) := P_ri k85_122 rk85
set_option maxRecDepth 20000 in
theorem k86_0 : mjCode 86 0 = some (.iload_n 2, 1, 0, 0) := by decide +kernel
theorem p86_0 {l2 : Int} {q0 q1 q3 q4 : MV} {ds : Ds} {m : Mm} {Q : Ds → Mm → List MV → Prop} : WP 86 0 [q0, q1, (0, l2), q3, q4] [] ds m Q = (WP 86 1 [q0, q1, (0, l2), q3, q4] [(0, l2)] ds m Q) := P_nx k86_0 rfl
set_option maxRecDepth 20000 in
theorem k86_1 : mjCode 86 1 = some (.ifCond .ge 5, 3, 6, 0) := by decide +kernel
theorem p86_1 {s0 : Int} {q0 q1 q2 q3 q4 : MV} {ds : Ds} {m : Mm} {Q : Ds → Mm → List MV → Prop} : WP 86 1 [q0, q1, q2, q3, q4] [(0, s0)] ds m Q = (if s0 < 0 then WP 86 4 [q0, q1, q2, q3, q4] [] ds m Q else WP 86 6 [q0, q1, q2, q3, q4] [] ds m Q) := P_if k86_1 rfl
set_option maxRecDepth 20000 in
theorem k86_4 : mjCode 86 4 = some (.iconst (-1), 1, 0, 0) := by decide +kernel
theorem p86_4 {q0 q1 q2 q3 q4 : MV} {ds : Ds} {m : Mm} {Q : Ds → Mm → List MV → Prop} : WP 86 4 [q0, q1, q2, q3, q4] [] ds m Q = (WP 86 5 [q0, q1, q2, q3, q4] [(0, (-1))] ds m Q) := P_nx k86_4 rfl
set_option maxRecDepth 20000 in
theorem k86_5 : mjCode 86 5 = some (.ireturn, 1, 0, 0) := by decide +kernel
theorem p86_5 {s0 : Int} {q0 q1 q2 q3 q4 : MV} {ds : Ds} {m : Mm} {Q : Ds → Mm → List MV → Prop} : WP 86 5 [q0, q1, q2, q3, q4] [(0, s0)] ds m Q = (Q ds m [(0, s0)]) := P_ri k86_5 rk86
set_option maxRecDepth 20000 in
theorem k86_6 : mjCode 86 6 = some (.aload_n 0, 1, 0, 0) := by decide +kernel
theorem p86_6 {l0 : Int} {q1 q2 q3 q4 : MV} {ds : Ds} {m : Mm} {Q : Ds → Mm → List MV → Prop} : WP 86 6 [(2, l0), q1, q2, q3, q4] [] ds m Q = (WP 86 7 [(2, l0), q1, q2, q3, q4] [(2, l0)] ds m Q) := P_nx k86_6 rfl
set_option maxRecDepth 20000 in
theorem k86_7 : mjCode 86 7 = some (.getfield 62, 3, 6, 4) := by decide +kernel
theorem p86_7 {s0 : Int} {q0 q1 q2 q3 q4 : MV} {ds : Ds} {m : Mm} {Q : Ds → Mm → List MV → Prop} : WP 86 7 [q0, q1, q2, q3, q4] [(2, s0)] ds m Q = ((dk ds s0 = 6 ∧ WP 86 10 [q0, q1, q2, q3, q4] [(2, m s0 4)] ds m Q)) := P_gd k86_7 rfl
set_option maxRecDepth 20000 in
theorem k86_10 : mjCode 86 10 = some (.getfield 201, 3, 5, 1) := by decide +kernel
theorem p86_10 {s0 : Int} {q0 q1 q2 q3 q4 : MV} {ds : Ds} {m : Mm} {Q : Ds → Mm → List MV → Prop} : WP 86 10 [q0, q1, q2, q3, q4] [(2, s0)] ds m Q = ((dk ds s0 = 5 ∧ WP 86 13 [q0, q1, q2, q3, q4] [(2, m s0 1)] ds m Q)) := P_gd k86_10 rfl
set_option maxRecDepth 20000 in
theorem k86_13 : mjCode 86 13 = some (.astore_n 3, 1, 0, 0) := by decide +kernel
theorem p86_13 {l2 s0 : Int} {q0 q1 q3 q4 : MV} {ds : Ds} {m : Mm} {Q : Ds → Mm → List MV → Prop} : WP 86 13 [q0, q1, (0, l2), q3, q4] [(2, s0)] ds m Q = (WP 86 14 [q0, q1, (0, l2), (2, s0), q4] [] ds m Q) := P_nx k86_13 rfl
set_option maxRecDepth 20000 in
theorem k86_14 : mjCode 86 14 = some (.aload_n 3, 1, 0, 0) := by decide +kernel
theorem p86_14 {l3 : Int} {q0 q1 q2 q4 : MV} {ds : Ds} {m : Mm} {Q : Ds → Mm → List MV → Prop} : WP 86 14 [q0, q1, q2, (2, l3), q4] [] ds m Q = (WP 86 15 [q0, q1, q2, (2, l3), q4] [(2, l3)] ds m Q) := P_nx k86_14 rfl
set_option maxRecDepth 20000 in
theorem k86_15 : mjCode 86 15 = some (.iload_n 1, 1, 0, 0) := by decide +kernel
theorem p86_15 {l1 s0 : Int} {q0 q2 q3 q4 : MV} {ds : Ds} {m : Mm} {Q : Ds → Mm → List MV → Prop} : WP 86 15 [q0, (0, l1), q2, q3, q4] [(2, s0)] ds m Q = (WP 86 16 [q0, (0, l1), q2, q3, q4] [(0, l1), (2, s0)] ds m Q) := P_nx k86_15 rfl
set_option maxRecDepth 20000 in
theorem k86_16 : mjCode 86 16 = some (.invokevirtual 251, 3, 20, 2) := by decide +kernel
theorem p86_16 {s0 s1 : Int} {q0 q1 q2 q3 q4 : MV} {ds : Ds} {m : Mm} {Q : Ds → Mm → List MV → Prop} : WP 86 16 [q0, q1, q2, q3, q4] [(0, s0), (2, s1)] ds m Q = ((dk ds s1 = 2 ∧ WP 19 0 [(2, s1), (0, s0), (3, 0)] [] ds m (fun d2 m2 r2 => WP 86 19 [q0, q1, q2, q3, q4] (r2 ++ []) d2 m2 Q))) := P_cv k86_16 mx19 mo19 rfl rfl rfl rfl rfl rfl rfl rfl
set_option maxRecDepth 20000 in
theorem k86_19 : mjCode 86 19 = some (.istore 4, 2, 0, 0) := by decide +kernel
theorem p86_19 {l3 s0 : Int} {q0 q1 q2 q4 : MV} {ds : Ds} {m : Mm} {Q : Ds → Mm → List MV → Prop} : WP 86 19 [q0, q1, q2, (2, l3), q4] [(0, s0)] ds m Q = (WP 86 21 [q0, q1, q2, (2, l3), (0, s0)] [] ds m Q) := P_nx k86_19 rfl
set_option maxRecDepth 20000 in
theorem k86_21 : mjCode 86 21 = some (.aload_n 3, 1, 0, 0) := by decide +kernel
theorem p86_21 {l3 : Int} {q0 q1 q2 q4 : MV} {ds : Ds} {m : Mm} {Q : Ds → Mm → List MV → Prop} : WP 86 21 [q0, q1, q2, (2, l3), q4] [] ds m Q = (WP 86 22 [q0, q1, q2, (2, l3), q4] [(2, l3)] ds m Q) := P_nx k86_21 rfl
set_option maxRecDepth 20000 in
theorem k86_22 : mjCode 86 22 = some (.iload 4, 2, 0, 0) := by decide +kernel
theorem p86_22 {l4 s0 : Int} {q0 q1 q2 q3 : MV} {ds : Ds} {m : Mm} {Q : Ds → Mm → List MV → Prop} : WP 86 22 [q0, q1, q2, q3, (0, l4)] [(2, s0)] ds m Q = (WP 86 24 [q0, q1, q2, q3, (0, l4)] [(0, l4), (2, s0)] ds m Q) := P_nx k86_22 rfl
set_option maxRecDepth 20000 in
theorem k86_24 : mjCode 86 24 = some (.aload_n 3, 1, 0, 0) := by decide +kernel
theorem p86_24 {l3 s0 s1 : Int} {q0 q1 q2 q4 : MV} {ds : Ds} {m : Mm} {Q : Ds → Mm → List MV → Prop} : WP 86 24 [q0, q1, q2, (2, l3), q4] [(0, s0), (2, s1)] ds m Q = (WP 86 25 [q0, q1, q2, (2, l3), q4] [(2, l3), (0, s0), (2, s1)] ds m Q) := P_nx k86_24 rfl
set_option maxRecDepth 20000 in
theorem k86_25 : mjCode 86 25 = some (.iload 4, 2, 0, 0) := by decide +kernel
theorem p86_25 {l4 s0 s1 s2 : Int} {q0 q1 q2 q3 : MV} {ds : Ds} {m : Mm} {Q : Ds → Mm → List MV → Prop} : WP 86 25 [q0, q1, q2, q3, (0, l4)] [(2, s0), (0, s1), (2, s2)] ds m Q = (WP 86 27 [q0, q1, q2, q3, (0, l4)] [(0, l4), (2, s0), (0, s1), (2, s2)] ds m Q) := P_nx k86_25 rfl
set_option maxRecDepth 20000 in
theorem k86_27 : mjCode 86 27 = some (.invokevirtual 254, 3, 21, 2) := by decide +kernel
theorem p86_27 {s0 s1 s2 s3 : Int} {q0 q1 q2 q3 q4 : MV} {ds : Ds} {m : Mm} {Q : Ds → Mm → List MV → Prop} : WP 86 27 [q0, q1, q2, q3, q4] [(0, s0), (2, s1), (0, s2), (2, s3)] ds m Q = ((dk ds s1 = 2 ∧ WP 20 0 [(2, s1), (0, s0), (3, 0), (3, 0), (3, 0)] [] ds m (fun d2 m2 r2 => WP 86 30 [q0, q1, q2, q3, q4] (r2 ++ [(0, s2), (2, s3)]) d2 m2 Q))) := P_cv k86_27 mx20 mo20 rfl rfl rfl rfl rfl rfl rfl rfl
set_option maxRecDepth 20000 in
theorem k86_30 : mjCode 86 30 = some (.iload_n 2, 1, 0, 0) := by decide +kernel
theorem p86_30 {l2 s0 s1 s2 : Int} {q0 q1 q3 q4 : MV} {ds : Ds} {m : Mm} {Q : Ds → Mm → List MV → Prop} : WP 86 30 [q0, q1, (0, l2), q3, q4] [(0, s0), (0, s1), (2, s2)] ds m Q = (WP 86 31 [q0, q1, (0, l2), q3, q4] [(0, l2), (0, s0), (0, s1), (2, s2)] ds m Q) := P_nx k86_30 rfl
set_option maxRecDepth 20000 in
theorem k86_31 : mjCode 86 31 = some (.isub, 1, 0, 0) := by decide +kernel
theorem p86_31 {s0 s1 s2 s3 : Int} {q0 q1 q2 q3 q4 : MV} {ds : Ds} {m : Mm} {Q : Ds → Mm → List MV → Prop} : WP 86 31 [q0, q1, q2, q3, q4] [(0, s0), (0, s1), (0, s2), (2, s3)] ds m Q = (WP 86 32 [q0, q1, q2, q3, q4] [(0, w32 (s1 - s0)), (0, s2), (2, s3)] ds m Q) := P_nx k86_31 rfl
set_option maxRecDepth 20000 in
theorem k86_32 : mjCode 86 32 = some (.invokevirtual 257, 3, 22, 3) := by decide +kernel
theorem p86_32 {s0 s1 s2 : Int} {q0 q1 q2 q3 q4 : MV} {ds : Ds} {m : Mm} {Q : Ds → Mm → List MV → Prop} : WP 86 32 [q0, q1, q2, q3, q4] [(0, s0), (0, s1), (2, s2)] ds m Q = ((dk ds s2 = 2 ∧ WP 21 0 [(2, s2), (0, s1), (0, s0), (3, 0), (3, 0)] [] ds m (fun d2 m2 r2 => WP 86 35 [q0, q1, q2, q3, q4] (r2 ++ []) d2 m2 Q))) := P_cv k86_32 mx21 mo21 rfl rfl rfl rfl rfl rfl rfl rfl
set_option maxRecDepth 20000 in
theorem k86_35 : mjCode 86 35 = some (.ireturn, 1, 0, 0) := by decide +kernel
theorem p86_35 {s0 : Int} {q0 q1 q2 q3 q4 : MV} {ds : Ds} {m : Mm} {Q : Ds → Mm → List MV → Prop} : WP 86 35 [q0, q1, q2, q3, q4] [(0, s0)] ds m Q = (Q ds m [(0, s0)]) := P_ri k86_35 rk86
set_option maxRecDepth 20000 in
theorem k87_0 : mjCode 87 0 = some (.aload_n 0, 1, 0, 0) := by decide +kernel
theorem p87_0 {l0 : Int} {q1 q2 q3 q4 q5 : MV} {ds : Ds} {m : Mm} {Q : Ds → Mm → List MV → Prop} : WP 87 0 [(2, l0), q1, q2, q3, q4, q5] [] ds m Q = (WP 87 1 [(2, l0), q1, q2, q3, q4, q5] [(2, l0)] ds m Q) := P_nx k87_0 rfl
set_option maxRecDepth 20000 in
theorem k87_1 : mjCode 87 1 = some (.iload_n 1, 1, 0, 0) := by decide +kernel
theorem p87_1 {l1 s0 : Int} {q0 q2 q3 q4 q5 : MV} {ds : Ds} {m : Mm} {Q : Ds → Mm → List MV → Prop} : WP 87 1 [q0, (0, l1), q2, q3, q4, q5] [(2, s0)] ds m Q = (WP 87 2 [q0, (0, l1), q2, q3, q4, q5] [(0, l1), (2, s0)] ds m Q) := P_nx k87_1 rfl
set_option maxRecDepth 20000 in
theorem k87_2 : mjCode 87 2 = some (.invokevirtual 146, 3, 97, 2) := by decide +kernel
theorem p87_2 {s0 s1 : Int} {q0 q1 q2 q3 q4 q5 : MV} {ds : Ds} {m : Mm} {Q : Ds → Mm → List MV → Prop} : WP 87 2 [q0, q1, q2, q3, q4, q5] [(0, s0), (2, s1)] ds m Q = ((dk ds s1 = 6 ∧ WP 96 0 [(2, s1), (0, s0)] [] ds m (fun d2 m2 r2 => WP 87 5 [q0, q1, q2, q3, q4, q5] (r2 ++ []) d2 m2 Q))) := P_cv k87_2 mx96 mo96 rfl rfl rfl rfl rfl rfl rfl rfl
set_option maxRecDepth 20000 in
theorem k87_5 : mjCode 87 5 = some (.astore_n 2, 1, 0, 0) := by decide +kernel
theorem p87_5 {l1 s0 : Int} {q0 q2 q3 q4 q5 : MV} {ds : Ds} {m : Mm} {Q : Ds → Mm → List MV → Prop} : WP 87 5 [q0, (0, l1), q2, q3, q4, q5] [(2, s0)] ds m Q = (WP 87 6 [q0, (0, l1), (2, s0), q3, q4, q5] [] ds m Q) := P_nx k87_5 rfl
set_option maxRecDepth 20000 in
theorem k87_6 : mjCode 87 6 = some (.aload_n 2, 1, 0, 0) := by decide +kernel
theorem p87_6 {l2 : Int} {q0 q1 q3 q4 q5 : MV} {ds : Ds} {m : Mm} {Q : Ds → Mm → List MV → Prop} : WP 87 6 [q0, q1, (2, l2), q3, q4, q5] [] ds m Q = (WP 87 7 [q0, q1, (2, l2), q3, q4, q5] [(2, l2)] ds m Q) := P_nx k87_6 rfl
set_option maxRecDepth 20000 in
theorem k87_7 : mjCode 87 7 = some (.ifnonnull 13, 3, 20, 0) := by decide +kernel
theorem p87_7 {s0 : Int} {q0 q1 q2 q3 q4 q5 : MV} {ds : Ds} {m : Mm} {Q : Ds → Mm → List MV → Prop} : WP 87 7 [q0, q1, q2, q3, q4, q5] [(2, s0)] ds m Q = (if s0 < 0 then WP 87 10 [q0, q1, q2, q3, q4, q5] [] ds m Q else WP 87 20 [q0, q1, q2, q3, q4, q5] [] ds m Q) := P_if k87_7 rfl
set_option maxRecDepth 20000 in
theorem k87_10 : mjCode 87 10 = some (.aload_n 0, 1, 0, 0) := by decide +kernel
theorem p87_10 {l0 : Int} {q1 q2 q3 q4 q5 : MV} {ds : Ds} {m : Mm} {Q : Ds → Mm → List MV → Prop} : WP 87 10 [(2, l0), q1, q2, q3, q4, q5] [] ds m Q = (WP 87 11 [(2, l0), q1, q2, q3, q4, q5] [(2, l0)] ds m Q) := P_nx k87_10 rfl
set_option maxRecDepth 20000 in
theorem k87_11 : mjCode 87 11 = some (.aload_n 0, 1, 0, 0) := by decide +kernel
theorem p87_11 {l0 s0 : Int} {q1 q2 q3 q4 q5 : MV} {ds : Ds} {m : Mm} {Q : Ds → Mm → List MV → Prop} : WP 87 11 [(2, l0), q1, q2, q3, q4, q5] [(2, s0)] ds m Q = (WP 87 12 [(2, l0), q1, q2, q3, q4, q5] [(2, l0), (2, s0)] ds m Q) := P_nx k87_11 rfl
set_option maxRecDepth 20000 in
theorem k87_12 : mjCode 87 12 = some (.iload_n 1, 1, 0, 0) := by decide +kernel
theorem p87_12 {l1 s0 s1 : Int} {q0 q2 q3 q4 q5 : MV} {ds : Ds} {m : Mm} {Q : Ds → Mm → List MV → Prop} : WP 87 12 [q0, (0, l1), q2, q3, q4, q5] [(2, s0), (2, s1)] ds m Q = (WP 87 13 [q0, (0, l1), q2, q3, q4, q5] [(0, l1), (2, s0), (2, s1)] ds m Q) := P_nx k87_12 rfl
set_option maxRecDepth 20000 in
theorem k87_13 : mjCode 87 13 = some (.invokevirtual 150, 3, 98, 2) := by decide +kernel
theorem p87_13 {s0 s1 s2 : Int} {q0 q1 q2 q3 q4 q5 : MV} {ds : Ds} {m : Mm} {Q : Ds → Mm → List MV → Prop} : WP 87 13 [q0, q1, q2, q3, q4, q5] [(0, s0), (2, s1), (2, s2)] ds m Q = ((dk ds s1 = 6 ∧ WP 97 0 [(2, s1), (0, s0)] [] ds m (fun d2 m2 r2 => WP 87 16 [q0, q1, q2, q3, q4, q5] (r2 ++ [(2, s2)]) d2 m2 Q))) := P_cv k87_13 mx97 mo97 rfl rfl rfl rfl rfl rfl rfl rfl
set_option maxRecDepth 20000 in
theorem k87_16 : mjCode 87 16 = some (.invokevirtual 73, 3, 96, 2) := by decide +kernel
theorem p87_16 {s0 s1 : Int} {q0 q1 q2 q3 q4 q5 : MV} {ds : Ds} {m : Mm} {Q : Ds → Mm → List MV → Prop} : WP 87 16 [q0, q1, q2, q3, q4, q5] [(0, s0), (2, s1)] ds m Q = ((dk ds s1 = 6 ∧ WP 95 0 [(2, s1), (0, s0), (3, 0)] [] ds m (fun d2 m2 r2 => WP 87 19 [q0, q1, q2, q3, q4, q5] (r2 ++ []) d2 m2 Q))) := P_cv k87_16 mx95 mo95 rfl rfl rfl rfl rfl rfl rfl rfl
set_option maxRecDepth 20000 in
theorem k87_19 : mjCode 87 19 = some (.ireturn, 1, 0, 0) := by decide +kernel
theorem p87_19 {s0 : Int} {q0 q1 q2 q3 q4 q5 : MV} {ds : Ds} {m : Mm} {Q : Ds → Mm → List MV → Prop} : WP 87 19 [q0, q1, q2, q3, q4, q5] [(0, s0)] ds m Q = (Q ds m [(0, s0)]) := P_ri k87_19 rk87
set_option maxRecDepth 20000 in
theorem k87_20 : mjCode 87 20 = some (.aload_n 0, 1, 0, 0) := by decide +kernel
theorem p87_20 {l0 : Int} {q1 q2 q3 q4 q5 : MV} {ds : Ds} {m : Mm} {Q : Ds → Mm → List MV → Prop} : WP 87 20 [(2, l0), q1, q2, q3, q4, q5] [] ds m Q = (WP 87 21 [(2, l0), q1, q2, q3, q4, q5] [(2, l0)] ds m Q) := P_nx k87_20 rfl
set_option maxRecDepth 20000 in
theorem k87_21 : mjCode 87 21 = some (.getfield 62, 3, 6, 4) := by decide +kernel
theorem p87_21 {s0 : Int} {q0 q1 q2 q3 q4 q5 : MV} {ds : Ds} {m : Mm} {Q : Ds → Mm → List MV → Prop} : WP 87 21 [q0, q1, q2, q3, q4, q5] [(2, s0)] ds m Q = ((dk ds s0 = 6 ∧ WP 87 24 [q0, q1, q2, q3, q4, q5] [(2, m s0 4)] ds m Q)) := P_gd k87_21 rfl
set_option maxRecDepth 20000 in
theorem k87_24 : mjCode 87 24 = some (.getfield 201, 3, 5, 1) := by decide +kernel
theorem p87_24 {s0 : Int} {q0 q1 q2 q3 q4 q5 : MV} {ds : Ds} {m : Mm} {Q : Ds → Mm → List MV → Prop} : WP 87 24 [q0, q1, q2, q3, q4, q5] [(2, s0)] ds m Q = ((dk ds s0 = 5 ∧ WP 87 27 [q0, q1, q2, q3, q4, q5] [(2, m s0 1)] ds m Q)) := P_gd k87_24 rfl
set_option maxRecDepth 20000 in
theorem k87_27 : mjCode 87 27 = some (.astore_n 3, 1, 0, 0) := by decide +kernel
theorem p87_27 {l2 s0 : Int} {q0 q1 q3 q4 q5 : MV} {ds : Ds} {m : Mm} {Q : Ds → Mm → List MV → Prop} : WP 87 27 [q0, q1, (2, l2), q3, q4, q5] [(2, s0)] ds m Q = (WP 87 28 [q0, q1, (2, l2), (2, s0), q4, q5] [] ds m Q) := P_nx k87_27 rfl
set_option maxRecDepth 20000 in
theorem k87_28 : mjCode 87 28 = some (.iconst 0, 1, 0, 0) := by decide +kernel
theorem p87_28 {q0 q1 q2 q3 q4 q5 : MV} {ds : Ds} {m : Mm} {Q : Ds → Mm → List MV → Prop} : WP 87 28 [q0, q1, q2, q3, q4, q5] [] ds m Q = (WP 87 29 [q0, q1, q2, q3, q4, q5] [(0, 0)] ds m Q) := P_nx k87_28 rfl
set_option maxRecDepth 20000 in
theorem k87_29 : mjCode 87 29 = some (.istore 4, 2, 0, 0) := by decide +kernel
theorem p87_29 {l3 s0 : Int} {q0 q1 q2 q4 q5 : MV} {ds : Ds} {m : Mm} {Q : Ds → Mm → List MV → Prop} : WP 87 29 [q0, q1, q2, (2, l3), q4, q5] [(0, s0)] ds m Q = (WP 87 31 [q0, q1, q2, (2, l3), (0, s0), q5] [] ds m Q) := P_nx k87_29 rfl
set_option maxRecDepth 20000 in
theorem k87_31 : mjCode 87 31 = some (.iconst 0, 1, 0, 0) := by decide +kernel
theorem p87_31 {q0 q1 q2 q3 q4 q5 : MV} {ds : Ds} {m : Mm} {Q : Ds → Mm → List MV → Prop} : WP 87 31 [q0, q1, q2, q3, q4, q5] [] ds m Q = (WP 87 32 [q0, q1, q2, q3, q4, q5] [(0, 0)] ds m Q) := P_nx k87_31 rfl
set_option maxRecDepth 20000 in
theorem k87_32 : mjCode 87 32 = some (.istore 5, 2, 0, 0) := by decide +kernel
theorem p87_32 {l4 s0 : Int} {q0 q1 q2 q3 q5 : MV} {ds : Ds} {m : Mm} {Q : Ds → Mm → List MV → Prop} : WP 87 32 [q0, q1, q2, q3, (0, l4), q5] [(0, s0)] ds m Q = (WP 87 34 [q0, q1, q2, q3, (0, l4), (0, s0)] [] ds m Q) := P_nx k87_32 rfl
set_option maxRecDepth 20000 in
theorem k87_34 : mjCode 87 34 = some (.iload 5, 2, 0, 0) := by decide +kernel
theorem p87_34 {l5 : Int} {q0 q1 q2 q3 q4 : MV} {ds : Ds} {m : Mm} {Q : Ds → Mm → List MV → Prop} : WP 87 34 [q0, q1, q2, q3, q4, (0, l5)] [] ds m Q = (WP 87 36 [q0, q1, q2, q3, q4, (0, l5)] [(0, l5)] ds m Q) := P_nx k87_34 rfl
set_option maxRecDepth 20000 in
theorem k87_36 : mjCode 87 36 = some (.aload_n 3, 1, 0, 0) := by decide +kernel
theorem p87_36 {l3 s0 : Int} {q0 q1 q2 q4 q5 : MV} {ds : Ds} {m : Mm} {Q : Ds → Mm → List MV → Prop} : WP 87 36 [q0, q1, q2, (2, l3), q4, q5] [(0, s0)] ds m Q = (WP 87 37 [q0, q1, q2, (2, l3), q4, q5] [(2, l3), (0, s0)] ds m Q) := P_nx k87_36 rfl
set_option maxRecDepth 20000 in
theorem k87_37 : mjCode 87 37 = some (.getfield 205, 3, 2, 4) := by decide +kernel
theorem p87_37 {s0 s1 : Int} {q0 q1 q2 q3 q4 q5 : MV} {ds : Ds} {m : Mm} {Q : Ds → Mm → List MV → Prop} : WP 87 37 [q0, q1, q2, q3, q4, q5] [(2, s0), (0, s1)] ds m Q = ((dk ds s0 = 2 ∧ WP 87 40 [q0, q1, q2, q3, q4, q5] [(0, m s0 4), (0, s1)] ds m Q)) := P_gd k87_37 rfl
set_option maxRecDepth 20000 in
theorem k87_40 : mjCode 87 40 = some (.if_icmp .ge 50, 3, 90, 0) := by decide +kernel
theorem p87_40 {s0 s1 : Int} {q0 q1 q2 q3 q4 q5 : MV} {ds : Ds} {m : Mm} {Q : Ds → Mm → List MV → Prop} : WP 87 40 [q0, q1, q2, q3, q4, q5] [(0, s0), (0, s1)] ds m Q = (if s1 < s0 then WP 87 43 [q0, q1, q2, q3, q4, q5] [] ds m Q else WP 87 90 [q0, q1, q2, q3, q4, q5] [] ds m Q) := P_if k87_40 rfl
set_option maxRecDepth 20000 in
theorem k87_43 : mjCode 87 43 = some (.aload_n 3, 1, 0, 0) := by decide +kernel
theorem p87_43 {l3 : Int} {q0 q1 q2 q4 q5 : MV} {ds : Ds} {m : Mm} {Q : Ds → Mm → List MV → Prop} : WP 87 43 [q0, q1, q2, (2, l3), q4, q5] [] ds m Q = (WP 87 44 [q0, q1, q2, (2, l3), q4, q5] [(2, l3)] ds m Q) := P_nx k87_43 rfl
set_option maxRecDepth 20000 in
theorem k87_44 : mjCode 87 44 = some (.iload 5, 2, 0, 0) := by decide +kernel
theorem p87_44 {l5 s0 : Int} {q0 q1 q2 q3 q4 : MV} {ds : Ds} {m : Mm} {Q : Ds → Mm → List MV → Prop} : WP 87 44 [q0, q1, q2, q3, q4, (0, l5)] [(2, s0)] ds m Q = (WP 87 46 [q0, q1, q2, q3, q4, (0, l5)] [(0, l5), (2, s0)] ds m Q) := P_nx k87_44 rfl
set_option maxRecDepth 20000 in
theorem k87_46 : mjCode 87 46 = some (.iconst 4, 1, 0, 0) := by decide +kernel
theorem p87_46 {s0 s1 : Int} {q0 q1 q2 q3 q4 q5 : MV} {ds : Ds} {m : Mm} {Q : Ds → Mm → List MV → Prop} : WP 87 46 [q0, q1, q2, q3, q4, q5] [(0, s0), (2, s1)] ds m Q = (WP 87 47 [q0, q1, q2, q3, q4, q5] [(0, 4), (0, s0), (2, s1)] ds m Q) := P_nx k87_46 rfl
set_option maxRecDepth 20000 in
theorem k87_47 : mjCode 87 47 = some (.invokevirtual 233, 3, 18, 3) := by decide +kernel
theorem p87_47 {s0 s1 s2 : Int} {q0 q1 q2 q3 q4 q5 : MV} {ds : Ds} {m : Mm} {Q : Ds → Mm → List MV → Prop} : WP 87 47 [q0, q1, q2, q3, q4, q5] [(0, s0), (0, s1), (2, s2)] ds m Q = ((dk ds s2 = 2 ∧ WP 17 0 [(2, s2), (0, s1), (0, s0)] [] ds m (fun d2 m2 r2 => WP 87 50 [q0, q1, q2, q3, q4, q5] (r2 ++ []) d2 m2 Q))) := P_cv k87_47 mx17 mo17 rfl rfl rfl rfl rfl rfl rfl rfl
set_option maxRecDepth 20000 in
theorem k87_50 : mjCode 87 50 = some (.ifCond .eq 34, 3, 84, 0) := by decide +kernel
theorem p87_50 {s0 : Int} {q0 q1 q2 q3 q4 q5 : MV} {ds : Ds} {m : Mm} {Q : Ds → Mm → List MV → Prop} : WP 87 50 [q0, q1, q2, q3, q4, q5] [(0, s0)] ds m Q = (if s0 = 0 then WP 87 84 [q0, q1, q2, q3, q4, q5] [] ds m Q else WP 87 53 [q0, q1, q2, q3, q4, q5] [] ds m Q) := P_if k87_50 rfl
set_option maxRecDepth 20000 in
theorem k87_53 : mjCode 87 53 = some (.iload 4, 2, 0, 0) := by decide +kernel
theorem p87_53 {l4 : Int} {q0 q1 q2 q3 q5 : MV} {ds : Ds} {m : Mm} {Q : Ds → Mm → List MV → Prop} : WP 87 53 [q0, q1, q2, q3, (0, l4), q5] [] ds m Q = (WP 87 55 [q0, q1, q2, q3, (0, l4), q5] [(0, l4)] ds m Q) := P_nx k87_53 rfl
set_option maxRecDepth 20000 in
theorem k87_55 : mjCode 87 55 = some (.aload_n 2, 1, 0, 0) := by decide +kernel
theorem p87_55 {l2 s0 : Int} {q0 q1 q3 q4 q5 : MV} {ds : Ds} {m : Mm} {Q : Ds → Mm → List MV → Prop} : WP 87 55 [q0, q1, (2, l2), q3, q4, q5] [(0, s0)] ds m Q = (WP 87 56 [q0, q1, (2, l2), q3, q4, q5] [(2, l2), (0, s0)] ds m Q) := P_nx k87_55 rfl
set_option maxRecDepth 20000 in
theorem k87_56 : mjCode 87 56 = some (.invokevirtual 178, 3, 45, 1) := by decide +kernel
theorem p87_56 {s0 s1 : Int} {q0 q1 q2 q3 q4 q5 : MV} {ds : Ds} {m : Mm} {Q : Ds → Mm → List MV → Prop} : WP 87 56 [q0, q1, q2, q3, q4, q5] [(2, s0), (0, s1)] ds m Q = ((dk ds s0 = 4 ∧ WP 44 0 [(2, s0)] [] ds m (fun d2 m2 r2 => WP 87 59 [q0, q1, q2, q3, q4, q5] (r2 ++ [(0, s1)]) d2 m2 Q))) := P_cv k87_56 mx44 mo44 rfl rfl rfl rfl rfl rfl rfl rfl
set_option maxRecDepth 20000 in
theorem k87_59 : mjCode 87 59 = some (.if_icmp .ge 19, 3, 78, 0) := by decide +kernel
theorem p87_59 {s0 s1 : Int} {q0 q1 q2 q3 q4 q5 : MV} {ds : Ds} {m : Mm} {Q : Ds → Mm → List MV → Prop} : WP 87 59 [q0, q1, q2, q3, q4, q5] [(0, s0), (0, s1)] ds m Q = (if s1 < s0 then WP 87 62 [q0, q1, q2, q3, q4, q5] [] ds m Q else WP 87 78 [q0, q1, q2, q3, q4, q5] [] ds m Q) := P_if k87_59 rfl
set_option maxRecDepth 20000 in
theorem k87_62 : mjCode 87 62 = some (.aload_n 2, 1, 0, 0) := by decide +kernel
theorem p87_62 {l2 : Int} {q0 q1 q3 q4 q5 : MV} {ds : Ds} {m : Mm} {Q : Ds → Mm → List MV → Prop} : WP 87 62 [q0, q1, (2, l2), q3, q4, q5] [] ds m Q = (WP 87 63 [q0, q1, (2, l2), q3, q4, q5] [(2, l2)] ds m Q) := P_nx k87_62 rfl
set_option maxRecDepth 20000 in
theorem k87_63 : mjCode 87 63 = some (.iload 4, 2, 0, 0) := by decide +kernel
theorem p87_63 {l4 s0 : Int} {q0 q1 q2 q3 q5 : MV} {ds : Ds} {m : Mm} {Q : Ds → Mm → List MV → Prop} : WP 87 63 [q0, q1, q2, q3, (0, l4), q5] [(2, s0)] ds m Q = (WP 87 65 [q0, q1, q2, q3, (0, l4), q5] [(0, l4), (2, s0)] ds m Q) := P_nx k87_63 rfl
set_option maxRecDepth 20000 in
theorem k87_65 : mjCode 87 65 = some (.invokevirtual 185, 3, 49, 2) := by decide +kernel
theorem p87_65 {s0 s1 : Int} {q0 q1 q2 q3 q4 q5 : MV} {ds : Ds} {m : Mm} {Q : Ds → Mm → List MV → Prop} : WP 87 65 [q0, q1, q2, q3, q4, q5] [(0, s0), (2, s1)] ds m Q = ((dk ds s1 = 4 ∧ WP 48 0 [(2, s1), (0, s0)] [] ds m (fun d2 m2 r2 => WP 87 68 [q0, q1, q2, q3, q4, q5] (r2 ++ []) d2 m2 Q))) := P_cv k87_65 mx48 mo48 rfl rfl rfl rfl rfl rfl rfl rfl
set_option maxRecDepth 20000 in
theorem k87_68 : mjCode 87 68 = some (.aload_n 3, 1, 0, 0) := by decide +kernel
theorem p87_68 {l3 s0 : Int} {q0 q1 q2 q4 q5 : MV} {ds : Ds} {m : Mm} {Q : Ds → Mm → List MV → Prop} : WP 87 68 [q0, q1, q2, (2, l3), q4, q5] [(0, s0)] ds m Q = (WP 87 69 [q0, q1, q2, (2, l3), q4, q5] [(2, l3), (0, s0)] ds m Q) := P_nx k87_68 rfl
set_option maxRecDepth 20000 in
theorem k87_69 : mjCode 87 69 = some (.getfield 226, 3, 2, 0) := by decide +kernel
theorem p87_69 {s0 s1 : Int} {q0 q1 q2 q3 q4 q5 : MV} {ds : Ds} {m : Mm} {Q : Ds → Mm → List MV → Prop} : WP 87 69 [q0, q1, q2, q3, q4, q5] [(2, s0), (0, s1)] ds m Q = ((dk ds s0 = 2 ∧ WP 87 72 [q0, q1, q2, q3, q4, q5] [(2, m s0 0), (0, s1)] ds m Q)) := P_gd k87_69 rfl
set_option maxRecDepth 20000 in
theorem k87_72 : mjCode 87 72 = some (.iload 5, 2, 0, 0) := by decide +kernel
theorem p87_72 {l5 s0 s1 : Int} {q0 q1 q2 q3 q4 : MV} {ds : Ds} {m : Mm} {Q : Ds → Mm → List MV → Prop} : WP 87 72 [q0, q1, q2, q3, q4, (0, l5)] [(2, s0), (0, s1)] ds m Q = (WP 87 74 [q0, q1, q2, q3, q4, (0, l5)] [(0, l5), (2, s0), (0, s1)] ds m Q) := P_nx k87_72 rfl
set_option maxRecDepth 20000 in
theorem k87_74 : mjCode 87 74 = some (.iaload, 1, 0, 0) := by decide +kernel
theorem p87_74 {s0 s1 s2 : Int} {q0 q1 q2 q3 q4 q5 : MV} {ds : Ds} {m : Mm} {Q : Ds → Mm → List MV → Prop} : WP 87 74 [q0, q1, q2, q3, q4, q5] [(0, s0), (2, s1), (0, s2)] ds m Q = ((dk ds s1 = 10 ∧ 0 ≤ s0 ∧ s0 < dl ds s1 ∧ WP 87 75 [q0, q1, q2, q3, q4, q5] [(0, m s1 s0), (0, s2)] ds m Q)) := P_g3 k87_74 rfl
set_option maxRecDepth 20000 in
theorem k87_75 : mjCode 87 75 = some (.if_icmp .eq 6, 3, 81, 0) := by decide +kernel
theorem p87_75 {s0 s1 : Int} {q0 q1 q2 q3 q4 q5 : MV} {ds : Ds} {m : Mm} {Q : Ds → Mm → List MV → Prop} : WP 87 75 [q0, q1, q2, q3, q4, q5] [(0, s0), (0, s1)] ds m Q = (if s1 = s0 then WP 87 81 [q0, q1, q2, q3, q4, q5] [] ds m Q else WP 87 78 [q0, q1, q2, q3, q4, q5] [] ds m Q) := P_if k87_75 rfl
set_option maxRecDepth 20000 in
theorem k87_78 : mjCode 87 78 = some (.iload 4, 2, 0, 0) := by decide +kernel
theorem p87_78 {l4 : Int} {q0 q1 q2 q3 q5 : MV} {ds : Ds} {m : Mm} {Q : Ds → Mm → List MV → Prop} : WP 87 78 [q0, q1, q2, q3, (0, l4), q5] [] ds m Q = (WP 87 80 [q0, q1, q2, q3, (0, l4), q5] [(0, l4)] ds m Q) := P_nx k87_78 rfl
set_option maxRecDepth 20000 in
theorem k87_80 : mjCode 87 80 = some (.ireturn, 1, 0, 0) := by decide +kernel
theorem p87_80 {s0 : Int} {q0 q1 q2 q3 q4 q5 : MV} {ds : Ds} {m : Mm} {Q : Ds → Mm → List MV → Prop} : WP 87 80 [q0, q1, q2, q3, q4, q5] [(0, s0)] ds m Q = (Q ds m [(0, s0)]) := P_ri k87_80 rk87
set_option maxRecDepth 20000 in
theorem k87_81 : mjCode 87 81 = some (.iinc 4 1, 3, 0, 0) := by decide +kernel
theorem p87_81 {l4 : Int} {q0 q1 q2 q3 q5 : MV} {ds : Ds} {m : Mm} {Q : Ds → Mm → List MV → Prop} : WP 87 81 [q0, q1, q2, q3, (0, l4), q5] [] ds m Q = (WP 87 84 [q0, q1, q2, q3, (0, w32 (l4 + 1)), q5] [] ds m Q) := P_nx k87_81 rfl
set_option maxRecDepth 20000 in
theorem k87_84 : mjCode 87 84 = some (.iinc 5 1, 3, 0, 0) := by decide +kernel
theorem p87_84 {l5 : Int} {q0 q1 q2 q3 q4 : MV} {ds : Ds} {m : Mm} {Q : Ds → Mm → List MV → Prop} : WP 87 84 [q0, q1, q2, q3, q4, (0, l5)] [] ds m Q = (WP 87 87 [q0, q1, q2, q3, q4, (0, w32 (l5 + 1))] [] ds m Q) := P_nx k87_84 rfl
set_option maxRecDepth 20000 in
theorem k87_87 : mjCode 87 87 = some (.goto (-53), 3, 34, 0) := by decide +kernel
theorem p87_87 {q0 q1 q2 q3 q4 q5 : MV} {ds : Ds} {m : Mm} {Q : Ds → Mm → List MV → Prop} : WP 87 87 [q0, q1, q2, q3, q4, q5] [] ds m Q = (WP 87 34 [q0, q1, q2, q3, q4, q5] [] ds m Q) := P_nx k87_87 rfl
set_option maxRecDepth 20000 in
theorem k87_90 : mjCode 87 90 = some (.iload 4, 2, 0, 0) := by decide +kernel
theorem p87_90 {l4 : Int} {q0 q1 q2 q3 q5 : MV} {ds : Ds} {m : Mm} {Q : Ds → Mm → List MV → Prop} : WP 87 90 [q0, q1, q2, q3, (0, l4), q5] [] ds m Q = (WP 87 92 [q0, q1, q2, q3, (0, l4), q5] [(0, l4)] ds m Q) := P_nx k87_90 rfl
set_option maxRecDepth 20000 in
theorem k87_92 : mjCode 87 92 = some (.aload_n 2, 1, 0, 0) := by decide +kernel
theorem p87_92 {l2 s0 : Int} {q0 q1 q3 q4 q5 : MV} {ds : Ds} {m : Mm} {Q : Ds → Mm → List MV → Prop} : WP 87 92 [q0, q1, (2, l2), q3, q4, q5] [(0, s0)] ds m Q = (WP 87 93 [q0, q1, (2, l2), q3, q4, q5] [(2, l2), (0, s0)] ds m Q) := P_nx k87_92 rfl
set_option maxRecDepth 20000 in
theorem k87_93 : mjCode 87 93 = some (.invokevirtual 178, 3, 45, 1) := by decide +kernel
theorem p87_93 {s0 s1 : Int} {q0 q1 q2 q3 q4 q5 : MV} {ds : Ds} {m : Mm} {Q : Ds → Mm → List MV → Prop} : WP 87 93 [q0, q1, q2, q3, q4, q5] [(2, s0), (0, s1)] ds m Q = ((dk ds s0 = 4 ∧ WP 44 0 [(2, s0)] [] ds m (fun d2 m2 r2 => WP 87 96 [q0, q1, q2, q3, q4, q5] (r2 ++ [(0, s1)]) d2 m2 Q))) := P_cv k87_93 mx44 mo44 rfl rfl rfl rfl rfl rfl rfl rfl
set_option maxRecDepth 20000 in
theorem k87_96 : mjCode 87 96 = some (.if_icmp .ne 9, 3, 105, 0) := by decide +kernel
theorem p87_96 {s0 s1 : Int} {q0 q1 q2 q3 q4 q5 : MV} {ds : Ds} {m : Mm} {Q : Ds → Mm → List MV → Prop} : WP 87 96 [q0, q1, q2, q3, q4, q5] [(0, s0), (0, s1)] ds m Q = (if s1 = s0 then WP 87 99 [q0, q1, q2, q3, q4, q5] [] ds m Q else WP 87 105 [q0, q1, q2, q3, q4, q5] [] ds m Q) := P_if k87_96 rfl
set_option maxRecDepth 20000 in
theorem k87_99 : mjCode 87 99 = some (.sipush 1000, 3, 0, 0) := by decide +kernel
theorem p87_99 {q0 q1 q2 q3 q4 q5 : MV} {ds : Ds} {m : Mm} {Q : Ds → Mm → List MV → Prop} : WP 87 99 [q0, q1, q2, q3, q4, q5] [] ds m Q = (WP 87 102 [q0, q1, q2, q3, q4, q5] [(0, 1000)] ds m Q) := P_nx k87_99 rfl
set_option maxRecDepth 20000 in
theorem k87_102 : mjCode 87 102 = some (.goto 5, 3, 107, 0) := by decide +kernel
theorem p87_102 {s0 : Int} {q0 q1 q2 q3 q4 q5 : MV} {ds : Ds} {m : Mm} {Q : Ds → Mm → List MV → Prop} : WP 87 102 [q0, q1, q2, q3, q4, q5] [(0, s0)] ds m Q = (WP 87 107 [q0, q1, q2, q3, q4, q5] [(0, s0)] ds m Q) := P_nx k87_102 rfl
set_option maxRecDepth 20000 in
theorem k87_105 : mjCode 87 105 = some (.iload 4, 2, 0, 0) := by decide +kernel
theorem p87_105 {l4 : Int} {q0 q1 q2 q3 q5 : MV} {ds : Ds} {m : Mm} {Q : Ds → Mm → List MV → Prop} : WP 87 105 [q0, q1, q2, q3, (0, l4), q5] [] ds m Q = (WP 87 107 [q0, q1, q2, q3, (0, l4), q5] [(0, l4)] ds m Q) := P_nx k87_105 rfl
set_option maxRecDepth 20000 in
theorem k87_107 : mjCode 87 107 = some (.ireturn, 1, 0, 0) := by decide +kernel
theorem p87_107 {s0 : Int} {q0 q1 q2 q3 q4 q5 : MV} {ds : Ds} {m : Mm} {Q : Ds → Mm → List MV → Prop} : WP 87 107 [q0, q1, q2, q3, q4, q5] [(0, s0)] ds m Q = (Q ds m [(0, s0)]) := P_ri k87_107 rk87
set_option maxRecDepth 20000 in
theorem k88_0 : mjCode 88 0 = some (.aload_n 0, 1, 0, 0) := by decide +kernel
theorem p88_0 {l0 : Int} {q1 q2 : MV} {ds : Ds} {m : Mm} {Q : Ds → Mm → List MV → Prop} : WP 88 0 [(2, l0), q1, q2] [] ds m Q = (WP 88 1 [(2, l0), q1, q2] [(2, l0)] ds m Q) := P_nx k88_0 rfl
set_option maxRecDepth 20000 in
theorem k88_1 : mjCode 88 1 = some (.getfield 66, 3, 6, 5) := by decide +kernel
theorem p88_1 {s0 : Int} {q0 q1 q2 : MV} {ds : Ds} {m : Mm} {Q : Ds → Mm → List MV → Prop} : WP 88 1 [q0, q1, q2] [(2, s0)] ds m Q = ((dk ds s0 = 6 ∧ WP 88 4 [q0, q1, q2] [(2, m s0 5)] ds m Q)) := P_gd k88_1 rfl
set_option maxRecDepth 20000 in
theorem k88_4 : mjCode 88 4 = some (.aload_n 0, 1, 0, 0) := by decide +kernel
theorem p88_4 {l0 s0 : Int} {q1 q2 : MV} {ds : Ds} {m : Mm} {Q : Ds → Mm → List MV → Prop} : WP 88 4 [(2, l0), q1, q2] [(2, s0)] ds m Q = (WP 88 5 [(2, l0), q1, q2] [(2, l0), (2, s0)] ds m Q) := P_nx k88_4 rfl
set_option maxRecDepth 20000 in
theorem k88_5 : mjCode 88 5 = some (.getfield 45, 3, 6, 0) := by decide +kernel
theorem p88_5 {s0 s1 : Int} {q0 q1 q2 : MV} {ds : Ds} {m : Mm} {Q : Ds → Mm → List MV → Prop} : WP 88 5 [q0, q1, q2] [(2, s0), (2, s1)] ds m Q = ((dk ds s0 = 6 ∧ WP 88 8 [q0, q1, q2] [(2, m s0 0), (2, s1)] ds m Q)) := P_gd k88_5 rfl
set_option maxRecDepth 20000 in
theorem k88_8 : mjCode 88 8 = some (.iload_n 1, 1, 0, 0) := by decide +kernel
theorem p88_8 {l1 s0 s1 : Int} {q0 q2 : MV} {ds : Ds} {m : Mm} {Q : Ds → Mm → List MV → Prop} : WP 88 8 [q0, (0, l1), q2] [(2, s0), (2, s1)] ds m Q = (WP 88 9 [q0, (0, l1), q2] [(0, l1), (2, s0), (2, s1)] ds m Q) := P_nx k88_8 rfl
set_option maxRecDepth 20000 in
theorem k88_9 : mjCode 88 9 = some (.iload_n 2, 1, 0, 0) := by decide +kernel
theorem p88_9 {l2 s0 s1 s2 : Int} {q0 q1 : MV} {ds : Ds} {m : Mm} {Q : Ds → Mm → List MV → Prop} : WP 88 9 [q0, q1, (0, l2)] [(0, s0), (2, s1), (2, s2)] ds m Q = (WP 88 10 [q0, q1, (0, l2)] [(0, l2), (0, s0), (2, s1), (2, s2)] ds m Q) := P_nx k88_9 rfl
set_option maxRecDepth 20000 in
theorem k88_10 : mjCode 88 10 = some (.invokevirtual 191, 3, 52, 4) := by decide +kernel
theorem p88_10 {s0 s1 s2 s3 : Int} {q0 q1 q2 : MV} {ds : Ds} {m : Mm} {Q : Ds → Mm → List MV → Prop} : WP 88 10 [q0, q1, q2] [(0, s0), (0, s1), (2, s2), (2, s3)] ds m Q = ((dk ds s3 = 5 ∧ WP 51 0 [(2, s3), (2, s2), (0, s1), (0, s0), (3, 0)] [] ds m (fun d2 m2 r2 => WP 88 13 [q0, q1, q2] (r2 ++ []) d2 m2 Q))) := P_cv k88_10 mx51 mo51 rfl rfl rfl rfl rfl rfl rfl rfl
set_option maxRecDepth 20000 in
theorem k88_13 : mjCode 88 13 = some (.ireturn, 1, 0, 0) := by decide +kernel
theorem p88_13 {s0 : Int} {q0 q1 q2 : MV} {ds : Ds} {m : Mm} {Q : Ds → Mm → List MV → Prop} : WP 88 13 [q0, q1, q2] [(0, s0)] ds m Q = (((s0 = 0 ∨ s0 = 1) ∧ Q ds m [(0, s0)])) := P_rb k88_13 rk88
set_option maxRecDepth 20000 in
theorem k89_0 : mjCode 89 0 = some (.aload_n 0, 1, 0, 0) := by decide +kernel
theorem p89_0 {l0 : Int} {q1 q2 q3 q4 q5 : MV} {ds : Ds} {m : Mm} {Q : Ds → Mm → List MV → Prop} : WP 89 0 [(2, l0), q1, q2, q3, q4, q5] [] ds m Q = (WP 89 1 [(2, l0), q1, q2, q3, q4, q5] [(2, l0)] ds m Q) := P_nx k89_0 rfl
set_option maxRecDepth 20000 in
theorem k89_1 : mjCode 89 1 = some (.iconst 0, 1, 0, 0) := by decide +kernel
theorem p89_1 {s0 : Int} {q0 q1 q2 q3 q4 q5 : MV} {ds : Ds} {m : Mm} {Q : Ds → Mm → List MV → Prop} : WP 89 1 [q0, q1, q2, q3, q4, q5] [(2, s0)] ds m Q = (WP 89 2 [q0, q1, q2, q3, q4, q5] [(0, 0), (2, s0)] ds m Q) := P_nx k89_1 rfl
set_option maxRecDepth 20000 in
theorem k89_2 : mjCode 89 2 = some (.putfield 261, 3, 6, 9) := by decide +kernel
theorem p89_2 {s0 s1 : Int} {q0 q1 q2 q3 q4 q5 : MV} {ds : Ds} {m : Mm} {Q : Ds → Mm → List MV → Prop} : WP 89 2 [q0, q1, q2, q3, q4, q5] [(0, s0), (2, s1)] ds m Q = ((dk ds s1 = 6 ∧ WP 89 5 [q0, q1, q2, q3, q4, q5] [] ds (up m s1 9 s0) Q)) := P_pf k89_2 rfl
set_option maxRecDepth 20000 in
theorem k89_5 : mjCode 89 5 = some (.aload_n 0, 1, 0, 0) := by decide +kernel
theorem p89_5 {l0 : Int} {q1 q2 q3 q4 q5 : MV} {ds : Ds} {m : Mm} {Q : Ds → Mm → List MV → Prop} : WP 89 5 [(2, l0), q1, q2, q3, q4, q5] [] ds m Q = (WP 89 6 [(2, l0), q1, q2, q3, q4, q5] [(2, l0)] ds m Q) := P_nx k89_5 rfl
set_option maxRecDepth 20000 in
theorem k89_6 : mjCode 89 6 = some (.getfield 66, 3, 6, 5) := by decide +kernel
theorem p89_6 {s0 : Int} {q0 q1 q2 q3 q4 q5 : MV} {ds : Ds} {m : Mm} {Q : Ds → Mm → List MV → Prop} : WP 89 6 [q0, q1, q2, q3, q4, q5] [(2, s0)] ds m Q = ((dk ds s0 = 6 ∧ WP 89 9 [q0, q1, q2, q3, q4, q5] [(2, m s0 5)] ds m Q)) := P_gd k89_6 rfl
set_option maxRecDepth 20000 in
theorem k89_9 : mjCode 89 9 = some (.aload_n 0, 1, 0, 0) := by decide +kernel
theorem p89_9 {l0 s0 : Int} {q1 q2 q3 q4 q5 : MV} {ds : Ds} {m : Mm} {Q : Ds → Mm → List MV → Prop} : WP 89 9 [(2, l0), q1, q2, q3, q4, q5] [(2, s0)] ds m Q = (WP 89 10 [(2, l0), q1, q2, q3, q4, q5] [(2, l0), (2, s0)] ds m Q) := P_nx k89_9 rfl
set_option maxRecDepth 20000 in
theorem k89_10 : mjCode 89 10 = some (.getfield 45, 3, 6, 0) := by decide +kernel
theorem p89_10 {s0 s1 : Int} {q0 q1 q2 q3 q4 q5 : MV} {ds : Ds} {m : Mm} {Q : Ds → Mm → List MV → Prop} : WP 89 10 [q0, q1, q2, q3, q4, q5] [(2, s0), (2, s1)] ds m Q = ((dk ds s0 = 6 ∧ WP 89 13 [q0, q1, q2, q3, q4, q5] [(2, m s0 0), (2, s1)] ds m Q)) := P_gd k89_10 rfl
set_option maxRecDepth 20000 in
theorem k89_13 : mjCode 89 13 = some (.iload_n 1, 1, 0, 0) := by decide +kernel
theorem p89_13 {l1 s0 s1 : Int} {q0 q2 q3 q4 q5 : MV} {ds : Ds} {m : Mm} {Q : Ds → Mm → List MV → Prop} : WP 89 13 [q0, (0, l1), q2, q3, q4, q5] [(2, s0), (2, s1)] ds m Q = (WP 89 14 [q0, (0, l1), q2, q3, q4, q5] [(0, l1), (2, s0), (2, s1)] ds m Q) := P_nx k89_13 rfl
set_option maxRecDepth 20000 in
theorem k89_14 : mjCode 89 14 = some (.iload_n 2, 1, 0, 0) := by decide +kernel
theorem p89_14 {l2 s0 s1 s2 : Int} {q0 q1 q3 q4 q5 : MV} {ds : Ds} {m : Mm} {Q : Ds → Mm → List MV → Prop} : WP 89 14 [q0, q1, (0, l2), q3, q4, q5] [(0, s0), (2, s1), (2, s2)] ds m Q = (WP 89 15 [q0, q1, (0, l2), q3, q4, q5] [(0, l2), (0, s0), (2, s1), (2, s2)] ds m Q) := P_nx k89_14 rfl
set_option maxRecDepth 20000 in
theorem k89_15 : mjCode 89 15 = some (.invokevirtual 191, 3, 52, 4) := by decide +kernel
theorem p89_15 {s0 s1 s2 s3 : Int} {q0 q1 q2 q3 q4 q5 : MV} {ds : Ds} {m : Mm} {Q : Ds → Mm → List MV → Prop} : WP 89 15 [q0, q1, q2, q3, q4, q5] [(0, s0), (0, s1), (2, s2), (2, s3)] ds m Q = ((dk ds s3 = 5 ∧ WP 51 0 [(2, s3), (2, s2), (0, s1), (0, s0), (3, 0)] [] ds m (fun d2 m2 r2 => WP 89 18 [q0, q1, q2, q3, q4, q5] (r2 ++ []) d2 m2 Q))) := P_cv k89_15 mx51 mo51 rfl rfl rfl rfl rfl rfl rfl rfl
set_option maxRecDepth 20000 in
theorem k89_18 : mjCode 89 18 = some (.ifCond .ne 5, 3, 23, 0) := by decide +kernel
theorem p89_18 {s0 : Int} {q0 q1 q2 q3 q4 q5 : MV} {ds : Ds} {m : Mm} {Q : Ds → Mm → List MV → Prop} : WP 89 18 [q0, q1, q2, q3, q4, q5] [(0, s0)] ds m Q = (if s0 = 0 then WP 89 21 [q0, q1, q2, q3, q4, q5] [] ds m Q else WP 89 23 [q0, q1, q2, q3, q4, q5] [] ds m Q) := P_if k89_18 rfl
set_option maxRecDepth 20000 in
theorem k89_21 : mjCode 89 21 = some (.iconst (-1), 1, 0, 0) := by decide +kernel
theorem p89_21 {q0 q1 q2 q3 q4 q5 : MV} {ds : Ds} {m : Mm} {Q : Ds → Mm → List MV → Prop} : WP 89 21 [q0, q1, q2, q3, q4, q5] [] ds m Q = (WP 89 22 [q0, q1, q2, q3, q4, q5] [(0, (-1))] ds m Q) := P_nx k89_21 rfl
set_option maxRecDepth 20000 in
theorem k89_22 : mjCode 89 22 = some (.ireturn, 1, 0, 0) := by decide +kernel
theorem p89_22 {s0 : Int} {q0 q1 q2 q3 q4 q5 : MV} {ds : Ds} {m : Mm} {Q : Ds → Mm → List MV → Prop} : WP 89 22 [q0, q1, q2, q3, q4, q5] [(0, s0)] ds m Q = (Q ds m [(0, s0)]) := P_ri k89_22 rk89
set_option maxRecDepth 20000 in
theorem k89_23 : mjCode 89 23 = some (.iconst 0, 1, 0, 0) := by decide +kernel
theorem p89_23 {q0 q1 q2 q3 q4 q5 : MV} {ds : Ds} {m : Mm} {Q : Ds → Mm → List MV → Prop} : WP 89 23 [q0, q1, q2, q3, q4, q5] [] ds m Q = (WP 89 24 [q0, q1, q2, q3, q4, q5] [(0, 0)] ds m Q) := P_nx k89_23 rfl
set_option maxRecDepth 20000 in
theorem k89_24 : mjCode 89 24 = some (.istore_n 3, 1, 0, 0) := by decide +kernel
theorem p89_24 {l2 s0 : Int} {q0 q1 q3 q4 q5 : MV} {ds : Ds} {m : Mm} {Q : Ds → Mm → List MV → Prop} : WP 89 24 [q0, q1, (0, l2), q3, q4, q5] [(0, s0)] ds m Q = (WP 89 25 [q0, q1, (0, l2), (0, s0), q4, q5] [] ds m Q) := P_nx k89_24 rfl
set_option maxRecDepth 20000 in
theorem k89_25 : mjCode 89 25 = some (.iload_n 3, 1, 0, 0) := by decide +kernel
theorem p89_25 {l3 : Int} {q0 q1 q2 q4 q5 : MV} {ds : Ds} {m : Mm} {Q : Ds → Mm → List MV → Prop} : WP 89 25 [q0, q1, q2, (0, l3), q4, q5] [] ds m Q = (WP 89 26 [q0, q1, q2, (0, l3), q4, q5] [(0, l3)] ds m Q) := P_nx k89_25 rfl
set_option maxRecDepth 20000 in
theorem k89_26 : mjCode 89 26 = some (.bipush 96, 2, 0, 0) := by decide +kernel
theorem p89_26 {s0 : Int} {q0 q1 q2 q3 q4 q5 : MV} {ds : Ds} {m : Mm} {Q : Ds → Mm → List MV → Prop} : WP 89 26 [q0, q1, q2, q3, q4, q5] [(0, s0)] ds m Q = (WP 89 28 [q0, q1, q2, q3, q4, q5] [(0, 96), (0, s0)] ds m Q) := P_nx k89_26 rfl
set_option maxRecDepth 20000 in
theorem k89_28 : mjCode 89 28 = some (.if_icmp .ge 120, 3, 148, 0) := by decide +kernel
theorem p89_28 {s0 s1 : Int} {q0 q1 q2 q3 q4 q5 : MV} {ds : Ds} {m : Mm} {Q : Ds → Mm → List MV → Prop} : WP 89 28 [q0, q1, q2, q3, q4, q5] [(0, s0), (0, s1)] ds m Q = (if s1 < s0 then WP 89 31 [q0, q1, q2, q3, q4, q5] [] ds m Q else WP 89 148 [q0, q1, q2, q3, q4, q5] [] ds m Q) := P_if k89_28 rfl
set_option maxRecDepth 20000 in
theorem k89_31 : mjCode 89 31 = some (.iconst 0, 1, 0, 0) := by decide +kernel
theorem p89_31 {q0 q1 q2 q3 q4 q5 : MV} {ds : Ds} {m : Mm} {Q : Ds → Mm → List MV → Prop} : WP 89 31 [q0, q1, q2, q3, q4, q5] [] ds m Q = (WP 89 32 [q0, q1, q2, q3, q4, q5] [(0, 0)] ds m Q) := P_nx k89_31 rfl
set_option maxRecDepth 20000 in
theorem k89_32 : mjCode 89 32 = some (.istore 4, 2, 0, 0) := by decide +kernel
theorem p89_32 {l3 s0 : Int} {q0 q1 q2 q4 q5 : MV} {ds : Ds} {m : Mm} {Q : Ds → Mm → List MV → Prop} : WP 89 32 [q0, q1, q2, (0, l3), q4, q5] [(0, s0)] ds m Q = (WP 89 34 [q0, q1, q2, (0, l3), (0, s0), q5] [] ds m Q) := P_nx k89_32 rfl
set_option maxRecDepth 20000 in
theorem k89_34 : mjCode 89 34 = some (.iload 4, 2, 0, 0) := by decide +kernel
theorem p89_34 {l4 : Int} {q0 q1 q2 q3 q5 : MV} {ds : Ds} {m : Mm} {Q : Ds → Mm → List MV → Prop} : WP 89 34 [q0, q1, q2, q3, (0, l4), q5] [] ds m Q = (WP 89 36 [q0, q1, q2, q3, (0, l4), q5] [(0, l4)] ds m Q) := P_nx k89_34 rfl
set_option maxRecDepth 20000 in
theorem k89_36 : mjCode 89 36 = some (.iconst 4, 1, 0, 0) := by decide +kernel
theorem p89_36 {s0 : Int} {q0 q1 q2 q3 q4 q5 : MV} {ds : Ds} {m : Mm} {Q : Ds → Mm → List MV → Prop} : WP 89 36 [q0, q1, q2, q3, q4, q5] [(0, s0)] ds m Q = (WP 89 37 [q0, q1, q2, q3, q4, q5] [(0, 4), (0, s0)] ds m Q) := P_nx k89_36 rfl
set_option maxRecDepth 20000 in
theorem k89_37 : mjCode 89 37 = some (.if_icmp .ge 105, 3, 142, 0) := by decide +kernel
theorem p89_37 {s0 s1 : Int} {q0 q1 q2 q3 q4 q5 : MV} {ds : Ds} {m : Mm} {Q : Ds → Mm → List MV → Prop} : WP 89 37 [q0, q1, q2, q3, q4, q5] [(0, s0), (0, s1)] ds m Q = (if s1 < s0 then WP 89 40 [q0, q1, q2, q3, q4, q5] [] ds m Q else WP 89 142 [q0, q1, q2, q3, q4, q5] [] ds m Q) := P_if k89_37 rfl
set_option maxRecDepth 20000 in
theorem k89_40 : mjCode 89 40 = some (.iload_n 3, 1, 0, 0) := by decide +kernel
theorem p89_40 {l3 : Int} {q0 q1 q2 q4 q5 : MV} {ds : Ds} {m : Mm} {Q : Ds → Mm → List MV → Prop} : WP 89 40 [q0, q1, q2, (0, l3), q4, q5] [] ds m Q = (WP 89 41 [q0, q1, q2, (0, l3), q4, q5] [(0, l3)] ds m Q) := P_nx k89_40 rfl
set_option maxRecDepth 20000 in
theorem k89_41 : mjCode 89 41 = some (.iload 4, 2, 0, 0) := by decide +kernel
theorem p89_41 {l4 s0 : Int} {q0 q1 q2 q3 q5 : MV} {ds : Ds} {m : Mm} {Q : Ds → Mm → List MV → Prop} : WP 89 41 [q0, q1, q2, q3, (0, l4), q5] [(0, s0)] ds m Q = (WP 89 43 [q0, q1, q2, q3, (0, l4), q5] [(0, l4), (0, s0)] ds m Q) := P_nx k89_41 rfl
set_option maxRecDepth 20000 in
theorem k89_43 : mjCode 89 43 = some (.invokestatic 264, 3, 112, 2) := by decide +kernel
theorem p89_43 {s0 s1 : Int} {q0 q1 q2 q3 q4 q5 : MV} {ds : Ds} {m : Mm} {Q : Ds → Mm → List MV → Prop} : WP 89 43 [q0, q1, q2, q3, q4, q5] [(0, s0), (0, s1)] ds m Q = (WP 111 0 [(0, s1), (0, s0), (3, 0), (3, 0)] [] ds m (fun d2 m2 r2 => WP 89 46 [q0, q1, q2, q3, q4, q5] (r2 ++ []) d2 m2 Q)) := P_cs k89_43 mx111 rfl rfl rfl rfl rfl rfl rfl
set_option maxRecDepth 20000 in
theorem k89_46 : mjCode 89 46 = some (.istore 5, 2, 0, 0) := by decide +kernel
theorem p89_46 {l4 s0 : Int} {q0 q1 q2 q3 q5 : MV} {ds : Ds} {m : Mm} {Q : Ds → Mm → List MV → Prop} : WP 89 46 [q0, q1, q2, q3, (0, l4), q5] [(0, s0)] ds m Q = (WP 89 48 [q0, q1, q2, q3, (0, l4), (0, s0)] [] ds m Q) := P_nx k89_46 rfl
set_option maxRecDepth 20000 in
theorem k89_48 : mjCode 89 48 = some (.aload_n 0, 1, 0, 0) := by decide +kernel
theorem p89_48 {l0 : Int} {q1 q2 q3 q4 q5 : MV} {ds : Ds} {m : Mm} {Q : Ds → Mm → List MV → Prop} : WP 89 48 [(2, l0), q1, q2, q3, q4, q5] [] ds m Q = (WP 89 49 [(2, l0), q1, q2, q3, q4, q5] [(2, l0)] ds m Q) := P_nx k89_48 rfl
set_option maxRecDepth 20000 in
theorem k89_49 : mjCode 89 49 = some (.getfield 45, 3, 6, 0) := by decide +kernel
theorem p89_49 {s0 : Int} {q0 q1 q2 q3 q4 q5 : MV} {ds : Ds} {m : Mm} {Q : Ds → Mm → List MV → Prop} : WP 89 49 [q0, q1, q2, q3, q4, q5] [(2, s0)] ds m Q = ((dk ds s0 = 6 ∧ WP 89 52 [q0, q1, q2, q3, q4, q5] [(2, m s0 0)] ds m Q)) := P_gd k89_49 rfl
set_option maxRecDepth 20000 in
theorem k89_52 : mjCode 89 52 = some (.iload_n 3, 1, 0, 0) := by decide +kernel
theorem p89_52 {l3 s0 : Int} {q0 q1 q2 q4 q5 : MV} {ds : Ds} {m : Mm} {Q : Ds → Mm → List MV → Prop} : WP 89 52 [q0, q1, q2, (0, l3), q4, q5] [(2, s0)] ds m Q = (WP 89 53 [q0, q1, q2, (0, l3), q4, q5] [(0, l3), (2, s0)] ds m Q) := P_nx k89_52 rfl
set_option maxRecDepth 20000 in
theorem k89_53 : mjCode 89 53 = some (.invokevirtual 267, 3, 31, 2) := by decide +kernel
theorem p89_53 {s0 s1 : Int} {q0 q1 q2 q3 q4 q5 : MV} {ds : Ds} {m : Mm} {Q : Ds → Mm → List MV → Prop} : WP 89 53 [q0, q1, q2, q3, q4, q5] [(0, s0), (2, s1)] ds m Q = ((dk ds s1 = 3 ∧ WP 30 0 [(2, s1), (0, s0), (3, 0)] [] ds m (fun d2 m2 r2 => WP 89 56 [q0, q1, q2, q3, q4, q5] (r2 ++ []) d2 m2 Q))) := P_cv k89_53 mx30 mo30 rfl rfl rfl rfl rfl rfl rfl rfl
set_option maxRecDepth 20000 in
theorem k89_56 : mjCode 89 56 = some (.ifCond .eq 80, 3, 136, 0) := by decide +kernel
theorem p89_56 {s0 : Int} {q0 q1 q2 q3 q4 q5 : MV} {ds : Ds} {m : Mm} {Q : Ds → Mm → List MV → Prop} : WP 89 56 [q0, q1, q2, q3, q4, q5] [(0, s0)] ds m Q = (if s0 = 0 then WP 89 136 [q0, q1, q2, q3, q4, q5] [] ds m Q else WP 89 59 [q0, q1, q2, q3, q4, q5] [] ds m Q) := P_if k89_56 rfl
set_option maxRecDepth 20000 in
theorem k89_59 : mjCode 89 59 = some (.aload_n 0, 1, 0, 0) := by decide +kernel
theorem p89_59 {l0 : Int} {q1 q2 q3 q4 q5 : MV} {ds : Ds} {m : Mm} {Q : Ds → Mm → List MV → Prop} : WP 89 59 [(2, l0), q1, q2, q3, q4, q5] [] ds m Q = (WP 89 60 [(2, l0), q1, q2, q3, q4, q5] [(2, l0)] ds m Q) := P_nx k89_59 rfl
set_option maxRecDepth 20000 in
theorem k89_60 : mjCode 89 60 = some (.getfield 45, 3, 6, 0) := by decide +kernel
theorem p89_60 {s0 : Int} {q0 q1 q2 q3 q4 q5 : MV} {ds : Ds} {m : Mm} {Q : Ds → Mm → List MV → Prop} : WP 89 60 [q0, q1, q2, q3, q4, q5] [(2, s0)] ds m Q = ((dk ds s0 = 6 ∧ WP 89 63 [q0, q1, q2, q3, q4, q5] [(2, m s0 0)] ds m Q)) := P_gd k89_60 rfl
set_option maxRecDepth 20000 in
theorem k89_63 : mjCode 89 63 = some (.iload 5, 2, 0, 0) := by decide +kernel
theorem p89_63 {l5 s0 : Int} {q0 q1 q2 q3 q4 : MV} {ds : Ds} {m : Mm} {Q : Ds → Mm → List MV → Prop} : WP 89 63 [q0, q1, q2, q3, q4, (0, l5)] [(2, s0)] ds m Q = (WP 89 65 [q0, q1, q2, q3, q4, (0, l5)] [(0, l5), (2, s0)] ds m Q) := P_nx k89_63 rfl
set_option maxRecDepth 20000 in
theorem k89_65 : mjCode 89 65 = some (.invokevirtual 85, 3, 30, 2) := by decide +kernel
theorem p89_65 {s0 s1 : Int} {q0 q1 q2 q3 q4 q5 : MV} {ds : Ds} {m : Mm} {Q : Ds → Mm → List MV → Prop} : WP 89 65 [q0, q1, q2, q3, q4, q5] [(0, s0), (2, s1)] ds m Q = ((dk ds s1 = 3 ∧ WP 29 0 [(2, s1), (0, s0)] [] ds m (fun d2 m2 r2 => WP 89 68 [q0, q1, q2, q3, q4, q5] (r2 ++ []) d2 m2 Q))) := P_cv k89_65 mx29 mo29 rfl rfl rfl rfl rfl rfl rfl rfl
set_option maxRecDepth 20000 in
theorem k89_68 : mjCode 89 68 = some (.ifCond .eq 68, 3, 136, 0) := by decide +kernel
theorem p89_68 {s0 : Int} {q0 q1 q2 q3 q4 q5 : MV} {ds : Ds} {m : Mm} {Q : Ds → Mm → List MV → Prop} : WP 89 68 [q0, q1, q2, q3, q4, q5] [(0, s0)] ds m Q = (if s0 = 0 then WP 89 136 [q0, q1, q2, q3, q4, q5] [] ds m Q else WP 89 71 [q0, q1, q2, q3, q4, q5] [] ds m Q) := P_if k89_68 rfl
set_option maxRecDepth 20000 in
theorem k89_71 : mjCode 89 71 = some (.aload_n 0, 1, 0, 0) := by decide +kernel
theorem p89_71 {l0 : Int} {q1 q2 q3 q4 q5 : MV} {ds : Ds} {m : Mm} {Q : Ds → Mm → List MV → Prop} : WP 89 71 [(2, l0), q1, q2, q3, q4, q5] [] ds m Q = (WP 89 72 [(2, l0), q1, q2, q3, q4, q5] [(2, l0)] ds m Q) := P_nx k89_71 rfl
set_option maxRecDepth 20000 in
theorem k89_72 : mjCode 89 72 = some (.getfield 49, 3, 6, 1) := by decide +kernel
theorem p89_72 {s0 : Int} {q0 q1 q2 q3 q4 q5 : MV} {ds : Ds} {m : Mm} {Q : Ds → Mm → List MV → Prop} : WP 89 72 [q0, q1, q2, q3, q4, q5] [(2, s0)] ds m Q = ((dk ds s0 = 6 ∧ WP 89 75 [q0, q1, q2, q3, q4, q5] [(2, m s0 1)] ds m Q)) := P_gd k89_72 rfl
set_option maxRecDepth 20000 in
theorem k89_75 : mjCode 89 75 = some (.aload_n 0, 1, 0, 0) := by decide +kernel
theorem p89_75 {l0 s0 : Int} {q1 q2 q3 q4 q5 : MV} {ds : Ds} {m : Mm} {Q : Ds → Mm → List MV → Prop} : WP 89 75 [(2, l0), q1, q2, q3, q4, q5] [(2, s0)] ds m Q = (WP 89 76 [(2, l0), q1, q2, q3, q4, q5] [(2, l0), (2, s0)] ds m Q) := P_nx k89_75 rfl
set_option maxRecDepth 20000 in
theorem k89_76 : mjCode 89 76 = some (.getfield 45, 3, 6, 0) := by decide +kernel
theorem p89_76 {s0 s1 : Int} {q0 q1 q2 q3 q4 q5 : MV} {ds : Ds} {m : Mm} {Q : Ds → Mm → List MV → Prop} : WP 89 76 [q0, q1, q2, q3, q4, q5] [(2, s0), (2, s1)] ds m Q = ((dk ds s0 = 6 ∧ WP 89 79 [q0, q1, q2, q3, q4, q5] [(2, m s0 0), (2, s1)] ds m Q)) := P_gd k89_76 rfl
set_option maxRecDepth 20000 in
theorem k89_79 : mjCode 89 79 = some (.invokevirtual 181, 3, 24, 2) := by decide +kernel
theorem p89_79 {s0 s1 : Int} {q0 q1 q2 q3 q4 q5 : MV} {ds : Ds} {m : Mm} {Q : Ds → Mm → List MV → Prop} : WP 89 79 [q0, q1, q2, q3, q4, q5] [(2, s0), (2, s1)] ds m Q = ((dk ds s1 = 3 ∧ WP 23 0 [(2, s1), (2, s0), (3, 0)] [] ds m (fun d2 m2 r2 => WP 89 82 [q0, q1, q2, q3, q4, q5] (r2 ++ []) d2 m2 Q))) := P_cv k89_79 mx23 mo23 rfl rfl rfl rfl rfl rfl rfl rfl
set_option maxRecDepth 20000 in
theorem k89_82 : mjCode 89 82 = some (.aload_n 0, 1, 0, 0) := by decide +kernel
theorem p89_82 {l0 : Int} {q1 q2 q3 q4 q5 : MV} {ds : Ds} {m : Mm} {Q : Ds → Mm → List MV → Prop} : WP 89 82 [(2, l0), q1, q2, q3, q4, q5] [] ds m Q = (WP 89 83 [(2, l0), q1, q2, q3, q4, q5] [(2, l0)] ds m Q) := P_nx k89_82 rfl
set_option maxRecDepth 20000 in
theorem k89_83 : mjCode 89 83 = some (.getfield 49, 3, 6, 1) := by decide +kernel
theorem p89_83 {s0 : Int} {q0 q1 q2 q3 q4 q5 : MV} {ds : Ds} {m : Mm} {Q : Ds → Mm → List MV → Prop} : WP 89 83 [q0, q1, q2, q3, q4, q5] [(2, s0)] ds m Q = ((dk ds s0 = 6 ∧ WP 89 86 [q0, q1, q2, q3, q4, q5] [(2, m s0 1)] ds m Q)) := P_gd k89_83 rfl
set_option maxRecDepth 20000 in
theorem k89_86 : mjCode 89 86 = some (.iload_n 3, 1, 0, 0) := by decide +kernel
theorem p89_86 {l3 s0 : Int} {q0 q1 q2 q4 q5 : MV} {ds : Ds} {m : Mm} {Q : Ds → Mm → List MV → Prop} : WP 89 86 [q0, q1, q2, (0, l3), q4, q5] [(2, s0)] ds m Q = (WP 89 87 [q0, q1, q2, (0, l3), q4, q5] [(0, l3), (2, s0)] ds m Q) := P_nx k89_86 rfl
set_option maxRecDepth 20000 in
theorem k89_87 : mjCode 89 87 = some (.iload 5, 2, 0, 0) := by decide +kernel
theorem p89_87 {l5 s0 s1 : Int} {q0 q1 q2 q3 q4 : MV} {ds : Ds} {m : Mm} {Q : Ds → Mm → List MV → Prop} : WP 89 87 [q0, q1, q2, q3, q4, (0, l5)] [(0, s0), (2, s1)] ds m Q = (WP 89 89 [q0, q1, q2, q3, q4, (0, l5)] [(0, l5), (0, s0), (2, s1)] ds m Q) := P_nx k89_87 rfl
set_option maxRecDepth 20000 in
theorem k89_89 : mjCode 89 89 = some (.invokevirtual 270, 3, 39, 3) := by decide +kernel
theorem p89_89 {s0 s1 s2 : Int} {q0 q1 q2 q3 q4 q5 : MV} {ds : Ds} {m : Mm} {Q : Ds → Mm → List MV → Prop} : WP 89 89 [q0, q1, q2, q3, q4, q5] [(0, s0), (0, s1), (2, s2)] ds m Q = ((dk ds s2 = 3 ∧ WP 38 0 [(2, s2), (0, s1), (0, s0), (3, 0)] [] ds m (fun d2 m2 r2 => WP 89 92 [q0, q1, q2, q3, q4, q5] (r2 ++ []) d2 m2 Q))) := P_cv k89_89 mx38 mo38 rfl rfl rfl rfl rfl rfl rfl rfl
set_option maxRecDepth 20000 in
theorem k89_92 : mjCode 89 92 = some (.aload_n 0, 1, 0, 0) := by decide +kernel
theorem p89_92 {l0 : Int} {q1 q2 q3 q4 q5 : MV} {ds : Ds} {m : Mm} {Q : Ds → Mm → List MV → Prop} : WP 89 92 [(2, l0), q1, q2, q3, q4, q5] [] ds m Q = (WP 89 93 [(2, l0), q1, q2, q3, q4, q5] [(2, l0)] ds m Q) := P_nx k89_92 rfl
set_option maxRecDepth 20000 in
theorem k89_93 : mjCode 89 93 = some (.getfield 66, 3, 6, 5) := by decide +kernel
theorem p89_93 {s0 : Int} {q0 q1 q2 q3 q4 q5 : MV} {ds : Ds} {m : Mm} {Q : Ds → Mm → List MV → Prop} : WP 89 93 [q0, q1, q2, q3, q4, q5] [(2, s0)] ds m Q = ((dk ds s0 = 6 ∧ WP 89 96 [q0, q1, q2, q3, q4, q5] [(2, m s0 5)] ds m Q)) := P_gd k89_93 rfl
set_option maxRecDepth 20000 in
theorem k89_96 : mjCode 89 96 = some (.aload_n 0, 1, 0, 0) := by decide +kernel
theorem p89_96 {l0 s0 : Int} {q1 q2 q3 q4 q5 : MV} {ds : Ds} {m : Mm} {Q : Ds → Mm → List MV → Prop} : WP 89 96 [(2, l0), q1, q2, q3, q4, q5] [(2, s0)] ds m Q = (WP 89 97 [(2, l0), q1, q2, q3, q4, q5] [(2, l0), (2, s0)] ds m Q) := P_nx k89_96 rfl
set_option maxRecDepth 20000 in
theorem k89_97 : mjCode 89 97 = some (.getfield 49, 3, 6, 1) := by decide +kernel
theorem p89_97 {s0 s1 : Int} {q0 q1 q2 q3 q4 q5 : MV} {ds : Ds} {m : Mm} {Q : Ds → Mm → List MV → Prop} : WP 89 97 [q0, q1, q2, q3, q4, q5] [(2, s0), (2, s1)] ds m Q = ((dk ds s0 = 6 ∧ WP 89 100 [q0, q1, q2, q3, q4, q5] [(2, m s0 1), (2, s1)] ds m Q)) := P_gd k89_97 rfl
set_option maxRecDepth 20000 in
theorem k89_100 : mjCode 89 100 = some (.iload_n 1, 1, 0, 0) := by decide +kernel
theorem p89_100 {l1 s0 s1 : Int} {q0 q2 q3 q4 q5 : MV} {ds : Ds} {m : Mm} {Q : Ds → Mm → List MV → Prop} : WP 89 100 [q0, (0, l1), q2, q3, q4, q5] [(2, s0), (2, s1)] ds m Q = (WP 89 101 [q0, (0, l1), q2, q3, q4, q5] [(0, l1), (2, s0), (2, s1)] ds m Q) := P_nx k89_100 rfl
set_option maxRecDepth 20000 in
theorem k89_101 : mjCode 89 101 = some (.iload_n 2, 1, 0, 0) := by decide +kernel
theorem p89_101 {l2 s0 s1 s2 : Int} {q0 q1 q3 q4 q5 : MV} {ds : Ds} {m : Mm} {Q : Ds → Mm → List MV → Prop} : WP 89 101 [q0, q1, (0, l2), q3, q4, q5] [(0, s0), (2, s1), (2, s2)] ds m Q = (WP 89 102 [q0, q1, (0, l2), q3, q4, q5] [(0, l2), (0, s0), (2, s1), (2, s2)] ds m Q) := P_nx k89_101 rfl
set_option maxRecDepth 20000 in
theorem k89_102 : mjCode 89 102 = some (.invokevirtual 191, 3, 52, 4) := by decide +kernel
theorem p89_102 {s0 s1 s2 s3 : Int} {q0 q1 q2 q3 q4 q5 : MV} {ds : Ds} {m : Mm} {Q : Ds → Mm → List MV → Prop} : WP 89 102 [q0, q1, q2, q3, q4, q5] [(0, s0), (0, s1), (2, s2), (2, s3)] ds m Q = ((dk ds s3 = 5 ∧ WP 51 0 [(2, s3), (2, s2), (0, s1), (0, s0), (3, 0)] [] ds m (fun d2 m2 r2 => WP 89 105 [q0, q1, q2, q3, q4, q5] (r2 ++ []) d2 m2 Q))) := P_cv k89_102 mx51 mo51 rfl rfl rfl rfl rfl rfl rfl rfl
set_option maxRecDepth 20000 in
theorem k89_105 : mjCode 89 105 = some (.ifCond .ne 31, 3, 136, 0) := by decide +kernel
theorem p89_105 {s0 : Int} {q0 q1 q2 q3 q4 q5 : MV} {ds : Ds} {m : Mm} {Q : Ds → Mm → List MV → Prop} : WP 89 105 [q0, q1, q2, q3, q4, q5] [(0, s0)] ds m Q = (if s0 = 0 then WP 89 108 [q0, q1, q2, q3, q4, q5] [] ds m Q else WP 89 136 [q0, q1, q2, q3, q4, q5] [] ds m Q) := P_if k89_105 rfl
set_option maxRecDepth 20000 in
theorem k89_108 : mjCode 89 108 = some (.aload_n 0, 1, 0, 0) := by decide +kernel
theorem p89_108 {l0 : Int} {q1 q2 q3 q4 q5 : MV} {ds : Ds} {m : Mm} {Q : Ds → Mm → List MV → Prop} : WP 89 108 [(2, l0), q1, q2, q3, q4, q5] [] ds m Q = (WP 89 109 [(2, l0), q1, q2, q3, q4, q5] [(2, l0)] ds m Q) := P_nx k89_108 rfl
set_option maxRecDepth 20000 in
theorem k89_109 : mjCode 89 109 = some (.bipush 8, 2, 0, 0) := by decide +kernel
theorem p89_109 {s0 : Int} {q0 q1 q2 q3 q4 q5 : MV} {ds : Ds} {m : Mm} {Q : Ds → Mm → List MV → Prop} : WP 89 109 [q0, q1, q2, q3, q4, q5] [(2, s0)] ds m Q = (WP 89 111 [q0, q1, q2, q3, q4, q5] [(0, 8), (2, s0)] ds m Q) := P_nx k89_109 rfl
set_option maxRecDepth 20000 in
theorem k89_111 : mjCode 89 111 = some (.iload_n 3, 1, 0, 0) := by decide +kernel
theorem p89_111 {l3 s0 s1 : Int} {q0 q1 q2 q4 q5 : MV} {ds : Ds} {m : Mm} {Q : Ds → Mm → List MV → Prop} : WP 89 111 [q0, q1, q2, (0, l3), q4, q5] [(0, s0), (2, s1)] ds m Q = (WP 89 112 [q0, q1, q2, (0, l3), q4, q5] [(0, l3), (0, s0), (2, s1)] ds m Q) := P_nx k89_111 rfl
set_option maxRecDepth 20000 in
theorem k89_112 : mjCode 89 112 = some (.imul, 1, 0, 0) := by decide +kernel
theorem p89_112 {s0 s1 s2 : Int} {q0 q1 q2 q3 q4 q5 : MV} {ds : Ds} {m : Mm} {Q : Ds → Mm → List MV → Prop} : WP 89 112 [q0, q1, q2, q3, q4, q5] [(0, s0), (0, s1), (2, s2)] ds m Q = (WP 89 113 [q0, q1, q2, q3, q4, q5] [(0, w32 (s1 * s0)), (2, s2)] ds m Q) := P_nx k89_112 rfl
set_option maxRecDepth 20000 in
theorem k89_113 : mjCode 89 113 = some (.aload_n 0, 1, 0, 0) := by decide +kernel
theorem p89_113 {l0 s0 s1 : Int} {q1 q2 q3 q4 q5 : MV} {ds : Ds} {m : Mm} {Q : Ds → Mm → List MV → Prop} : WP 89 113 [(2, l0), q1, q2, q3, q4, q5] [(0, s0), (2, s1)] ds m Q = (WP 89 114 [(2, l0), q1, q2, q3, q4, q5] [(2, l0), (0, s0), (2, s1)] ds m Q) := P_nx k89_113 rfl
set_option maxRecDepth 20000 in
theorem k89_114 : mjCode 89 114 = some (.getfield 45, 3, 6, 0) := by decide +kernel
theorem p89_114 {s0 s1 s2 : Int} {q0 q1 q2 q3 q4 q5 : MV} {ds : Ds} {m : Mm} {Q : Ds → Mm → List MV → Prop} : WP 89 114 [q0, q1, q2, q3, q4, q5] [(2, s0), (0, s1), (2, s2)] ds m Q = ((dk ds s0 = 6 ∧ WP 89 117 [q0, q1, q2, q3, q4, q5] [(2, m s0 0), (0, s1), (2, s2)] ds m Q)) := P_gd k89_114 rfl
set_option maxRecDepth 20000 in
theorem k89_117 : mjCode 89 117 = some (.iload_n 3, 1, 0, 0) := by decide +kernel
theorem p89_117 {l3 s0 s1 s2 : Int} {q0 q1 q2 q4 q5 : MV} {ds : Ds} {m : Mm} {Q : Ds → Mm → List MV → Prop} : WP 89 117 [q0, q1, q2, (0, l3), q4, q5] [(2, s0), (0, s1), (2, s2)] ds m Q = (WP 89 118 [q0, q1, q2, (0, l3), q4, q5] [(0, l3), (2, s0), (0, s1), (2, s2)] ds m Q) := P_nx k89_117 rfl
set_option maxRecDepth 20000 in
theorem k89_118 : mjCode 89 118 = some (.invokevirtual 124, 3, 29, 2) := by decide +kernel
theorem p89_118 {s0 s1 s2 s3 : Int} {q0 q1 q2 q3 q4 q5 : MV} {ds : Ds} {m : Mm} {Q : Ds → Mm → List MV → Prop} : WP 89 118 [q0, q1, q2, q3, q4, q5] [(0, s0), (2, s1), (0, s2), (2, s3)] ds m Q = ((dk ds s1 = 3 ∧ WP 28 0 [(2, s1), (0, s0)] [] ds m (fun d2 m2 r2 => WP 89 121 [q0, q1, q2, q3, q4, q5] (r2 ++ [(0, s2), (2, s3)]) d2 m2 Q))) := P_cv k89_118 mx28 mo28 rfl rfl rfl rfl rfl rfl rfl rfl
set_option maxRecDepth 20000 in
theorem k89_121 : mjCode 89 121 = some (.ifCond .eq 7, 3, 128, 0) := by decide +kernel
theorem p89_121 {s0 s1 s2 : Int} {q0 q1 q2 q3 q4 q5 : MV} {ds : Ds} {m : Mm} {Q : Ds → Mm → List MV → Prop} : WP 89 121 [q0, q1, q2, q3, q4, q5] [(0, s0), (0, s1), (2, s2)] ds m Q = (if s0 = 0 then WP 89 128 [q0, q1, q2, q3, q4, q5] [(0, s1), (2, s2)] ds m Q else WP 89 124 [q0, q1, q2, q3, q4, q5] [(0, s1), (2, s2)] ds m Q) := P_if k89_121 rfl
set_option maxRecDepth 20000 in
theorem k89_124 : mjCode 89 124 = some (.iconst 4, 1, 0, 0) := by decide +kernel
theorem p89_124 {s0 s1 : Int} {q0 q1 q2 q3 q4 q5 : MV} {ds : Ds} {m : Mm} {Q : Ds → Mm → List MV → Prop} : WP 89 124 [q0, q1, q2, q3, q4, q5] [(0, s0), (2, s1)] ds m Q = (WP 89 125 [q0, q1, q2, q3, q4, q5] [(0, 4), (0, s0), (2, s1)] ds m Q) := P_nx k89_124 rfl
set_option maxRecDepth 20000 in
theorem k89_125 : mjCode 89 125 = some (.goto 4, 3, 129, 0) := by decide +kernel
theorem p89_125 {s0 s1 s2 : Int} {q0 q1 q2 q3 q4 q5 : MV} {ds : Ds} {m : Mm} {Q : Ds → Mm → List MV → Prop} : WP 89 125 [q0, q1, q2, q3, q4, q5] [(0, s0), (0, s1), (2, s2)] ds m Q = (WP 89 129 [q0, q1, q2, q3, q4, q5] [(0, s0), (0, s1), (2, s2)] ds m Q) := P_nx k89_125 rfl
set_option maxRecDepth 20000 in
theorem k89_128 : mjCode 89 128 = some (.iconst 0, 1, 0, 0) := by decide +kernel
theorem p89_128 {s0 s1 : Int} {q0 q1 q2 q3 q4 q5 : MV} {ds : Ds} {m : Mm} {Q : Ds → Mm → List MV → Prop} : WP 89 128 [q0, q1, q2, q3, q4, q5] [(0, s0), (2, s1)] ds m Q = (WP 89 129 [q0, q1, q2, q3, q4, q5] [(0, 0), (0, s0), (2, s1)] ds m Q) := P_nx k89_128 rfl
set_option maxRecDepth 20000 in
theorem k89_129 : mjCode 89 129 = some (.iadd, 1, 0, 0) := by decide +kernel
theorem p89_129 {s0 s1 s2 : Int} {q0 q1 q2 q3 q4 q5 : MV} {ds : Ds} {m : Mm} {Q : Ds → Mm → List MV → Prop} : WP 89 129 [q0, q1, q2, q3, q4, q5] [(0, s0), (0, s1), (2, s2)] ds m Q = (WP 89 130 [q0, q1, q2, q3, q4, q5] [(0, w32 (s1 + s0)), (2, s2)] ds m Q) := P_nx k89_129 rfl
set_option maxRecDepth 20000 in
theorem k89_130 : mjCode 89 130 = some (.iload 4, 2, 0, 0) := by decide +kernel
theorem p89_130 {l4 s0 s1 : Int} {q0 q1 q2 q3 q5 : MV} {ds : Ds} {m : Mm} {Q : Ds → Mm → List MV → Prop} : WP 89 130 [q0, q1, q2, q3, (0, l4), q5] [(0, s0), (2, s1)] ds m Q = (WP 89 132 [q0, q1, q2, q3, (0, l4), q5] [(0, l4), (0, s0), (2, s1)] ds m Q) := P_nx k89_130 rfl
set_option maxRecDepth 20000 in
theorem k89_132 : mjCode 89 132 = some (.iadd, 1, 0, 0) := by decide +kernel
theorem p89_132 {s0 s1 s2 : Int} {q0 q1 q2 q3 q4 q5 : MV} {ds : Ds} {m : Mm} {Q : Ds → Mm → List MV → Prop} : WP 89 132 [q0, q1, q2, q3, q4, q5] [(0, s0), (0, s1), (2, s2)] ds m Q = (WP 89 133 [q0, q1, q2, q3, q4, q5] [(0, w32 (s1 + s0)), (2, s2)] ds m Q) := P_nx k89_132 rfl
set_option maxRecDepth 20000 in
theorem k89_133 : mjCode 89 133 = some (.invokevirtual 273, 3, 100, 2) := by decide +kernel
theorem p89_133 {s0 s1 : Int} {q0 q1 q2 q3 q4 q5 : MV} {ds : Ds} {m : Mm} {Q : Ds → Mm → List MV → Prop} : WP 89 133 [q0, q1, q2, q3, q4, q5] [(0, s0), (2, s1)] ds m Q = ((dk ds s1 = 6 ∧ WP 99 0 [(2, s1), (0, s0)] [] ds m (fun d2 m2 r2 => WP 89 136 [q0, q1, q2, q3, q4, q5] (r2 ++ []) d2 m2 Q))) := P_cv k89_133 mx99 mo99 rfl rfl rfl rfl rfl rfl rfl rfl
set_option maxRecDepth 20000 in
theorem k89_136 : mjCode 89 136 = some (.iinc 4 1, 3, 0, 0) := by decide +kernel
theorem p89_136 {l4 : Int} {q0 q1 q2 q3 q5 : MV} {ds : Ds} {m : Mm} {Q : Ds → Mm → List MV → Prop} : WP 89 136 [q0, q1, q2, q3, (0, l4), q5] [] ds m Q = (WP 89 139 [q0, q1, q2, q3, (0, w32 (l4 + 1)), q5] [] ds m Q) := P_nx k89_136 rfl
set_option maxRecDepth 20000 in
theorem k89_139 : mjCode 89 139 = some (.goto (-105), 3, 34, 0) := by decide +kernel
theorem p89_139 {q0 q1 q2 q3 q4 q5 : MV} {ds : Ds} {m : Mm} {Q : Ds → Mm → List MV → Prop} : WP 89 139 [q0, q1, q2, q3, q4, q5] [] ds m Q = (WP 89 34 [q0, q1, q2, q3, q4, q5] [] ds m Q) := P_nx k89_139 rfl
set_option maxRecDepth 20000 in
theorem k89_142 : mjCode 89 142 = some (.iinc 3 1, 3, 0, 0) := by decide +kernel
theorem p89_142 {l3 : Int} {q0 q1 q2 q4 q5 : MV} {ds : Ds} {m : Mm} {Q : Ds → Mm → List MV → Prop} : WP 89 142 [q0, q1, q2, (0, l3), q4, q5] [] ds m Q = (WP 89 145 [q0, q1, q2, (0, w32 (l3 + 1)), q4, q5] [] ds m Q) := P_nx k89_142 rfl
set_option maxRecDepth 20000 in
theorem k89_145 : mjCode 89 145 = some (.goto (-120), 3, 25, 0) := by decide +kernel
theorem p89_145 {q0 q1 q2 q3 q4 q5 : MV} {ds : Ds} {m : Mm} {Q : Ds → Mm → List MV → Prop} : WP 89 145 [q0, q1, q2, q3, q4, q5] [] ds m Q = (WP 89 25 [q0, q1, q2, q3, q4, q5] [] ds m Q) := P_nx k89_145 rfl
set_option maxRecDepth 20000 in
theorem k89_148 : mjCode 89 148 = some (.aload_n 0, 1, 0, 0) := by decide +kernel
theorem p89_148 {l0 : Int} {q1 q2 q3 q4 q5 : MV} {ds : Ds} {m : Mm} {Q : Ds → Mm → List MV → Prop} : WP 89 148 [(2, l0), q1, q2, q3, q4, q5] [] ds m Q = (WP 89 149 [(2, l0), q1, q2, q3, q4, q5] [(2, l0)] ds m Q) := P_nx k89_148 rfl
set_option maxRecDepth 20000 in
theorem k89_149 : mjCode 89 149 = some (.getfield 261, 3, 6, 9) := by decide +kernel
theorem p89_149 {s0 : Int} {q0 q1 q2 q3 q4 q5 : MV} {ds : Ds} {m : Mm} {Q : Ds → Mm → List MV → Prop} : WP 89 149 [q0, q1, q2, q3, q4, q5] [(2, s0)] ds m Q = ((dk ds s0 = 6 ∧ WP 89 152 [q0, q1, q2, q3, q4, q5] [(0, m s0 9)] ds m Q)) := P_gd k89_149 rfl
set_option maxRecDepth 20000 in
theorem k89_152 : mjCode 89 152 = some (.ireturn, 1, 0, 0) := by decide +kernel
theorem p89_152 {s0 : Int} {q0 q1 q2 q3 q4 q5 : MV} {ds : Ds} {m : Mm} {Q : Ds → Mm → List MV → Prop} : WP 89 152 [q0, q1, q2, q3, q4, q5] [(0, s0)] ds m Q = (Q ds m [(0, s0)]) := P_ri k89_152 rk89
set_option maxRecDepth 20000 in
theorem k90_0 : mjCode 90 0 = some (.iload_n 1, 1, 0, 0) := by decide +kernel
theorem p90_0 {l1 : Int} {q0 : MV} {ds : Ds} {m : Mm} {Q : Ds → Mm → List MV → Prop} : WP 90 0 [q0, (0, l1)] [] ds m Q = (WP 90 1 [q0, (0, l1)] [(0, l1)] ds m Q) := P_nx k90_0 rfl
set_option maxRecDepth 20000 in
theorem k90_1 : mjCode 90 1 = some (.ifCond .lt 29, 3, 30, 0) := by decide +kernel
theorem p90_1 {s0 : Int} {q0 q1 : MV} {ds : Ds} {m : Mm} {Q : Ds → Mm → List MV → Prop} : WP 90 1 [q0, q1] [(0, s0)] ds m Q = (if s0 < 0 then WP 90 30 [q0, q1] [] ds m Q else WP 90 4 [q0, q1] [] ds m Q) := P_if k90_1 rfl
set_option maxRecDepth 20000 in
theorem k90_4 : mjCode 90 4 = some (.iload_n 1, 1, 0, 0) := by decide +kernel
theorem p90_4 {l1 : Int} {q0 : MV} {ds : Ds} {m : Mm} {Q : Ds → Mm → List MV → Prop} : WP 90 4 [q0, (0, l1)] [] ds m Q = (WP 90 5 [q0, (0, l1)] [(0, l1)] ds m Q) := P_nx k90_4 rfl
set_option maxRecDepth 20000 in
theorem k90_5 : mjCode 90 5 = some (.aload_n 0, 1, 0, 0) := by decide +kernel
theorem p90_5 {l0 s0 : Int} {q1 : MV} {ds : Ds} {m : Mm} {Q : Ds → Mm → List MV → Prop} : WP 90 5 [(2, l0), q1] [(0, s0)] ds m Q = (WP 90 6 [(2, l0), q1] [(2, l0), (0, s0)] ds m Q) := P_nx k90_5 rfl
set_option maxRecDepth 20000 in
theorem k90_6 : mjCode 90 6 = some (.getfield 261, 3, 6, 9) := by decide +kernel
theorem p90_6 {s0 s1 : Int} {q0 q1 : MV} {ds : Ds} {m : Mm} {Q : Ds → Mm → List MV → Prop} : WP 90 6 [q0, q1] [(2, s0), (0, s1)] ds m Q = ((dk ds s0 = 6 ∧ WP 90 9 [q0, q1] [(0, m s0 9), (0, s1)] ds m Q)) := P_gd k90_6 rfl
set_option maxRecDepth 20000 in
theorem k90_9 : mjCode 90 9 = some (.if_icmp .ge 21, 3, 30, 0) := by decide +kernel
theorem p90_9 {s0 s1 : Int} {q0 q1 : MV} {ds : Ds} {m : Mm} {Q : Ds → Mm → List MV → Prop} : WP 90 9 [q0, q1] [(0, s0), (0, s1)] ds m Q = (if s1 < s0 then WP 90 12 [q0, q1] [] ds m Q else WP 90 30 [q0, q1] [] ds m Q) := P_if k90_9 rfl
set_option maxRecDepth 20000 in
theorem k90_12 : mjCode 90 12 = some (.iload_n 1, 1, 0, 0) := by decide +kernel
theorem p90_12 {l1 : Int} {q0 : MV} {ds : Ds} {m : Mm} {Q : Ds → Mm → List MV → Prop} : WP 90 12 [q0, (0, l1)] [] ds m Q = (WP 90 13 [q0, (0, l1)] [(0, l1)] ds m Q) := P_nx k90_12 rfl
set_option maxRecDepth 20000 in
theorem k90_13 : mjCode 90 13 = some (.aload_n 0, 1, 0, 0) := by decide +kernel
theorem p90_13 {l0 s0 : Int} {q1 : MV} {ds : Ds} {m : Mm} {Q : Ds → Mm → List MV → Prop} : WP 90 13 [(2, l0), q1] [(0, s0)] ds m Q = (WP 90 14 [(2, l0), q1] [(2, l0), (0, s0)] ds m Q) := P_nx k90_13 rfl
set_option maxRecDepth 20000 in
theorem k90_14 : mjCode 90 14 = some (.getfield 25, 3, 6, 8) := by decide +kernel
theorem p90_14 {s0 s1 : Int} {q0 q1 : MV} {ds : Ds} {m : Mm} {Q : Ds → Mm → List MV → Prop} : WP 90 14 [q0, q1] [(2, s0), (0, s1)] ds m Q = ((dk ds s0 = 6 ∧ WP 90 17 [q0, q1] [(2, m s0 8), (0, s1)] ds m Q)) := P_gd k90_14 rfl
set_option maxRecDepth 20000 in
theorem k90_17 : mjCode 90 17 = some (.arraylength, 1, 0, 0) := by decide +kernel
theorem p90_17 {s0 s1 : Int} {q0 q1 : MV} {ds : Ds} {m : Mm} {Q : Ds → Mm → List MV → Prop} : WP 90 17 [q0, q1] [(2, s0), (0, s1)] ds m Q = (((10 ≤ dk ds s0 ∧ dk ds s0 ≤ 14) ∧ WP 90 18 [q0, q1] [(0, (dl ds s0 : Int)), (0, s1)] ds m Q)) := P_gd k90_17 rfl
set_option maxRecDepth 20000 in
theorem k90_18 : mjCode 90 18 = some (.if_icmp .ge 12, 3, 30, 0) := by decide +kernel
theorem p90_18 {s0 s1 : Int} {q0 q1 : MV} {ds : Ds} {m : Mm} {Q : Ds → Mm → List MV → Prop} : WP 90 18 [q0, q1] [(0, s0), (0, s1)] ds m Q = (if s1 < s0 then WP 90 21 [q0, q1] [] ds m Q else WP 90 30 [q0, q1] [] ds m Q) := P_if k90_18 rfl
set_option maxRecDepth 20000 in
theorem k90_21 : mjCode 90 21 = some (.aload_n 0, 1, 0, 0) := by decide +kernel
theorem p90_21 {l0 : Int} {q1 : MV} {ds : Ds} {m : Mm} {Q : Ds → Mm → List MV → Prop} : WP 90 21 [(2, l0), q1] [] ds m Q = (WP 90 22 [(2, l0), q1] [(2, l0)] ds m Q) := P_nx k90_21 rfl
set_option maxRecDepth 20000 in
theorem k90_22 : mjCode 90 22 = some (.getfield 25, 3, 6, 8) := by decide +kernel
theorem p90_22 {s0 : Int} {q0 q1 : MV} {ds : Ds} {m : Mm} {Q : Ds → Mm → List MV → Prop} : WP 90 22 [q0, q1] [(2, s0)] ds m Q = ((dk ds s0 = 6 ∧ WP 90 25 [q0, q1] [(2, m s0 8)] ds m Q)) := P_gd k90_22 rfl
set_option maxRecDepth 20000 in
theorem k90_25 : mjCode 90 25 = some (.iload_n 1, 1, 0, 0) := by decide +kernel
theorem p90_25 {l1 s0 : Int} {q0 : MV} {ds : Ds} {m : Mm} {Q : Ds → Mm → List MV → Prop} : WP 90 25 [q0, (0, l1)] [(2, s0)] ds m Q = (WP 90 26 [q0, (0, l1)] [(0, l1), (2, s0)] ds m Q) := P_nx k90_25 rfl
set_option maxRecDepth 20000 in
theorem k90_26 : mjCode 90 26 = some (.iaload, 1, 0, 0) := by decide +kernel
theorem p90_26 {s0 s1 : Int} {q0 q1 : MV} {ds : Ds} {m : Mm} {Q : Ds → Mm → List MV → Prop} : WP 90 26 [q0, q1] [(0, s0), (2, s1)] ds m Q = ((dk ds s1 = 10 ∧ 0 ≤ s0 ∧ s0 < dl ds s1 ∧ WP 90 27 [q0, q1] [(0, m s1 s0)] ds m Q)) := P_g3 k90_26 rfl
set_option maxRecDepth 20000 in
theorem k90_27 : mjCode 90 27 = some (.goto 4, 3, 31, 0) := by decide +kernel
theorem p90_27 {s0 : Int} {q0 q1 : MV} {ds : Ds} {m : Mm} {Q : Ds → Mm → List MV → Prop} : WP 90 27 [q0, q1] [(0, s0)] ds m Q = (WP 90 31 [q0, q1] [(0, s0)] ds m Q) := P_nx k90_27 rfl
set_option maxRecDepth 20000 in
theorem k90_30 : mjCode 90 30 = some (.iconst (-1), 1, 0, 0) := by decide +kernel
theorem p90_30 {q0 q1 : MV} {ds : Ds} {m : Mm} {Q : Ds → Mm → List MV → Prop} : WP 90 30 [q0, q1] [] ds m Q = (WP 90 31 [q0, q1] [(0, (-1))] ds m Q) := P_nx k90_30 rfl
set_option maxRecDepth 20000 in
theorem k90_31 : mjCode 90 31 = some (.ireturn, 1, 0, 0) := by decide +kernel
theorem p90_31 {s0 : Int} {q0 q1 : MV} {ds : Ds} {m : Mm} {Q : Ds → Mm → List MV → Prop} : WP 90 31 [q0, q1] [(0, s0)] ds m Q = (Q ds m [(0, s0)]) := P_ri k90_31 rk90
set_option maxRecDepth 20000 in
theorem k91_0 : mjCode 91 0 = some (.iload_n 1, 1, 0, 0) := by decide +kernel
theorem p91_0 {l1 : Int} {q0 q2 q3 q4 q5 q6 : MV} {ds : Ds} {m : Mm} {Q : Ds → Mm → List MV → Prop} : WP 91 0 [q0, (0, l1), q2, q3, q4, q5, q6] [] ds m Q = (WP 91 1 [q0, (0, l1), q2, q3, q4, q5, q6] [(0, l1)] ds m Q) := P_nx k91_0 rfl
set_option maxRecDepth 20000 in
theorem k91_1 : mjCode 91 1 = some (.invokestatic 69, 3, 108, 1) := by decide +kernel
theorem p91_1 {s0 : Int} {q0 q1 q2 q3 q4 q5 q6 : MV} {ds : Ds} {m : Mm} {Q : Ds → Mm → List MV → Prop} : WP 91 1 [q0, q1, q2, q3, q4, q5, q6] [(0, s0)] ds m Q = (WP 107 0 [(0, s0)] [] ds m (fun d2 m2 r2 => WP 91 4 [q0, q1, q2, q3, q4, q5, q6] (r2 ++ []) d2 m2 Q)) := P_cs k91_1 mx107 rfl rfl rfl rfl rfl rfl rfl
set_option maxRecDepth 20000 in
theorem k91_4 : mjCode 91 4 = some (.ifCond .ne 9, 3, 13, 0) := by decide +kernel
theorem p91_4 {s0 : Int} {q0 q1 q2 q3 q4 q5 q6 : MV} {ds : Ds} {m : Mm} {Q : Ds → Mm → List MV → Prop} : WP 91 4 [q0, q1, q2, q3, q4, q5, q6] [(0, s0)] ds m Q = (if s0 = 0 then WP 91 7 [q0, q1, q2, q3, q4, q5, q6] [] ds m Q else WP 91 13 [q0, q1, q2, q3, q4, q5, q6] [] ds m Q) := P_if k91_4 rfl
set_option maxRecDepth 20000 in
theorem k91_7 : mjCode 91 7 = some (.aload_n 0, 1, 0, 0) := by decide +kernel
theorem p91_7 {l0 : Int} {q1 q2 q3 q4 q5 q6 : MV} {ds : Ds} {m : Mm} {Q : Ds → Mm → List MV → Prop} : WP 91 7 [(2, l0), q1, q2, q3, q4, q5, q6] [] ds m Q = (WP 91 8 [(2, l0), q1, q2, q3, q4, q5, q6] [(2, l0)] ds m Q) := P_nx k91_7 rfl
set_option maxRecDepth 20000 in
theorem k91_8 : mjCode 91 8 = some (.iconst (-1), 1, 0, 0) := by decide +kernel
theorem p91_8 {s0 : Int} {q0 q1 q2 q3 q4 q5 q6 : MV} {ds : Ds} {m : Mm} {Q : Ds → Mm → List MV → Prop} : WP 91 8 [q0, q1, q2, q3, q4, q5, q6] [(2, s0)] ds m Q = (WP 91 9 [q0, q1, q2, q3, q4, q5, q6] [(0, (-1)), (2, s0)] ds m Q) := P_nx k91_8 rfl
set_option maxRecDepth 20000 in
theorem k91_9 : mjCode 91 9 = some (.invokevirtual 73, 3, 96, 2) := by decide +kernel
theorem p91_9 {s0 s1 : Int} {q0 q1 q2 q3 q4 q5 q6 : MV} {ds : Ds} {m : Mm} {Q : Ds → Mm → List MV → Prop} : WP 91 9 [q0, q1, q2, q3, q4, q5, q6] [(0, s0), (2, s1)] ds m Q = ((dk ds s1 = 6 ∧ WP 95 0 [(2, s1), (0, s0), (3, 0)] [] ds m (fun d2 m2 r2 => WP 91 12 [q0, q1, q2, q3, q4, q5, q6] (r2 ++ []) d2 m2 Q))) := P_cv k91_9 mx95 mo95 rfl rfl rfl rfl rfl rfl rfl rfl
set_option maxRecDepth 20000 in
theorem k91_12 : mjCode 91 12 = some (.ireturn, 1, 0, 0) := by decide +kernel
theorem p91_12 {s0 : Int} {q0 q1 q2 q3 q4 q5 q6 : MV} {ds : Ds} {m : Mm} {Q : Ds → Mm → List MV → Prop} : WP 91 12 [q0, q1, q2, q3, q4, q5, q6] [(0, s0)] ds m Q = (Q ds m [(0, s0)]) := P_ri k91_12 rk91
set_option maxRecDepth 20000 in
theorem k91_13 : mjCode 91 13 = some (.aload_n 0, 1, 0, 0) := by decide +kernel
theorem p91_13 {l0 : Int} {q1 q2 q3 q4 q5 q6 : MV} {ds : Ds} {m : Mm} {Q : Ds → Mm → List MV → Prop} : WP 91 13 [(2, l0), q1, q2, q3, q4, q5, q6] [] ds m Q = (WP 91 14 [(2, l0), q1, q2, q3, q4, q5, q6] [(2, l0)] ds m Q) := P_nx k91_13 rfl
set_option maxRecDepth 20000 in
theorem k91_14 : mjCode 91 14 = some (.getfield 45, 3, 6, 0) := by decide +kernel
theorem p91_14 {s0 : Int} {q0 q1 q2 q3 q4 q5 q6 : MV} {ds : Ds} {m : Mm} {Q : Ds → Mm → List MV → Prop} : WP 91 14 [q0, q1, q2, q3, q4, q5, q6] [(2, s0)] ds m Q = ((dk ds s0 = 6 ∧ WP 91 17 [q0, q1, q2, q3, q4, q5, q6] [(2, m s0 0)] ds m Q)) := P_gd k91_14 rfl
set_option maxRecDepth 20000 in
theorem k91_17 : mjCode 91 17 = some (.iload_n 1, 1, 0, 0) := by decide +kernel
theorem p91_17 {l1 s0 : Int} {q0 q2 q3 q4 q5 q6 : MV} {ds : Ds} {m : Mm} {Q : Ds → Mm → List MV → Prop} : WP 91 17 [q0, (0, l1), q2, q3, q4, q5, q6] [(2, s0)] ds m Q = (WP 91 18 [q0, (0, l1), q2, q3, q4, q5, q6] [(0, l1), (2, s0)] ds m Q) := P_nx k91_17 rfl
set_option maxRecDepth 20000 in
theorem k91_18 : mjCode 91 18 = some (.invokevirtual 85, 3, 30, 2) := by decide +kernel
theorem p91_18 {s0 s1 : Int} {q0 q1 q2 q3 q4 q5 q6 : MV} {ds : Ds} {m : Mm} {Q : Ds → Mm → List MV → Prop} : WP 91 18 [q0, q1, q2, q3, q4, q5, q6] [(0, s0), (2, s1)] ds m Q = ((dk ds s1 = 3 ∧ WP 29 0 [(2, s1), (0, s0)] [] ds m (fun d2 m2 r2 => WP 91 21 [q0, q1, q2, q3, q4, q5, q6] (r2 ++ []) d2 m2 Q))) := P_cv k91_18 mx29 mo29 rfl rfl rfl rfl rfl rfl rfl rfl
set_option maxRecDepth 20000 in
theorem k91_21 : mjCode 91 21 = some (.ifCond .ne 10, 3, 31, 0) := by decide +kernel
theorem p91_21 {s0 : Int} {q0 q1 q2 q3 q4 q5 q6 : MV} {ds : Ds} {m : Mm} {Q : Ds → Mm → List MV → Prop} : WP 91 21 [q0, q1, q2, q3, q4, q5, q6] [(0, s0)] ds m Q = (if s0 = 0 then WP 91 24 [q0, q1, q2, q3, q4, q5, q6] [] ds m Q else WP 91 31 [q0, q1, q2, q3, q4, q5, q6] [] ds m Q) := P_if k91_21 rfl
set_option maxRecDepth 20000 in
theorem k91_24 : mjCode 91 24 = some (.aload_n 0, 1, 0, 0) := by decide +kernel
theorem p91_24 {l0 : Int} {q1 q2 q3 q4 q5 q6 : MV} {ds : Ds} {m : Mm} {Q : Ds → Mm → List MV → Prop} : WP 91 24 [(2, l0), q1, q2, q3, q4, q5, q6] [] ds m Q = (WP 91 25 [(2, l0), q1, q2, q3, q4, q5, q6] [(2, l0)] ds m Q) := P_nx k91_24 rfl
set_option maxRecDepth 20000 in
theorem k91_25 : mjCode 91 25 = some (.bipush (-6), 2, 0, 0) := by decide +kernel
theorem p91_25 {s0 : Int} {q0 q1 q2 q3 q4 q5 q6 : MV} {ds : Ds} {m : Mm} {Q : Ds → Mm → List MV → Prop} : WP 91 25 [q0, q1, q2, q3, q4, q5, q6] [(2, s0)] ds m Q = (WP 91 27 [q0, q1, q2, q3, q4, q5, q6] [(0, (-6)), (2, s0)] ds m Q) := P_nx k91_25 rfl
set_option maxRecDepth 20000 in
theorem k91_27 : mjCode 91 27 = some (.invokevirtual 73, 3, 96, 2) := by decide +kernel
theorem p91_27 {s0 s1 : Int} {q0 q1 q2 q3 q4 q5 q6 : MV} {ds : Ds} {m : Mm} {Q : Ds → Mm → List MV → Prop} : WP 91 27 [q0, q1, q2, q3, q4, q5, q6] [(0, s0), (2, s1)] ds m Q = ((dk ds s1 = 6 ∧ WP 95 0 [(2, s1), (0, s0), (3, 0)] [] ds m (fun d2 m2 r2 => WP 91 30 [q0, q1, q2, q3, q4, q5, q6] (r2 ++ []) d2 m2 Q))) := P_cv k91_27 mx95 mo95 rfl rfl rfl rfl rfl rfl rfl rfl
set_option maxRecDepth 20000 in
theorem k91_30 : mjCode 91 30 = some (.ireturn, 1, 0, 0) := by decide +kernel
theorem p91_30 {s0 : Int} {q0 q1 q2 q3 q4 q5 q6 : MV} {ds : Ds} {m : Mm} {Q : Ds → Mm → List MV → Prop} : WP 91 30 [q0, q1, q2, q3, q4, q5, q6] [(0, s0)] ds m Q = (Q ds m [(0, s0)]) := P_ri k91_30 rk91
set_option maxRecDepth 20000 in
theorem k91_31 : mjCode 91 31 = some (.aload_n 0, 1, 0, 0) := by decide +kernel
theorem p91_31 {l0 : Int} {q1 q2 q3 q4 q5 q6 : MV} {ds : Ds} {m : Mm} {Q : Ds → Mm → List MV → Prop} : WP 91 31 [(2, l0), q1, q2, q3, q4, q5, q6] [] ds m Q = (WP 91 32 [(2, l0), q1, q2, q3, q4, q5, q6] [(2, l0)] ds m Q) := P_nx k91_31 rfl
set_option maxRecDepth 20000 in
theorem k91_32 : mjCode 91 32 = some (.iconst 0, 1, 0, 0) := by decide +kernel
theorem p91_32 {s0 : Int} {q0 q1 q2 q3 q4 q5 q6 : MV} {ds : Ds} {m : Mm} {Q : Ds → Mm → List MV → Prop} : WP 91 32 [q0, q1, q2, q3, q4, q5, q6] [(2, s0)] ds m Q = (WP 91 33 [q0, q1, q2, q3, q4, q5, q6] [(0, 0), (2, s0)] ds m Q) := P_nx k91_32 rfl
set_option maxRecDepth 20000 in
theorem k91_33 : mjCode 91 33 = some (.putfield 276, 3, 6, 11) := by decide +kernel
theorem p91_33 {s0 s1 : Int} {q0 q1 q2 q3 q4 q5 q6 : MV} {ds : Ds} {m : Mm} {Q : Ds → Mm → List MV → Prop} : WP 91 33 [q0, q1, q2, q3, q4, q5, q6] [(0, s0), (2, s1)] ds m Q = ((dk ds s1 = 6 ∧ WP 91 36 [q0, q1, q2, q3, q4, q5, q6] [] ds (up m s1 11 s0) Q)) := P_pf k91_33 rfl
set_option maxRecDepth 20000 in
theorem k91_36 : mjCode 91 36 = some (.aload_n 0, 1, 0, 0) := by decide +kernel
theorem p91_36 {l0 : Int} {q1 q2 q3 q4 q5 q6 : MV} {ds : Ds} {m : Mm} {Q : Ds → Mm → List MV → Prop} : WP 91 36 [(2, l0), q1, q2, q3, q4, q5, q6] [] ds m Q = (WP 91 37 [(2, l0), q1, q2, q3, q4, q5, q6] [(2, l0)] ds m Q) := P_nx k91_36 rfl
set_option maxRecDepth 20000 in
theorem k91_37 : mjCode 91 37 = some (.getfield 45, 3, 6, 0) := by decide +kernel
theorem p91_37 {s0 : Int} {q0 q1 q2 q3 q4 q5 q6 : MV} {ds : Ds} {m : Mm} {Q : Ds → Mm → List MV → Prop} : WP 91 37 [q0, q1, q2, q3, q4, q5, q6] [(2, s0)] ds m Q = ((dk ds s0 = 6 ∧ WP 91 40 [q0, q1, q2, q3, q4, q5, q6] [(2, m s0 0)] ds m Q)) := P_gd k91_37 rfl
set_option maxRecDepth 20000 in
theorem k91_40 : mjCode 91 40 = some (.iload_n 2, 1, 0, 0) := by decide +kernel
theorem p91_40 {l2 s0 : Int} {q0 q1 q3 q4 q5 q6 : MV} {ds : Ds} {m : Mm} {Q : Ds → Mm → List MV → Prop} : WP 91 40 [q0, q1, (0, l2), q3, q4, q5, q6] [(2, s0)] ds m Q = (WP 91 41 [q0, q1, (0, l2), q3, q4, q5, q6] [(0, l2), (2, s0)] ds m Q) := P_nx k91_40 rfl
set_option maxRecDepth 20000 in
theorem k91_41 : mjCode 91 41 = some (.invokevirtual 101, 3, 25, 2) := by decide +kernel
theorem p91_41 {s0 s1 : Int} {q0 q1 q2 q3 q4 q5 q6 : MV} {ds : Ds} {m : Mm} {Q : Ds → Mm → List MV → Prop} : WP 91 41 [q0, q1, q2, q3, q4, q5, q6] [(0, s0), (2, s1)] ds m Q = ((dk ds s1 = 3 ∧ WP 24 0 [(2, s1), (0, s0)] [] ds m (fun d2 m2 r2 => WP 91 44 [q0, q1, q2, q3, q4, q5, q6] (r2 ++ []) d2 m2 Q))) := P_cv k91_41 mx24 mo24 rfl rfl rfl rfl rfl rfl rfl rfl
set_option maxRecDepth 20000 in
theorem k91_44 : mjCode 91 44 = some (.bipush 8, 2, 0, 0) := by decide +kernel
theorem p91_44 {s0 : Int} {q0 q1 q2 q3 q4 q5 q6 : MV} {ds : Ds} {m : Mm} {Q : Ds → Mm → List MV → Prop} : WP 91 44 [q0, q1, q2, q3, q4, q5, q6] [(0, s0)] ds m Q = (WP 91 46 [q0, q1, q2, q3, q4, q5, q6] [(0, 8), (0, s0)] ds m Q) := P_nx k91_44 rfl
set_option maxRecDepth 20000 in
theorem k91_46 : mjCode 91 46 = some (.if_icmp .eq 5, 3, 51, 0) := by decide +kernel
theorem p91_46 {s0 s1 : Int} {q0 q1 q2 q3 q4 q5 q6 : MV} {ds : Ds} {m : Mm} {Q : Ds → Mm → List MV → Prop} : WP 91 46 [q0, q1, q2, q3, q4, q5, q6] [(0, s0), (0, s1)] ds m Q = (if s1 = s0 then WP 91 51 [q0, q1, q2, q3, q4, q5, q6] [] ds m Q else WP 91 49 [q0, q1, q2, q3, q4, q5, q6] [] ds m Q) := P_if k91_46 rfl
set_option maxRecDepth 20000 in
theorem k91_49 : mjCode 91 49 = some (.iconst 0, 1, 0, 0) := by decide +kernel
theorem p91_49 {q0 q1 q2 q3 q4 q5 q6 : MV} {ds : Ds} {m : Mm} {Q : Ds → Mm → List MV → Prop} : WP 91 49 [q0, q1, q2, q3, q4, q5, q6] [] ds m Q = (WP 91 50 [q0, q1, q2, q3, q4, q5, q6] [(0, 0)] ds m Q) := P_nx k91_49 rfl
set_option maxRecDepth 20000 in
theorem k91_50 : mjCode 91 50 = some (.ireturn, 1, 0, 0) := by decide +kernel
theorem p91_50 {s0 : Int} {q0 q1 q2 q3 q4 q5 q6 : MV} {ds : Ds} {m : Mm} {Q : Ds → Mm → List MV → Prop} : WP 91 50 [q0, q1, q2, q3, q4, q5, q6] [(0, s0)] ds m Q = (Q ds m [(0, s0)]) := P_ri k91_50 rk91
set_option maxRecDepth 20000 in
theorem k91_51 : mjCode 91 51 = some (.aload_n 0, 1, 0, 0) := by decide +kernel
theorem p91_51 {l0 : Int} {q1 q2 q3 q4 q5 q6 : MV} {ds : Ds} {m : Mm} {Q : Ds → Mm → List MV → Prop} : WP 91 51 [(2, l0), q1, q2, q3, q4, q5, q6] [] ds m Q = (WP 91 52 [(2, l0), q1, q2, q3, q4, q5, q6] [(2, l0)] ds m Q) := P_nx k91_51 rfl
set_option maxRecDepth 20000 in
theorem k91_52 : mjCode 91 52 = some (.getfield 49, 3, 6, 1) := by decide +kernel
theorem p91_52 {s0 : Int} {q0 q1 q2 q3 q4 q5 q6 : MV} {ds : Ds} {m : Mm} {Q : Ds → Mm → List MV → Prop} : WP 91 52 [q0, q1, q2, q3, q4, q5, q6] [(2, s0)] ds m Q = ((dk ds s0 = 6 ∧ WP 91 55 [q0, q1, q2, q3, q4, q5, q6] [(2, m s0 1)] ds m Q)) := P_gd k91_52 rfl
set_option maxRecDepth 20000 in
theorem k91_55 : mjCode 91 55 = some (.aload_n 0, 1, 0, 0) := by decide +kernel
theorem p91_55 {l0 s0 : Int} {q1 q2 q3 q4 q5 q6 : MV} {ds : Ds} {m : Mm} {Q : Ds → Mm → List MV → Prop} : WP 91 55 [(2, l0), q1, q2, q3, q4, q5, q6] [(2, s0)] ds m Q = (WP 91 56 [(2, l0), q1, q2, q3, q4, q5, q6] [(2, l0), (2, s0)] ds m Q) := P_nx k91_55 rfl
set_option maxRecDepth 20000 in
theorem k91_56 : mjCode 91 56 = some (.getfield 45, 3, 6, 0) := by decide +kernel
theorem p91_56 {s0 s1 : Int} {q0 q1 q2 q3 q4 q5 q6 : MV} {ds : Ds} {m : Mm} {Q : Ds → Mm → List MV → Prop} : WP 91 56 [q0, q1, q2, q3, q4, q5, q6] [(2, s0), (2, s1)] ds m Q = ((dk ds s0 = 6 ∧ WP 91 59 [q0, q1, q2, q3, q4, q5, q6] [(2, m s0 0), (2, s1)] ds m Q)) := P_gd k91_56 rfl
set_option maxRecDepth 20000 in
theorem k91_59 : mjCode 91 59 = some (.invokevirtual 181, 3, 24, 2) := by decide +kernel
theorem p91_59 {s0 s1 : Int} {q0 q1 q2 q3 q4 q5 q6 : MV} {ds : Ds} {m : Mm} {Q : Ds → Mm → List MV → Prop} : WP 91 59 [q0, q1, q2, q3, q4, q5, q6] [(2, s0), (2, s1)] ds m Q = ((dk ds s1 = 3 ∧ WP 23 0 [(2, s1), (2, s0), (3, 0)] [] ds m (fun d2 m2 r2 => WP 91 62 [q0, q1, q2, q3, q4, q5, q6] (r2 ++ []) d2 m2 Q))) := P_cv k91_59 mx23 mo23 rfl rfl rfl rfl rfl rfl rfl rfl
set_option maxRecDepth 20000 in
theorem k91_62 : mjCode 91 62 = some (.iconst 1, 1, 0, 0) := by decide +kernel
theorem p91_62 {q0 q1 q2 q3 q4 q5 q6 : MV} {ds : Ds} {m : Mm} {Q : Ds → Mm → List MV → Prop} : WP 91 62 [q0, q1, q2, q3, q4, q5, q6] [] ds m Q = (WP 91 63 [q0, q1, q2, q3, q4, q5, q6] [(0, 1)] ds m Q) := P_nx k91_62 rfl
set_option maxRecDepth 20000 in
theorem k91_63 : mjCode 91 63 = some (.istore 4, 2, 0, 0) := by decide +kernel
theorem p91_63 {l3 s0 : Int} {q0 q1 q2 q4 q5 q6 : MV} {ds : Ds} {m : Mm} {Q : Ds → Mm → List MV → Prop} : WP 91 63 [q0, q1, q2, (0, l3), q4, q5, q6] [(0, s0)] ds m Q = (WP 91 65 [q0, q1, q2, (0, l3), (0, s0), q5, q6] [] ds m Q) := P_nx k91_63 rfl
set_option maxRecDepth 20000 in
theorem k91_65 : mjCode 91 65 = some (.iload 4, 2, 0, 0) := by decide +kernel
theorem p91_65 {l4 : Int} {q0 q1 q2 q3 q5 q6 : MV} {ds : Ds} {m : Mm} {Q : Ds → Mm → List MV → Prop} : WP 91 65 [q0, q1, q2, q3, (0, l4), q5, q6] [] ds m Q = (WP 91 67 [q0, q1, q2, q3, (0, l4), q5, q6] [(0, l4)] ds m Q) := P_nx k91_65 rfl
set_option maxRecDepth 20000 in
theorem k91_67 : mjCode 91 67 = some (.bipush 9, 2, 0, 0) := by decide +kernel
theorem p91_67 {s0 : Int} {q0 q1 q2 q3 q4 q5 q6 : MV} {ds : Ds} {m : Mm} {Q : Ds → Mm → List MV → Prop} : WP 91 67 [q0, q1, q2, q3, q4, q5, q6] [(0, s0)] ds m Q = (WP 91 69 [q0, q1, q2, q3, q4, q5, q6] [(0, 9), (0, s0)] ds m Q) := P_nx k91_67 rfl
set_option maxRecDepth 20000 in
theorem k91_69 : mjCode 91 69 = some (.if_icmp .gt 125, 3, 194, 0) := by decide +kernel
theorem p91_69 {s0 s1 : Int} {q0 q1 q2 q3 q4 q5 q6 : MV} {ds : Ds} {m : Mm} {Q : Ds → Mm → List MV → Prop} : WP 91 69 [q0, q1, q2, q3, q4, q5, q6] [(0, s0), (0, s1)] ds m Q = (if s0 < s1 then WP 91 194 [q0, q1, q2, q3, q4, q5, q6] [] ds m Q else WP 91 72 [q0, q1, q2, q3, q4, q5, q6] [] ds m Q) := P_if k91_69 rfl
set_option maxRecDepth 20000 in
theorem k91_72 : mjCode 91 72 = some (.iconst 0, 1, 0, 0) := by decide +kernel
theorem p91_72 {q0 q1 q2 q3 q4 q5 q6 : MV} {ds : Ds} {m : Mm} {Q : Ds → Mm → List MV → Prop} : WP 91 72 [q0, q1, q2, q3, q4, q5, q6] [] ds m Q = (WP 91 73 [q0, q1, q2, q3, q4, q5, q6] [(0, 0)] ds m Q) := P_nx k91_72 rfl
set_option maxRecDepth 20000 in
theorem k91_73 : mjCode 91 73 = some (.istore 5, 2, 0, 0) := by decide +kernel
theorem p91_73 {l4 s0 : Int} {q0 q1 q2 q3 q5 q6 : MV} {ds : Ds} {m : Mm} {Q : Ds → Mm → List MV → Prop} : WP 91 73 [q0, q1, q2, q3, (0, l4), q5, q6] [(0, s0)] ds m Q = (WP 91 75 [q0, q1, q2, q3, (0, l4), (0, s0), q6] [] ds m Q) := P_nx k91_73 rfl
set_option maxRecDepth 20000 in
theorem k91_75 : mjCode 91 75 = some (.iload 5, 2, 0, 0) := by decide +kernel
theorem p91_75 {l5 : Int} {q0 q1 q2 q3 q4 q6 : MV} {ds : Ds} {m : Mm} {Q : Ds → Mm → List MV → Prop} : WP 91 75 [q0, q1, q2, q3, q4, (0, l5), q6] [] ds m Q = (WP 91 77 [q0, q1, q2, q3, q4, (0, l5), q6] [(0, l5)] ds m Q) := P_nx k91_75 rfl
set_option maxRecDepth 20000 in
theorem k91_77 : mjCode 91 77 = some (.iload 4, 2, 0, 0) := by decide +kernel
theorem p91_77 {l4 s0 : Int} {q0 q1 q2 q3 q5 q6 : MV} {ds : Ds} {m : Mm} {Q : Ds → Mm → List MV → Prop} : WP 91 77 [q0, q1, q2, q3, (0, l4), q5, q6] [(0, s0)] ds m Q = (WP 91 79 [q0, q1, q2, q3, (0, l4), q5, q6] [(0, l4), (0, s0)] ds m Q) := P_nx k91_77 rfl
set_option maxRecDepth 20000 in
theorem k91_79 : mjCode 91 79 = some (.invokestatic 279, 3, 117, 1) := by decide +kernel
theorem p91_79 {s0 s1 : Int} {q0 q1 q2 q3 q4 q5 q6 : MV} {ds : Ds} {m : Mm} {Q : Ds → Mm → List MV → Prop} : WP 91 79 [q0, q1, q2, q3, q4, q5, q6] [(0, s0), (0, s1)] ds m Q = (WP 116 0 [(0, s0)] [] ds m (fun d2 m2 r2 => WP 91 82 [q0, q1, q2, q3, q4, q5, q6] (r2 ++ [(0, s1)]) d2 m2 Q)) := P_cs k91_79 mx116 rfl rfl rfl rfl rfl rfl rfl
set_option maxRecDepth 20000 in
theorem k91_82 : mjCode 91 82 = some (.if_icmp .gt 106, 3, 188, 0) := by decide +kernel
theorem p91_82 {s0 s1 : Int} {q0 q1 q2 q3 q4 q5 q6 : MV} {ds : Ds} {m : Mm} {Q : Ds → Mm → List MV → Prop} : WP 91 82 [q0, q1, q2, q3, q4, q5, q6] [(0, s0), (0, s1)] ds m Q = (if s0 < s1 then WP 91 188 [q0, q1, q2, q3, q4, q5, q6] [] ds m Q else WP 91 85 [q0, q1, q2, q3, q4, q5, q6] [] ds m Q) := P_if k91_82 rfl
set_option maxRecDepth 20000 in
theorem k91_85 : mjCode 91 85 = some (.iload 4, 2, 0, 0) := by decide +kernel
theorem p91_85 {l4 : Int} {q0 q1 q2 q3 q5 q6 : MV} {ds : Ds} {m : Mm} {Q : Ds → Mm → List MV → Prop} : WP 91 85 [q0, q1, q2, q3, (0, l4), q5, q6] [] ds m Q = (WP 91 87 [q0, q1, q2, q3, (0, l4), q5, q6] [(0, l4)] ds m Q) := P_nx k91_85 rfl
set_option maxRecDepth 20000 in
theorem k91_87 : mjCode 91 87 = some (.invokestatic 282, 3, 118, 1) := by decide +kernel
theorem p91_87 {s0 : Int} {q0 q1 q2 q3 q4 q5 q6 : MV} {ds : Ds} {m : Mm} {Q : Ds → Mm → List MV → Prop} : WP 91 87 [q0, q1, q2, q3, q4, q5, q6] [(0, s0)] ds m Q = (WP 117 0 [(0, s0)] [] ds m (fun d2 m2 r2 => WP 91 90 [q0, q1, q2, q3, q4, q5, q6] (r2 ++ []) d2 m2 Q)) := P_cs k91_87 mx117 rfl rfl rfl rfl rfl rfl rfl
set_option maxRecDepth 20000 in
theorem k91_90 : mjCode 91 90 = some (.istore 6, 2, 0, 0) := by decide +kernel
theorem p91_90 {l5 s0 : Int} {q0 q1 q2 q3 q4 q6 : MV} {ds : Ds} {m : Mm} {Q : Ds → Mm → List MV → Prop} : WP 91 90 [q0, q1, q2, q3, q4, (0, l5), q6] [(0, s0)] ds m Q = (WP 91 92 [q0, q1, q2, q3, q4, (0, l5), (0, s0)] [] ds m Q) := P_nx k91_90 rfl
set_option maxRecDepth 20000 in
theorem k91_92 : mjCode 91 92 = some (.iload 6, 2, 0, 0) := by decide +kernel
theorem p91_92 {l6 : Int} {q0 q1 q2 q3 q4 q5 : MV} {ds : Ds} {m : Mm} {Q : Ds → Mm → List MV → Prop} : WP 91 92 [q0, q1, q2, q3, q4, q5, (0, l6)] [] ds m Q = (WP 91 94 [q0, q1, q2, q3, q4, q5, (0, l6)] [(0, l6)] ds m Q) := P_nx k91_92 rfl
set_option maxRecDepth 20000 in
theorem k91_94 : mjCode 91 94 = some (.iload 4, 2, 0, 0) := by decide +kernel
theorem p91_94 {l4 s0 : Int} {q0 q1 q2 q3 q5 q6 : MV} {ds : Ds} {m : Mm} {Q : Ds → Mm → List MV → Prop} : WP 91 94 [q0, q1, q2, q3, (0, l4), q5, q6] [(0, s0)] ds m Q = (WP 91 96 [q0, q1, q2, q3, (0, l4), q5, q6] [(0, l4), (0, s0)] ds m Q) := P_nx k91_94 rfl
set_option maxRecDepth 20000 in
theorem k91_96 : mjCode 91 96 = some (.invokestatic 285, 3, 119, 1) := by decide +kernel
theorem p91_96 {s0 s1 : Int} {q0 q1 q2 q3 q4 q5 q6 : MV} {ds : Ds} {m : Mm} {Q : Ds → Mm → List MV → Prop} : WP 91 96 [q0, q1, q2, q3, q4, q5, q6] [(0, s0), (0, s1)] ds m Q = (WP 118 0 [(0, s0)] [] ds m (fun d2 m2 r2 => WP 91 99 [q0, q1, q2, q3, q4, q5, q6] (r2 ++ [(0, s1)]) d2 m2 Q)) := P_cs k91_96 mx118 rfl rfl rfl rfl rfl rfl rfl
set_option maxRecDepth 20000 in
theorem k91_99 : mjCode 91 99 = some (.if_icmp .gt 83, 3, 182, 0) := by decide +kernel
theorem p91_99 {s0 s1 : Int} {q0 q1 q2 q3 q4 q5 q6 : MV} {ds : Ds} {m : Mm} {Q : Ds → Mm → List MV → Prop} : WP 91 99 [q0, q1, q2, q3, q4, q5, q6] [(0, s0), (0, s1)] ds m Q = (if s0 < s1 then WP 91 182 [q0, q1, q2, q3, q4, q5, q6] [] ds m Q else WP 91 102 [q0, q1, q2, q3, q4, q5, q6] [] ds m Q) := P_if k91_99 rfl
set_option maxRecDepth 20000 in
theorem k91_102 : mjCode 91 102 = some (.aload_n 0, 1, 0, 0) := by decide +kernel
theorem p91_102 {l0 : Int} {q1 q2 q3 q4 q5 q6 : MV} {ds : Ds} {m : Mm} {Q : Ds → Mm → List MV → Prop} : WP 91 102 [(2, l0), q1, q2, q3, q4, q5, q6] [] ds m Q = (WP 91 103 [(2, l0), q1, q2, q3, q4, q5, q6] [(2, l0)] ds m Q) := P_nx k91_102 rfl
set_option maxRecDepth 20000 in
theorem k91_103 : mjCode 91 103 = some (.getfield 49, 3, 6, 1) := by decide +kernel
theorem p91_103 {s0 : Int} {q0 q1 q2 q3 q4 q5 q6 : MV} {ds : Ds} {m : Mm} {Q : Ds → Mm → List MV → Prop} : WP 91 103 [q0, q1, q2, q3, q4, q5, q6] [(2, s0)] ds m Q = ((dk ds s0 = 6 ∧ WP 91 106 [q0, q1, q2, q3, q4, q5, q6] [(2, m s0 1)] ds m Q)) := P_gd k91_103 rfl
set_option maxRecDepth 20000 in
theorem k91_106 : mjCode 91 106 = some (.iload_n 1, 1, 0, 0) := by decide +kernel
theorem p91_106 {l1 s0 : Int} {q0 q2 q3 q4 q5 q6 : MV} {ds : Ds} {m : Mm} {Q : Ds → Mm → List MV → Prop} : WP 91 106 [q0, (0, l1), q2, q3, q4, q5, q6] [(2, s0)] ds m Q = (WP 91 107 [q0, (0, l1), q2, q3, q4, q5, q6] [(0, l1), (2, s0)] ds m Q) := P_nx k91_106 rfl
set_option maxRecDepth 20000 in
theorem k91_107 : mjCode 91 107 = some (.iload 4, 2, 0, 0) := by decide +kernel
theorem p91_107 {l4 s0 s1 : Int} {q0 q1 q2 q3 q5 q6 : MV} {ds : Ds} {m : Mm} {Q : Ds → Mm → List MV → Prop} : WP 91 107 [q0, q1, q2, q3, (0, l4), q5, q6] [(0, s0), (2, s1)] ds m Q = (WP 91 109 [q0, q1, q2, q3, (0, l4), q5, q6] [(0, l4), (0, s0), (2, s1)] ds m Q) := P_nx k91_107 rfl
set_option maxRecDepth 20000 in
theorem k91_109 : mjCode 91 109 = some (.iload 5, 2, 0, 0) := by decide +kernel
theorem p91_109 {l5 s0 s1 s2 : Int} {q0 q1 q2 q3 q4 q6 : MV} {ds : Ds} {m : Mm} {Q : Ds → Mm → List MV → Prop} : WP 91 109 [q0, q1, q2, q3, q4, (0, l5), q6] [(0, s0), (0, s1), (2, s2)] ds m Q = (WP 91 111 [q0, q1, q2, q3, q4, (0, l5), q6] [(0, l5), (0, s0), (0, s1), (2, s2)] ds m Q) := P_nx k91_109 rfl
set_option maxRecDepth 20000 in
theorem k91_111 : mjCode 91 111 = some (.iload 6, 2, 0, 0) := by decide +kernel
theorem p91_111 {l6 s0 s1 s2 s3 : Int} {q0 q1 q2 q3 q4 q5 : MV} {ds : Ds} {m : Mm} {Q : Ds → Mm → List MV → Prop} : WP 91 111 [q0, q1, q2, q3, q4, q5, (0, l6)] [(0, s0), (0, s1), (0, s2), (2, s3)] ds m Q = (WP 91 113 [q0, q1, q2, q3, q4, q5, (0, l6)] [(0, l6), (0, s0), (0, s1), (0, s2), (2, s3)] ds m Q) := P_nx k91_111 rfl
set_option maxRecDepth 20000 in
theorem k91_113 : mjCode 91 113 = some (.invokevirtual 77, 3, 33, 5) := by decide +kernel
theorem p91_113 {s0 s1 s2 s3 s4 : Int} {q0 q1 q2 q3 q4 q5 q6 : MV} {ds : Ds} {m : Mm} {Q : Ds → Mm → List MV → Prop} : WP 91 113 [q0, q1, q2, q3, q4, q5, q6] [(0, s0), (0, s1), (0, s2), (0, s3), (2, s4)] ds m Q = ((dk ds s4 = 3 ∧ WP 32 0 [(2, s4), (0, s3), (0, s2), (0, s1), (0, s0), (3, 0)] [] ds m (fun d2 m2 r2 => WP 91 116 [q0, q1, q2, q3, q4, q5, q6] (r2 ++ []) d2 m2 Q))) := P_cv k91_113 mx32 mo32 rfl rfl rfl rfl rfl rfl rfl rfl
set_option maxRecDepth 20000 in
theorem k91_116 : mjCode 91 116 = some (.ifCond .eq 60, 3, 176, 0) := by decide +kernel
theorem p91_116 {s0 : Int} {q0 q1 q2 q3 q4 q5 q6 : MV} {ds : Ds} {m : Mm} {Q : Ds → Mm → List MV → Prop} : WP 91 116 [q0, q1, q2, q3, q4, q5, q6] [(0, s0)] ds m Q = (if s0 = 0 then WP 91 176 [q0, q1, q2, q3, q4, q5, q6] [] ds m Q else WP 91 119 [q0, q1, q2, q3, q4, q5, q6] [] ds m Q) := P_if k91_116 rfl
set_option maxRecDepth 20000 in
theorem k91_119 : mjCode 91 119 = some (.aload_n 0, 1, 0, 0) := by decide +kernel
theorem p91_119 {l0 : Int} {q1 q2 q3 q4 q5 q6 : MV} {ds : Ds} {m : Mm} {Q : Ds → Mm → List MV → Prop} : WP 91 119 [(2, l0), q1, q2, q3, q4, q5, q6] [] ds m Q = (WP 91 120 [(2, l0), q1, q2, q3, q4, q5, q6] [(2, l0)] ds m Q) := P_nx k91_119 rfl
set_option maxRecDepth 20000 in
theorem k91_120 : mjCode 91 120 = some (.getfield 49, 3, 6, 1) := by decide +kernel
theorem p91_120 {s0 : Int} {q0 q1 q2 q3 q4 q5 q6 : MV} {ds : Ds} {m : Mm} {Q : Ds → Mm → List MV → Prop} : WP 91 120 [q0, q1, q2, q3, q4, q5, q6] [(2, s0)] ds m Q = ((dk ds s0 = 6 ∧ WP 91 123 [q0, q1, q2, q3, q4, q5, q6] [(2, m s0 1)] ds m Q)) := P_gd k91_120 rfl
set_option maxRecDepth 20000 in
theorem k91_123 : mjCode 91 123 = some (.iload_n 1, 1, 0, 0) := by decide +kernel
theorem p91_123 {l1 s0 : Int} {q0 q2 q3 q4 q5 q6 : MV} {ds : Ds} {m : Mm} {Q : Ds → Mm → List MV → Prop} : WP 91 123 [q0, (0, l1), q2, q3, q4, q5, q6] [(2, s0)] ds m Q = (WP 91 124 [q0, (0, l1), q2, q3, q4, q5, q6] [(0, l1), (2, s0)] ds m Q) := P_nx k91_123 rfl
set_option maxRecDepth 20000 in
theorem k91_124 : mjCode 91 124 = some (.iload 4, 2, 0, 0) := by decide +kernel
theorem p91_124 {l4 s0 s1 : Int} {q0 q1 q2 q3 q5 q6 : MV} {ds : Ds} {m : Mm} {Q : Ds → Mm → List MV → Prop} : WP 91 124 [q0, q1, q2, q3, (0, l4), q5, q6] [(0, s0), (2, s1)] ds m Q = (WP 91 126 [q0, q1, q2, q3, (0, l4), q5, q6] [(0, l4), (0, s0), (2, s1)] ds m Q) := P_nx k91_124 rfl
set_option maxRecDepth 20000 in
theorem k91_126 : mjCode 91 126 = some (.iload 5, 2, 0, 0) := by decide +kernel
theorem p91_126 {l5 s0 s1 s2 : Int} {q0 q1 q2 q3 q4 q6 : MV} {ds : Ds} {m : Mm} {Q : Ds → Mm → List MV → Prop} : WP 91 126 [q0, q1, q2, q3, q4, (0, l5), q6] [(0, s0), (0, s1), (2, s2)] ds m Q = (WP 91 128 [q0, q1, q2, q3, q4, (0, l5), q6] [(0, l5), (0, s0), (0, s1), (2, s2)] ds m Q) := P_nx k91_126 rfl
set_option maxRecDepth 20000 in
theorem k91_128 : mjCode 91 128 = some (.iload 6, 2, 0, 0) := by decide +kernel
theorem p91_128 {l6 s0 s1 s2 s3 : Int} {q0 q1 q2 q3 q4 q5 : MV} {ds : Ds} {m : Mm} {Q : Ds → Mm → List MV → Prop} : WP 91 128 [q0, q1, q2, q3, q4, q5, (0, l6)] [(0, s0), (0, s1), (0, s2), (2, s3)] ds m Q = (WP 91 130 [q0, q1, q2, q3, q4, q5, (0, l6)] [(0, l6), (0, s0), (0, s1), (0, s2), (2, s3)] ds m Q) := P_nx k91_128 rfl
set_option maxRecDepth 20000 in
theorem k91_130 : mjCode 91 130 = some (.invokevirtual 81, 3, 35, 5) := by decide +kernel
theorem p91_130 {s0 s1 s2 s3 s4 : Int} {q0 q1 q2 q3 q4 q5 q6 : MV} {ds : Ds} {m : Mm} {Q : Ds → Mm → List MV → Prop} : WP 91 130 [q0, q1, q2, q3, q4, q5, q6] [(0, s0), (0, s1), (0, s2), (0, s3), (2, s4)] ds m Q = ((dk ds s4 = 3 ∧ WP 34 0 [(2, s4), (0, s3), (0, s2), (0, s1), (0, s0)] [] ds m (fun d2 m2 r2 => WP 91 133 [q0, q1, q2, q3, q4, q5, q6] (r2 ++ []) d2 m2 Q))) := P_cv k91_130 mx34 mo34 rfl rfl rfl rfl rfl rfl rfl rfl
set_option maxRecDepth 20000 in
theorem k91_133 : mjCode 91 133 = some (.aload_n 0, 1, 0, 0) := by decide +kernel
theorem p91_133 {l0 : Int} {q1 q2 q3 q4 q5 q6 : MV} {ds : Ds} {m : Mm} {Q : Ds → Mm → List MV → Prop} : WP 91 133 [(2, l0), q1, q2, q3, q4, q5, q6] [] ds m Q = (WP 91 134 [(2, l0), q1, q2, q3, q4, q5, q6] [(2, l0)] ds m Q) := P_nx k91_133 rfl
set_option maxRecDepth 20000 in
theorem k91_134 : mjCode 91 134 = some (.getfield 66, 3, 6, 5) := by decide +kernel
theorem p91_134 {s0 : Int} {q0 q1 q2 q3 q4 q5 q6 : MV} {ds : Ds} {m : Mm} {Q : Ds → Mm → List MV → Prop} : WP 91 134 [q0, q1, q2, q3, q4, q5, q6] [(2, s0)] ds m Q = ((dk ds s0 = 6 ∧ WP 91 137 [q0, q1, q2, q3, q4, q5, q6] [(2, m s0 5)] ds m Q)) := P_gd k91_134 rfl
set_option maxRecDepth 20000 in
theorem k91_137 : mjCode 91 137 = some (.aload_n 0, 1, 0, 0) := by decide +kernel
theorem p91_137 {l0 s0 : Int} {q1 q2 q3 q4 q5 q6 : MV} {ds : Ds} {m : Mm} {Q : Ds → Mm → List MV → Prop} : WP 91 137 [(2, l0), q1, q2, q3, q4, q5, q6] [(2, s0)] ds m Q = (WP 91 138 [(2, l0), q1, q2, q3, q4, q5, q6] [(2, l0), (2, s0)] ds m Q) := P_nx k91_137 rfl
set_option maxRecDepth 20000 in
theorem k91_138 : mjCode 91 138 = some (.getfield 49, 3, 6, 1) := by decide +kernel
theorem p91_138 {s0 s1 : Int} {q0 q1 q2 q3 q4 q5 q6 : MV} {ds : Ds} {m : Mm} {Q : Ds → Mm → List MV → Prop} : WP 91 138 [q0, q1, q2, q3, q4, q5, q6] [(2, s0), (2, s1)] ds m Q = ((dk ds s0 = 6 ∧ WP 91 141 [q0, q1, q2, q3, q4, q5, q6] [(2, m s0 1), (2, s1)] ds m Q)) := P_gd k91_138 rfl
set_option maxRecDepth 20000 in
theorem k91_141 : mjCode 91 141 = some (.iload_n 2, 1, 0, 0) := by decide +kernel
theorem p91_141 {l2 s0 s1 : Int} {q0 q1 q3 q4 q5 q6 : MV} {ds : Ds} {m : Mm} {Q : Ds → Mm → List MV → Prop} : WP 91 141 [q0, q1, (0, l2), q3, q4, q5, q6] [(2, s0), (2, s1)] ds m Q = (WP 91 142 [q0, q1, (0, l2), q3, q4, q5, q6] [(0, l2), (2, s0), (2, s1)] ds m Q) := P_nx k91_141 rfl
set_option maxRecDepth 20000 in
theorem k91_142 : mjCode 91 142 = some (.iload_n 3, 1, 0, 0) := by decide +kernel
theorem p91_142 {l3 s0 s1 s2 : Int} {q0 q1 q2 q4 q5 q6 : MV} {ds : Ds} {m : Mm} {Q : Ds → Mm → List MV → Prop} : WP 91 142 [q0, q1, q2, (0, l3), q4, q5, q6] [(0, s0), (2, s1), (2, s2)] ds m Q = (WP 91 143 [q0, q1, q2, (0, l3), q4, q5, q6] [(0, l3), (0, s0), (2, s1), (2, s2)] ds m Q) := P_nx k91_142 rfl
set_option maxRecDepth 20000 in
theorem k91_143 : mjCode 91 143 = some (.invokevirtual 191, 3, 52, 4) := by decide +kernel
theorem p91_143 {s0 s1 s2 s3 : Int} {q0 q1 q2 q3 q4 q5 q6 : MV} {ds : Ds} {m : Mm} {Q : Ds → Mm → List MV → Prop} : WP 91 143 [q0, q1, q2, q3, q4, q5, q6] [(0, s0), (0, s1), (2, s2), (2, s3)] ds m Q = ((dk ds s3 = 5 ∧ WP 51 0 [(2, s3), (2, s2), (0, s1), (0, s0), (3, 0)] [] ds m (fun d2 m2 r2 => WP 91 146 [q0, q1, q2, q3, q4, q5, q6] (r2 ++ []) d2 m2 Q))) := P_cv k91_143 mx51 mo51 rfl rfl rfl rfl rfl rfl rfl rfl
set_option maxRecDepth 20000 in
theorem k91_146 : mjCode 91 146 = some (.ifCond .eq 22, 3, 168, 0) := by decide +kernel
theorem p91_146 {s0 : Int} {q0 q1 q2 q3 q4 q5 q6 : MV} {ds : Ds} {m : Mm} {Q : Ds → Mm → List MV → Prop} : WP 91 146 [q0, q1, q2, q3, q4, q5, q6] [(0, s0)] ds m Q = (if s0 = 0 then WP 91 168 [q0, q1, q2, q3, q4, q5, q6] [] ds m Q else WP 91 149 [q0, q1, q2, q3, q4, q5, q6] [] ds m Q) := P_if k91_146 rfl
set_option maxRecDepth 20000 in
theorem k91_149 : mjCode 91 149 = some (.aload_n 0, 1, 0, 0) := by decide +kernel
theorem p91_149 {l0 : Int} {q1 q2 q3 q4 q5 q6 : MV} {ds : Ds} {m : Mm} {Q : Ds → Mm → List MV → Prop} : WP 91 149 [(2, l0), q1, q2, q3, q4, q5, q6] [] ds m Q = (WP 91 150 [(2, l0), q1, q2, q3, q4, q5, q6] [(2, l0)] ds m Q) := P_nx k91_149 rfl
set_option maxRecDepth 20000 in
theorem k91_150 : mjCode 91 150 = some (.sipush 1000, 3, 0, 0) := by decide +kernel
theorem p91_150 {s0 : Int} {q0 q1 q2 q3 q4 q5 q6 : MV} {ds : Ds} {m : Mm} {Q : Ds → Mm → List MV → Prop} : WP 91 150 [q0, q1, q2, q3, q4, q5, q6] [(2, s0)] ds m Q = (WP 91 153 [q0, q1, q2, q3, q4, q5, q6] [(0, 1000), (2, s0)] ds m Q) := P_nx k91_150 rfl
set_option maxRecDepth 20000 in
theorem k91_153 : mjCode 91 153 = some (.iload 4, 2, 0, 0) := by decide +kernel
theorem p91_153 {l4 s0 s1 : Int} {q0 q1 q2 q3 q5 q6 : MV} {ds : Ds} {m : Mm} {Q : Ds → Mm → List MV → Prop} : WP 91 153 [q0, q1, q2, q3, (0, l4), q5, q6] [(0, s0), (2, s1)] ds m Q = (WP 91 155 [q0, q1, q2, q3, (0, l4), q5, q6] [(0, l4), (0, s0), (2, s1)] ds m Q) := P_nx k91_153 rfl
set_option maxRecDepth 20000 in
theorem k91_155 : mjCode 91 155 = some (.imul, 1, 0, 0) := by decide +kernel
theorem p91_155 {s0 s1 s2 : Int} {q0 q1 q2 q3 q4 q5 q6 : MV} {ds : Ds} {m : Mm} {Q : Ds → Mm → List MV → Prop} : WP 91 155 [q0, q1, q2, q3, q4, q5, q6] [(0, s0), (0, s1), (2, s2)] ds m Q = (WP 91 156 [q0, q1, q2, q3, q4, q5, q6] [(0, w32 (s1 * s0)), (2, s2)] ds m Q) := P_nx k91_155 rfl
set_option maxRecDepth 20000 in
theorem k91_156 : mjCode 91 156 = some (.bipush 10, 2, 0, 0) := by decide +kernel
theorem p91_156 {s0 s1 : Int} {q0 q1 q2 q3 q4 q5 q6 : MV} {ds : Ds} {m : Mm} {Q : Ds → Mm → List MV → Prop} : WP 91 156 [q0, q1, q2, q3, q4, q5, q6] [(0, s0), (2, s1)] ds m Q = (WP 91 158 [q0, q1, q2, q3, q4, q5, q6] [(0, 10), (0, s0), (2, s1)] ds m Q) := P_nx k91_156 rfl
set_option maxRecDepth 20000 in
theorem k91_158 : mjCode 91 158 = some (.iload 5, 2, 0, 0) := by decide +kernel
theorem p91_158 {l5 s0 s1 s2 : Int} {q0 q1 q2 q3 q4 q6 : MV} {ds : Ds} {m : Mm} {Q : Ds → Mm → List MV → Prop} : WP 91 158 [q0, q1, q2, q3, q4, (0, l5), q6] [(0, s0), (0, s1), (2, s2)] ds m Q = (WP 91 160 [q0, q1, q2, q3, q4, (0, l5), q6] [(0, l5), (0, s0), (0, s1), (2, s2)] ds m Q) := P_nx k91_158 rfl
set_option maxRecDepth 20000 in
theorem k91_160 : mjCode 91 160 = some (.imul, 1, 0, 0) := by decide +kernel
theorem p91_160 {s0 s1 s2 s3 : Int} {q0 q1 q2 q3 q4 q5 q6 : MV} {ds : Ds} {m : Mm} {Q : Ds → Mm → List MV → Prop} : WP 91 160 [q0, q1, q2, q3, q4, q5, q6] [(0, s0), (0, s1), (0, s2), (2, s3)] ds m Q = (WP 91 161 [q0, q1, q2, q3, q4, q5, q6] [(0, w32 (s1 * s0)), (0, s2), (2, s3)] ds m Q) := P_nx k91_160 rfl
set_option maxRecDepth 20000 in
theorem k91_161 : mjCode 91 161 = some (.iadd, 1, 0, 0) := by decide +kernel
theorem p91_161 {s0 s1 s2 : Int} {q0 q1 q2 q3 q4 q5 q6 : MV} {ds : Ds} {m : Mm} {Q : Ds → Mm → List MV → Prop} : WP 91 161 [q0, q1, q2, q3, q4, q5, q6] [(0, s0), (0, s1), (2, s2)] ds m Q = (WP 91 162 [q0, q1, q2, q3, q4, q5, q6] [(0, w32 (s1 + s0)), (2, s2)] ds m Q) := P_nx k91_161 rfl
set_option maxRecDepth 20000 in
theorem k91_162 : mjCode 91 162 = some (.iload 6, 2, 0, 0) := by decide +kernel
theorem p91_162 {l6 s0 s1 : Int} {q0 q1 q2 q3 q4 q5 : MV} {ds : Ds} {m : Mm} {Q : Ds → Mm → List MV → Prop} : WP 91 162 [q0, q1, q2, q3, q4, q5, (0, l6)] [(0, s0), (2, s1)] ds m Q = (WP 91 164 [q0, q1, q2, q3, q4, q5, (0, l6)] [(0, l6), (0, s0), (2, s1)] ds m Q) := P_nx k91_162 rfl
set_option maxRecDepth 20000 in
theorem k91_164 : mjCode 91 164 = some (.iadd, 1, 0, 0) := by decide +kernel
theorem p91_164 {s0 s1 s2 : Int} {q0 q1 q2 q3 q4 q5 q6 : MV} {ds : Ds} {m : Mm} {Q : Ds → Mm → List MV → Prop} : WP 91 164 [q0, q1, q2, q3, q4, q5, q6] [(0, s0), (0, s1), (2, s2)] ds m Q = (WP 91 165 [q0, q1, q2, q3, q4, q5, q6] [(0, w32 (s1 + s0)), (2, s2)] ds m Q) := P_nx k91_164 rfl
set_option maxRecDepth 20000 in
theorem k91_165 : mjCode 91 165 = some (.invokevirtual 288, 3, 101, 2) := by decide +kernel
theorem p91_165 {s0 s1 : Int} {q0 q1 q2 q3 q4 q5 q6 : MV} {ds : Ds} {m : Mm} {Q : Ds → Mm → List MV → Prop} : WP 91 165 [q0, q1, q2, q3, q4, q5, q6] [(0, s0), (2, s1)] ds m Q = ((dk ds s1 = 6 ∧ WP 100 0 [(2, s1), (0, s0)] [] ds m (fun d2 m2 r2 => WP 91 168 [q0, q1, q2, q3, q4, q5, q6] (r2 ++ []) d2 m2 Q))) := P_cv k91_165 mx100 mo100 rfl rfl rfl rfl rfl rfl rfl rfl
set_option maxRecDepth 20000 in
theorem k91_168 : mjCode 91 168 = some (.aload_n 0, 1, 0, 0) := by decide +kernel
theorem p91_168 {l0 : Int} {q1 q2 q3 q4 q5 q6 : MV} {ds : Ds} {m : Mm} {Q : Ds → Mm → List MV → Prop} : WP 91 168 [(2, l0), q1, q2, q3, q4, q5, q6] [] ds m Q = (WP 91 169 [(2, l0), q1, q2, q3, q4, q5, q6] [(2, l0)] ds m Q) := P_nx k91_168 rfl
set_option maxRecDepth 20000 in
theorem k91_169 : mjCode 91 169 = some (.getfield 49, 3, 6, 1) := by decide +kernel
theorem p91_169 {s0 : Int} {q0 q1 q2 q3 q4 q5 q6 : MV} {ds : Ds} {m : Mm} {Q : Ds → Mm → List MV → Prop} : WP 91 169 [q0, q1, q2, q3, q4, q5, q6] [(2, s0)] ds m Q = ((dk ds s0 = 6 ∧ WP 91 172 [q0, q1, q2, q3, q4, q5, q6] [(2, m s0 1)] ds m Q)) := P_gd k91_169 rfl
set_option maxRecDepth 20000 in
theorem k91_172 : mjCode 91 172 = some (.iload_n 1, 1, 0, 0) := by decide +kernel
theorem p91_172 {l1 s0 : Int} {q0 q2 q3 q4 q5 q6 : MV} {ds : Ds} {m : Mm} {Q : Ds → Mm → List MV → Prop} : WP 91 172 [q0, (0, l1), q2, q3, q4, q5, q6] [(2, s0)] ds m Q = (WP 91 173 [q0, (0, l1), q2, q3, q4, q5, q6] [(0, l1), (2, s0)] ds m Q) := P_nx k91_172 rfl
set_option maxRecDepth 20000 in
theorem k91_173 : mjCode 91 173 = some (.invokevirtual 107, 3, 38, 2) := by decide +kernel
theorem p91_173 {s0 s1 : Int} {q0 q1 q2 q3 q4 q5 q6 : MV} {ds : Ds} {m : Mm} {Q : Ds → Mm → List MV → Prop} : WP 91 173 [q0, q1, q2, q3, q4, q5, q6] [(0, s0), (2, s1)] ds m Q = ((dk ds s1 = 3 ∧ WP 37 0 [(2, s1), (0, s0)] [] ds m (fun d2 m2 r2 => WP 91 176 [q0, q1, q2, q3, q4, q5, q6] (r2 ++ []) d2 m2 Q))) := P_cv k91_173 mx37 mo37 rfl rfl rfl rfl rfl rfl rfl rfl
set_option maxRecDepth 20000 in
theorem k91_176 : mjCode 91 176 = some (.iinc 6 1, 3, 0, 0) := by decide +kernel
theorem p91_176 {l6 : Int} {q0 q1 q2 q3 q4 q5 : MV} {ds : Ds} {m : Mm} {Q : Ds → Mm → List MV → Prop} : WP 91 176 [q0, q1, q2, q3, q4, q5, (0, l6)] [] ds m Q = (WP 91 179 [q0, q1, q2, q3, q4, q5, (0, w32 (l6 + 1))] [] ds m Q) := P_nx k91_176 rfl
set_option maxRecDepth 20000 in
theorem k91_179 : mjCode 91 179 = some (.goto (-87), 3, 92, 0) := by decide +kernel
theorem p91_179 {q0 q1 q2 q3 q4 q5 q6 : MV} {ds : Ds} {m : Mm} {Q : Ds → Mm → List MV → Prop} : WP 91 179 [q0, q1, q2, q3, q4, q5, q6] [] ds m Q = (WP 91 92 [q0, q1, q2, q3, q4, q5, q6] [] ds m Q) := P_nx k91_179 rfl
set_option maxRecDepth 20000 in
theorem k91_182 : mjCode 91 182 = some (.iinc 5 1, 3, 0, 0) := by decide +kernel
theorem p91_182 {l5 : Int} {q0 q1 q2 q3 q4 q6 : MV} {ds : Ds} {m : Mm} {Q : Ds → Mm → List MV → Prop} : WP 91 182 [q0, q1, q2, q3, q4, (0, l5), q6] [] ds m Q = (WP 91 185 [q0, q1, q2, q3, q4, (0, w32 (l5 + 1)), q6] [] ds m Q) := P_nx k91_182 rfl
set_option maxRecDepth 20000 in
theorem k91_185 : mjCode 91 185 = some (.goto (-110), 3, 75, 0) := by decide +kernel
theorem p91_185 {q0 q1 q2 q3 q4 q5 q6 : MV} {ds : Ds} {m : Mm} {Q : Ds → Mm → List MV → Prop} : WP 91 185 [q0, q1, q2, q3, q4, q5, q6] [] ds m Q = (WP 91 75 [q0, q1, q2, q3, q4, q5, q6] [] ds m Q) := P_nx k91_185 rfl
set_option maxRecDepth 20000 in
theorem k91_188 : mjCode 91 188 = some (.iinc 4 1, 3, 0, 0) := by decide +kernel
theorem p91_188 {l4 : Int} {q0 q1 q2 q3 q5 q6 : MV} {ds : Ds} {m : Mm} {Q : Ds → Mm → List MV → Prop} : WP 91 188 [q0, q1, q2, q3, (0, l4), q5, q6] [] ds m Q = (WP 91 191 [q0, q1, q2, q3, (0, w32 (l4 + 1)), q5, q6] [] ds m Q) := P_nx k91_188 rfl
set_option maxRecDepth 20000 in
theorem k91_191 : mjCode 91 191 = some (.goto (-126), 3, 65, 0) := by decide +kernel
theorem p91_191 {q0 q1 q2 q3 q4 q5 q6 : MV} {ds : Ds} {m : Mm} {Q : Ds → Mm → List MV → Prop} : WP 91 191 [q0, q1, q2, q3, q4, q5, q6] [] ds m Q = (WP 91 65 [q0, q1, q2, q3, q4, q5, q6] [] ds m Q) := P_nx k91_191 rfl
set_option maxRecDepth 20000 in
theorem k91_194 : mjCode 91 194 = some (.aload_n 0, 1, 0, 0) := by decide +kernel
theorem p91_194 {l0 : Int} {q1 q2 q3 q4 q5 q6 : MV} {ds : Ds} {m : Mm} {Q : Ds → Mm → List MV → Prop} : WP 91 194 [(2, l0), q1, q2, q3, q4, q5, q6] [] ds m Q = (WP 91 195 [(2, l0), q1, q2, q3, q4, q5, q6] [(2, l0)] ds m Q) := P_nx k91_194 rfl
set_option maxRecDepth 20000 in
theorem k91_195 : mjCode 91 195 = some (.getfield 276, 3, 6, 11) := by decide +kernel
theorem p91_195 {s0 : Int} {q0 q1 q2 q3 q4 q5 q6 : MV} {ds : Ds} {m : Mm} {Q : Ds → Mm → List MV → Prop} : WP 91 195 [q0, q1, q2, q3, q4, q5, q6] [(2, s0)] ds m Q = ((dk ds s0 = 6 ∧ WP 91 198 [q0, q1, q2, q3, q4, q5, q6] [(0, m s0 11)] ds m Q)) := P_gd k91_195 rfl
set_option maxRecDepth 20000 in
theorem k91_198 : mjCode 91 198 = some (.ireturn, 1, 0, 0) := by decide +kernel
theorem p91_198 {s0 : Int} {q0 q1 q2 q3 q4 q5 q6 : MV} {ds : Ds} {m : Mm} {Q : Ds → Mm → List MV → Prop} : WP 91 198 [q0, q1, q2, q3, q4, q5, q6] [(0, s0)] ds m Q = (Q ds m [(0, s0)]) := P_ri k91_198 rk91
set_option maxRecDepth 20000 in
theorem k92_0 : mjCode 92 0 = some (.iload_n 1, 1, 0, 0) := by decide +kernel
theorem p92_0 {l1 : Int} {q0 : MV} {ds : Ds} {m : Mm} {Q : Ds → Mm → List MV → Prop} : WP 92 0 [q0, (0, l1)] [] ds m Q = (WP 92 1 [q0, (0, l1)] [(0, l1)] ds m Q) := P_nx k92_0 rfl
set_option maxRecDepth 20000 in
theorem k92_1 : mjCode 92 1 = some (.ifCond .lt 29, 3, 30, 0) := by decide +kernel
theorem p92_1 {s0 : Int} {q0 q1 : MV} {ds : Ds} {m : Mm} {Q : Ds → Mm → List MV → Prop} : WP 92 1 [q0, q1] [(0, s0)] ds m Q = (if s0 < 0 then WP 92 30 [q0, q1] [] ds m Q else WP 92 4 [q0, q1] [] ds m Q) := P_if k92_1 rfl
set_option maxRecDepth 20000 in
theorem k92_4 : mjCode 92 4 = some (.iload_n 1, 1, 0, 0) := by decide +kernel
theorem p92_4 {l1 : Int} {q0 : MV} {ds : Ds} {m : Mm} {Q : Ds → Mm → List MV → Prop} : WP 92 4 [q0, (0, l1)] [] ds m Q = (WP 92 5 [q0, (0, l1)] [(0, l1)] ds m Q) := P_nx k92_4 rfl
set_option maxRecDepth 20000 in
theorem k92_5 : mjCode 92 5 = some (.aload_n 0, 1, 0, 0) := by decide +kernel
theorem p92_5 {l0 s0 : Int} {q1 : MV} {ds : Ds} {m : Mm} {Q : Ds → Mm → List MV → Prop} : WP 92 5 [(2, l0), q1] [(0, s0)] ds m Q = (WP 92 6 [(2, l0), q1] [(2, l0), (0, s0)] ds m Q) := P_nx k92_5 rfl
set_option maxRecDepth 20000 in
theorem k92_6 : mjCode 92 6 = some (.getfield 276, 3, 6, 11) := by decide +kernel
theorem p92_6 {s0 s1 : Int} {q0 q1 : MV} {ds : Ds} {m : Mm} {Q : Ds → Mm → List MV → Prop} : WP 92 6 [q0, q1] [(2, s0), (0, s1)] ds m Q = ((dk ds s0 = 6 ∧ WP 92 9 [q0, q1] [(0, m s0 11), (0, s1)] ds m Q)) := P_gd k92_6 rfl
set_option maxRecDepth 20000 in
theorem k92_9 : mjCode 92 9 = some (.if_icmp .ge 21, 3, 30, 0) := by decide +kernel
theorem p92_9 {s0 s1 : Int} {q0 q1 : MV} {ds : Ds} {m : Mm} {Q : Ds → Mm → List MV → Prop} : WP 92 9 [q0, q1] [(0, s0), (0, s1)] ds m Q = (if s1 < s0 then WP 92 12 [q0, q1] [] ds m Q else WP 92 30 [q0, q1] [] ds m Q) := P_if k92_9 rfl
set_option maxRecDepth 20000 in
theorem k92_12 : mjCode 92 12 = some (.iload_n 1, 1, 0, 0) := by decide +kernel
theorem p92_12 {l1 : Int} {q0 : MV} {ds : Ds} {m : Mm} {Q : Ds → Mm → List MV → Prop} : WP 92 12 [q0, (0, l1)] [] ds m Q = (WP 92 13 [q0, (0, l1)] [(0, l1)] ds m Q) := P_nx k92_12 rfl
set_option maxRecDepth 20000 in
theorem k92_13 : mjCode 92 13 = some (.aload_n 0, 1, 0, 0) := by decide +kernel
theorem p92_13 {l0 s0 : Int} {q1 : MV} {ds : Ds} {m : Mm} {Q : Ds → Mm → List MV → Prop} : WP 92 13 [(2, l0), q1] [(0, s0)] ds m Q = (WP 92 14 [(2, l0), q1] [(2, l0), (0, s0)] ds m Q) := P_nx k92_13 rfl
set_option maxRecDepth 20000 in
theorem k92_14 : mjCode 92 14 = some (.getfield 28, 3, 6, 10) := by decide +kernel
theorem p92_14 {s0 s1 : Int} {q0 q1 : MV} {ds : Ds} {m : Mm} {Q : Ds → Mm → List MV → Prop} : WP 92 14 [q0, q1] [(2, s0), (0, s1)] ds m Q = ((dk ds s0 = 6 ∧ WP 92 17 [q0, q1] [(2, m s0 10), (0, s1)] ds m Q)) := P_gd k92_14 rfl
set_option maxRecDepth 20000 in
theorem k92_17 : mjCode 92 17 = some (.arraylength, 1, 0, 0) := by decide +kernel
theorem p92_17 {s0 s1 : Int} {q0 q1 : MV} {ds : Ds} {m : Mm} {Q : Ds → Mm → List MV → Prop} : WP 92 17 [q0, q1] [(2, s0), (0, s1)] ds m Q = (((10 ≤ dk ds s0 ∧ dk ds s0 ≤ 14) ∧ WP 92 18 [q0, q1] [(0, (dl ds s0 : Int)), (0, s1)] ds m Q)) := P_gd k92_17 rfl
set_option maxRecDepth 20000 in
theorem k92_18 : mjCode 92 18 = some (.if_icmp .ge 12, 3, 30, 0) := by decide +kernel
theorem p92_18 {s0 s1 : Int} {q0 q1 : MV} {ds : Ds} {m : Mm} {Q : Ds → Mm → List MV → Prop} : WP 92 18 [q0, q1] [(0, s0), (0, s1)] ds m Q = (if s1 < s0 then WP 92 21 [q0, q1] [] ds m Q else WP 92 30 [q0, q1] [] ds m Q) := P_if k92_18 rfl
set_option maxRecDepth 20000 in
theorem k92_21 : mjCode 92 21 = some (.aload_n 0, 1, 0, 0) := by decide +kernel
theorem p92_21 {l0 : Int} {q1 : MV} {ds : Ds} {m : Mm} {Q : Ds → Mm → List MV → Prop} : WP 92 21 [(2, l0), q1] [] ds m Q = (WP 92 22 [(2, l0), q1] [(2, l0)] ds m Q) := P_nx k92_21 rfl
set_option maxRecDepth 20000 in
theorem k92_22 : mjCode 92 22 = some (.getfield 28, 3, 6, 10) := by decide +kernel
theorem p92_22 {s0 : Int} {q0 q1 : MV} {ds : Ds} {m : Mm} {Q : Ds → Mm → List MV → Prop} : WP 92 22 [q0, q1] [(2, s0)] ds m Q = ((dk ds s0 = 6 ∧ WP 92 25 [q0, q1] [(2, m s0 10)] ds m Q)) := P_gd k92_22 rfl
set_option maxRecDepth 20000 in
theorem k92_25 : mjCode 92 25 = some (.iload_n 1, 1, 0, 0) := by decide +kernel
theorem p92_25 {l1 s0 : Int} {q0 : MV} {ds : Ds} {m : Mm} {Q : Ds → Mm → List MV → Prop} : WP 92 25 [q0, (0, l1)] [(2, s0)] ds m Q = (WP 92 26 [q0, (0, l1)] [(0, l1), (2, s0)] ds m Q) := P_nx k92_25 rfl
set_option maxRecDepth 20000 in
theorem k92_26 : mjCode 92 26 = some (.iaload, 1, 0, 0) := by decide +kernel
theorem p92_26 {s0 s1 : Int} {q0 q1 : MV} {ds : Ds} {m : Mm} {Q : Ds → Mm → List MV → Prop} : WP 92 26 [q0, q1] [(0, s0), (2, s1)] ds m Q = ((dk ds s1 = 10 ∧ 0 ≤ s0 ∧ s0 < dl ds s1 ∧ WP 92 27 [q0, q1] [(0, m s1 s0)] ds m Q)) := P_g3 k92_26 rfl
set_option maxRecDepth 20000 in
theorem k92_27 : mjCode 92 27 = some (.goto 4, 3, 31, 0) := by decide +kernel
theorem p92_27 {s0 : Int} {q0 q1 : MV} {ds : Ds} {m : Mm} {Q : Ds → Mm → List MV → Prop} : WP 92 27 [q0, q1] [(0, s0)] ds m Q = (WP 92 31 [q0, q1] [(0, s0)] ds m Q) := P_nx k92_27 rfl
set_option maxRecDepth 20000 in
theorem k92_30 : mjCode 92 30 = some (.iconst (-1), 1, 0, 0) := by decide +kernel
theorem p92_30 {q0 q1 : MV} {ds : Ds} {m : Mm} {Q : Ds → Mm → List MV → Prop} : WP 92 30 [q0, q1] [] ds m Q = (WP 92 31 [q0, q1] [(0, (-1))] ds m Q) := P_nx k92_30 rfl
set_option maxRecDepth 20000 in
theorem k92_31 : mjCode 92 31 = some (.ireturn, 1, 0, 0) := by decide +kernel
theorem p92_31 {s0 : Int} {q0 q1 : MV} {ds : Ds} {m : Mm} {Q : Ds → Mm → List MV → Prop} : WP 92 31 [q0, q1] [(0, s0)] ds m Q = (Q ds m [(0, s0)]) := P_ri k92_31 rk92
set_option maxRecDepth 20000 in
theorem k93_0 : mjCode 93 0 = some (.aload_n 0, 1, 0, 0) := by decide +kernel
theorem p93_0 {l0 : Int} {q1 q2 q3 q4 q5 : MV} {ds : Ds} {m : Mm} {Q : Ds → Mm → List MV → Prop} : WP 93 0 [(2, l0), q1, q2, q3, q4, q5] [] ds m Q = (WP 93 1 [(2, l0), q1, q2, q3, q4, q5] [(2, l0)] ds m Q) := P_nx k93_0 rfl
set_option maxRecDepth 20000 in
theorem k93_1 : mjCode 93 1 = some (.iconst 0, 1, 0, 0) := by decide +kernel
theorem p93_1 {s0 : Int} {q0 q1 q2 q3 q4 q5 : MV} {ds : Ds} {m : Mm} {Q : Ds → Mm → List MV → Prop} : WP 93 1 [q0, q1, q2, q3, q4, q5] [(2, s0)] ds m Q = (WP 93 2 [q0, q1, q2, q3, q4, q5] [(0, 0), (2, s0)] ds m Q) := P_nx k93_1 rfl
set_option maxRecDepth 20000 in
theorem k93_2 : mjCode 93 2 = some (.putfield 291, 3, 6, 13) := by decide +kernel
theorem p93_2 {s0 s1 : Int} {q0 q1 q2 q3 q4 q5 : MV} {ds : Ds} {m : Mm} {Q : Ds → Mm → List MV → Prop} : WP 93 2 [q0, q1, q2, q3, q4, q5] [(0, s0), (2, s1)] ds m Q = ((dk ds s1 = 6 ∧ WP 93 5 [q0, q1, q2, q3, q4, q5] [] ds (up m s1 13 s0) Q)) := P_pf k93_2 rfl
set_option maxRecDepth 20000 in
theorem k93_5 : mjCode 93 5 = some (.aload_n 0, 1, 0, 0) := by decide +kernel
theorem p93_5 {l0 : Int} {q1 q2 q3 q4 q5 : MV} {ds : Ds} {m : Mm} {Q : Ds → Mm → List MV → Prop} : WP 93 5 [(2, l0), q1, q2, q3, q4, q5] [] ds m Q = (WP 93 6 [(2, l0), q1, q2, q3, q4, q5] [(2, l0)] ds m Q) := P_nx k93_5 rfl
set_option maxRecDepth 20000 in
theorem k93_6 : mjCode 93 6 = some (.getfield 45, 3, 6, 0) := by decide +kernel
theorem p93_6 {s0 : Int} {q0 q1 q2 q3 q4 q5 : MV} {ds : Ds} {m : Mm} {Q : Ds → Mm → List MV → Prop} : WP 93 6 [q0, q1, q2, q3, q4, q5] [(2, s0)] ds m Q = ((dk ds s0 = 6 ∧ WP 93 9 [q0, q1, q2, q3, q4, q5] [(2, m s0 0)] ds m Q)) := P_gd k93_6 rfl
set_option maxRecDepth 20000 in
theorem k93_9 : mjCode 93 9 = some (.iload_n 1, 1, 0, 0) := by decide +kernel
theorem p93_9 {l1 s0 : Int} {q0 q2 q3 q4 q5 : MV} {ds : Ds} {m : Mm} {Q : Ds → Mm → List MV → Prop} : WP 93 9 [q0, (0, l1), q2, q3, q4, q5] [(2, s0)] ds m Q = (WP 93 10 [q0, (0, l1), q2, q3, q4, q5] [(0, l1), (2, s0)] ds m Q) := P_nx k93_9 rfl
set_option maxRecDepth 20000 in
theorem k93_10 : mjCode 93 10 = some (.invokevirtual 101, 3, 25, 2) := by decide +kernel
theorem p93_10 {s0 s1 : Int} {q0 q1 q2 q3 q4 q5 : MV} {ds : Ds} {m : Mm} {Q : Ds → Mm → List MV → Prop} : WP 93 10 [q0, q1, q2, q3, q4, q5] [(0, s0), (2, s1)] ds m Q = ((dk ds s1 = 3 ∧ WP 24 0 [(2, s1), (0, s0)] [] ds m (fun d2 m2 r2 => WP 93 13 [q0, q1, q2, q3, q4, q5] (r2 ++ []) d2 m2 Q))) := P_cv k93_10 mx24 mo24 rfl rfl rfl rfl rfl rfl rfl rfl
set_option maxRecDepth 20000 in
theorem k93_13 : mjCode 93 13 = some (.bipush 8, 2, 0, 0) := by decide +kernel
theorem p93_13 {s0 : Int} {q0 q1 q2 q3 q4 q5 : MV} {ds : Ds} {m : Mm} {Q : Ds → Mm → List MV → Prop} : WP 93 13 [q0, q1, q2, q3, q4, q5] [(0, s0)] ds m Q = (WP 93 15 [q0, q1, q2, q3, q4, q5] [(0, 8), (0, s0)] ds m Q) := P_nx k93_13 rfl
set_option maxRecDepth 20000 in
theorem k93_15 : mjCode 93 15 = some (.if_icmp .eq 5, 3, 20, 0) := by decide +kernel
theorem p93_15 {s0 s1 : Int} {q0 q1 q2 q3 q4 q5 : MV} {ds : Ds} {m : Mm} {Q : Ds → Mm → List MV → Prop} : WP 93 15 [q0, q1, q2, q3, q4, q5] [(0, s0), (0, s1)] ds m Q = (if s1 = s0 then WP 93 20 [q0, q1, q2, q3, q4, q5] [] ds m Q else WP 93 18 [q0, q1, q2, q3, q4, q5] [] ds m Q) := P_if k93_15 rfl
set_option maxRecDepth 20000 in
theorem k93_18 : mjCode 93 18 = some (.iconst (-1), 1, 0, 0) := by decide +kernel
theorem p93_18 {q0 q1 q2 q3 q4 q5 : MV} {ds : Ds} {m : Mm} {Q : Ds → Mm → List MV → Prop} : WP 93 18 [q0, q1, q2, q3, q4, q5] [] ds m Q = (WP 93 19 [q0, q1, q2, q3, q4, q5] [(0, (-1))] ds m Q) := P_nx k93_18 rfl
set_option maxRecDepth 20000 in
theorem k93_19 : mjCode 93 19 = some (.ireturn, 1, 0, 0) := by decide +kernel
theorem p93_19 {s0 : Int} {q0 q1 q2 q3 q4 q5 : MV} {ds : Ds} {m : Mm} {Q : Ds → Mm → List MV → Prop} : WP 93 19 [q0, q1, q2, q3, q4, q5] [(0, s0)] ds m Q = (Q ds m [(0, s0)]) := P_ri k93_19 rk93
set_option maxRecDepth 20000 in
theorem k93_20 : mjCode 93 20 = some (.aload_n 0, 1, 0, 0) := by decide +kernel
theorem p93_20 {l0 : Int} {q1 q2 q3 q4 q5 : MV} {ds : Ds} {m : Mm} {Q : Ds → Mm → List MV → Prop} : WP 93 20 [(2, l0), q1, q2, q3, q4, q5] [] ds m Q = (WP 93 21 [(2, l0), q1, q2, q3, q4, q5] [(2, l0)] ds m Q) := P_nx k93_20 rfl
set_option maxRecDepth 20000 in
theorem k93_21 : mjCode 93 21 = some (.getfield 49, 3, 6, 1) := by decide +kernel
theorem p93_21 {s0 : Int} {q0 q1 q2 q3 q4 q5 : MV} {ds : Ds} {m : Mm} {Q : Ds → Mm → List MV → Prop} : WP 93 21 [q0, q1, q2, q3, q4, q5] [(2, s0)] ds m Q = ((dk ds s0 = 6 ∧ WP 93 24 [q0, q1, q2, q3, q4, q5] [(2, m s0 1)] ds m Q)) := P_gd k93_21 rfl
set_option maxRecDepth 20000 in
theorem k93_24 : mjCode 93 24 = some (.aload_n 0, 1, 0, 0) := by decide +kernel
theorem p93_24 {l0 s0 : Int} {q1 q2 q3 q4 q5 : MV} {ds : Ds} {m : Mm} {Q : Ds → Mm → List MV → Prop} : WP 93 24 [(2, l0), q1, q2, q3, q4, q5] [(2, s0)] ds m Q = (WP 93 25 [(2, l0), q1, q2, q3, q4, q5] [(2, l0), (2, s0)] ds m Q) := P_nx k93_24 rfl
set_option maxRecDepth 20000 in
theorem k93_25 : mjCode 93 25 = some (.getfield 45, 3, 6, 0) := by decide +kernel
theorem p93_25 {s0 s1 : Int} {q0 q1 q2 q3 q4 q5 : MV} {ds : Ds} {m : Mm} {Q : Ds → Mm → List MV → Prop} : WP 93 25 [q0, q1, q2, q3, q4, q5] [(2, s0), (2, s1)] ds m Q = ((dk ds s0 = 6 ∧ WP 93 28 [q0, q1, q2, q3, q4, q5] [(2, m s0 0), (2, s1)] ds m Q)) := P_gd k93_25 rfl
set_option maxRecDepth 20000 in
theorem k93_28 : mjCode 93 28 = some (.invokevirtual 181, 3, 24, 2) := by decide +kernel
theorem p93_28 {s0 s1 : Int} {q0 q1 q2 q3 q4 q5 : MV} {ds : Ds} {m : Mm} {Q : Ds → Mm → List MV → Prop} : WP 93 28 [q0, q1, q2, q3, q4, q5] [(2, s0), (2, s1)] ds m Q = ((dk ds s1 = 3 ∧ WP 23 0 [(2, s1), (2, s0), (3, 0)] [] ds m (fun d2 m2 r2 => WP 93 31 [q0, q1, q2, q3, q4, q5] (r2 ++ []) d2 m2 Q))) := P_cv k93_28 mx23 mo23 rfl rfl rfl rfl rfl rfl rfl rfl
set_option maxRecDepth 20000 in
theorem k93_31 : mjCode 93 31 = some (.aload_n 0, 1, 0, 0) := by decide +kernel
theorem p93_31 {l0 : Int} {q1 q2 q3 q4 q5 : MV} {ds : Ds} {m : Mm} {Q : Ds → Mm → List MV → Prop} : WP 93 31 [(2, l0), q1, q2, q3, q4, q5] [] ds m Q = (WP 93 32 [(2, l0), q1, q2, q3, q4, q5] [(2, l0)] ds m Q) := P_nx k93_31 rfl
set_option maxRecDepth 20000 in
theorem k93_32 : mjCode 93 32 = some (.aload_n 0, 1, 0, 0) := by decide +kernel
theorem p93_32 {l0 s0 : Int} {q1 q2 q3 q4 q5 : MV} {ds : Ds} {m : Mm} {Q : Ds → Mm → List MV → Prop} : WP 93 32 [(2, l0), q1, q2, q3, q4, q5] [(2, s0)] ds m Q = (WP 93 33 [(2, l0), q1, q2, q3, q4, q5] [(2, l0), (2, s0)] ds m Q) := P_nx k93_32 rfl
set_option maxRecDepth 20000 in
theorem k93_33 : mjCode 93 33 = some (.getfield 34, 3, 6, 14) := by decide +kernel
theorem p93_33 {s0 s1 : Int} {q0 q1 q2 q3 q4 q5 : MV} {ds : Ds} {m : Mm} {Q : Ds → Mm → List MV → Prop} : WP 93 33 [q0, q1, q2, q3, q4, q5] [(2, s0), (2, s1)] ds m Q = ((dk ds s0 = 6 ∧ WP 93 36 [q0, q1, q2, q3, q4, q5] [(2, m s0 14), (2, s1)] ds m Q)) := P_gd k93_33 rfl
set_option maxRecDepth 20000 in
theorem k93_36 : mjCode 93 36 = some (.iload_n 1, 1, 0, 0) := by decide +kernel
theorem p93_36 {l1 s0 s1 : Int} {q0 q2 q3 q4 q5 : MV} {ds : Ds} {m : Mm} {Q : Ds → Mm → List MV → Prop} : WP 93 36 [q0, (0, l1), q2, q3, q4, q5] [(2, s0), (2, s1)] ds m Q = (WP 93 37 [q0, (0, l1), q2, q3, q4, q5] [(0, l1), (2, s0), (2, s1)] ds m Q) := P_nx k93_36 rfl
set_option maxRecDepth 20000 in
theorem k93_37 : mjCode 93 37 = some (.iload_n 2, 1, 0, 0) := by decide +kernel
theorem p93_37 {l2 s0 s1 s2 : Int} {q0 q1 q3 q4 q5 : MV} {ds : Ds} {m : Mm} {Q : Ds → Mm → List MV → Prop} : WP 93 37 [q0, q1, (0, l2), q3, q4, q5] [(0, s0), (2, s1), (2, s2)] ds m Q = (WP 93 38 [q0, q1, (0, l2), q3, q4, q5] [(0, l2), (0, s0), (2, s1), (2, s2)] ds m Q) := P_nx k93_37 rfl
set_option maxRecDepth 20000 in
theorem k93_38 : mjCode 93 38 = some (.invokevirtual 294, 3, 102, 4) := by decide +kernel
theorem p93_38 {s0 s1 s2 s3 : Int} {q0 q1 q2 q3 q4 q5 : MV} {ds : Ds} {m : Mm} {Q : Ds → Mm → List MV → Prop} : WP 93 38 [q0, q1, q2, q3, q4, q5] [(0, s0), (0, s1), (2, s2), (2, s3)] ds m Q = ((dk ds s3 = 6 ∧ WP 101 0 [(2, s3), (2, s2), (0, s1), (0, s0), (3, 0)] [] ds m (fun d2 m2 r2 => WP 93 41 [q0, q1, q2, q3, q4, q5] (r2 ++ []) d2 m2 Q))) := P_cv k93_38 mx101 mo101 rfl rfl rfl rfl rfl rfl rfl rfl
set_option maxRecDepth 20000 in
theorem k93_41 : mjCode 93 41 = some (.ifCond .eq 5, 3, 46, 0) := by decide +kernel
theorem p93_41 {s0 : Int} {q0 q1 q2 q3 q4 q5 : MV} {ds : Ds} {m : Mm} {Q : Ds → Mm → List MV → Prop} : WP 93 41 [q0, q1, q2, q3, q4, q5] [(0, s0)] ds m Q = (if s0 = 0 then WP 93 46 [q0, q1, q2, q3, q4, q5] [] ds m Q else WP 93 44 [q0, q1, q2, q3, q4, q5] [] ds m Q) := P_if k93_41 rfl
set_option maxRecDepth 20000 in
theorem k93_44 : mjCode 93 44 = some (.iconst 0, 1, 0, 0) := by decide +kernel
theorem p93_44 {q0 q1 q2 q3 q4 q5 : MV} {ds : Ds} {m : Mm} {Q : Ds → Mm → List MV → Prop} : WP 93 44 [q0, q1, q2, q3, q4, q5] [] ds m Q = (WP 93 45 [q0, q1, q2, q3, q4, q5] [(0, 0)] ds m Q) := P_nx k93_44 rfl
set_option maxRecDepth 20000 in
theorem k93_45 : mjCode 93 45 = some (.ireturn, 1, 0, 0) := by decide +kernel
theorem p93_45 {s0 : Int} {q0 q1 q2 q3 q4 q5 : MV} {ds : Ds} {m : Mm} {Q : Ds → Mm → List MV → Prop} : WP 93 45 [q0, q1, q2, q3, q4, q5] [(0, s0)] ds m Q = (Q ds m [(0, s0)]) := P_ri k93_45 rk93
set_option maxRecDepth 20000 in
theorem k93_46 : mjCode 93 46 = some (.aload_n 0, 1, 0, 0) := by decide +kernel
theorem p93_46 {l0 : Int} {q1 q2 q3 q4 q5 : MV} {ds : Ds} {m : Mm} {Q : Ds → Mm → List MV → Prop} : WP 93 46 [(2, l0), q1, q2, q3, q4, q5] [] ds m Q = (WP 93 47 [(2, l0), q1, q2, q3, q4, q5] [(2, l0)] ds m Q) := P_nx k93_46 rfl
set_option maxRecDepth 20000 in
theorem k93_47 : mjCode 93 47 = some (.aload_n 0, 1, 0, 0) := by decide +kernel
theorem p93_47 {l0 s0 : Int} {q1 q2 q3 q4 q5 : MV} {ds : Ds} {m : Mm} {Q : Ds → Mm → List MV → Prop} : WP 93 47 [(2, l0), q1, q2, q3, q4, q5] [(2, s0)] ds m Q = (WP 93 48 [(2, l0), q1, q2, q3, q4, q5] [(2, l0), (2, s0)] ds m Q) := P_nx k93_47 rfl
set_option maxRecDepth 20000 in
theorem k93_48 : mjCode 93 48 = some (.getfield 34, 3, 6, 14) := by decide +kernel
theorem p93_48 {s0 s1 : Int} {q0 q1 q2 q3 q4 q5 : MV} {ds : Ds} {m : Mm} {Q : Ds → Mm → List MV → Prop} : WP 93 48 [q0, q1, q2, q3, q4, q5] [(2, s0), (2, s1)] ds m Q = ((dk ds s0 = 6 ∧ WP 93 51 [q0, q1, q2, q3, q4, q5] [(2, m s0 14), (2, s1)] ds m Q)) := P_gd k93_48 rfl
set_option maxRecDepth 20000 in
theorem k93_51 : mjCode 93 51 = some (.iload_n 1, 1, 0, 0) := by decide +kernel
theorem p93_51 {l1 s0 s1 : Int} {q0 q2 q3 q4 q5 : MV} {ds : Ds} {m : Mm} {Q : Ds → Mm → List MV → Prop} : WP 93 51 [q0, (0, l1), q2, q3, q4, q5] [(2, s0), (2, s1)] ds m Q = (WP 93 52 [q0, (0, l1), q2, q3, q4, q5] [(0, l1), (2, s0), (2, s1)] ds m Q) := P_nx k93_51 rfl
set_option maxRecDepth 20000 in
theorem k93_52 : mjCode 93 52 = some (.iload_n 2, 1, 0, 0) := by decide +kernel
theorem p93_52 {l2 s0 s1 s2 : Int} {q0 q1 q3 q4 q5 : MV} {ds : Ds} {m : Mm} {Q : Ds → Mm → List MV → Prop} : WP 93 52 [q0, q1, (0, l2), q3, q4, q5] [(0, s0), (2, s1), (2, s2)] ds m Q = (WP 93 53 [q0, q1, (0, l2), q3, q4, q5] [(0, l2), (0, s0), (2, s1), (2, s2)] ds m Q) := P_nx k93_52 rfl
set_option maxRecDepth 20000 in
theorem k93_53 : mjCode 93 53 = some (.invokevirtual 298, 3, 103, 4) := by decide +kernel
theorem p93_53 {s0 s1 s2 s3 : Int} {q0 q1 q2 q3 q4 q5 : MV} {ds : Ds} {m : Mm} {Q : Ds → Mm → List MV → Prop} : WP 93 53 [q0, q1, q2, q3, q4, q5] [(0, s0), (0, s1), (2, s2), (2, s3)] ds m Q = ((dk ds s3 = 6 ∧ WP 102 0 [(2, s3), (2, s2), (0, s1), (0, s0), (3, 0), (3, 0)] [] ds m (fun d2 m2 r2 => WP 93 56 [q0, q1, q2, q3, q4, q5] (r2 ++ []) d2 m2 Q))) := P_cv k93_53 mx102 mo102 rfl rfl rfl rfl rfl rfl rfl rfl
set_option maxRecDepth 20000 in
theorem k93_56 : mjCode 93 56 = some (.istore_n 3, 1, 0, 0) := by decide +kernel
theorem p93_56 {l2 s0 : Int} {q0 q1 q3 q4 q5 : MV} {ds : Ds} {m : Mm} {Q : Ds → Mm → List MV → Prop} : WP 93 56 [q0, q1, (0, l2), q3, q4, q5] [(0, s0)] ds m Q = (WP 93 57 [q0, q1, (0, l2), (0, s0), q4, q5] [] ds m Q) := P_nx k93_56 rfl
set_option maxRecDepth 20000 in
theorem k93_57 : mjCode 93 57 = some (.iload_n 3, 1, 0, 0) := by decide +kernel
theorem p93_57 {l3 : Int} {q0 q1 q2 q4 q5 : MV} {ds : Ds} {m : Mm} {Q : Ds → Mm → List MV → Prop} : WP 93 57 [q0, q1, q2, (0, l3), q4, q5] [] ds m Q = (WP 93 58 [q0, q1, q2, (0, l3), q4, q5] [(0, l3)] ds m Q) := P_nx k93_57 rfl
set_option maxRecDepth 20000 in
theorem k93_58 : mjCode 93 58 = some (.iconst (-1), 1, 0, 0) := by decide +kernel
theorem p93_58 {s0 : Int} {q0 q1 q2 q3 q4 q5 : MV} {ds : Ds} {m : Mm} {Q : Ds → Mm → List MV → Prop} : WP 93 58 [q0, q1, q2, q3, q4, q5] [(0, s0)] ds m Q = (WP 93 59 [q0, q1, q2, q3, q4, q5] [(0, (-1)), (0, s0)] ds m Q) := P_nx k93_58 rfl
set_option maxRecDepth 20000 in
theorem k93_59 : mjCode 93 59 = some (.if_icmp .eq 13, 3, 72, 0) := by decide +kernel
theorem p93_59 {s0 s1 : Int} {q0 q1 q2 q3 q4 q5 : MV} {ds : Ds} {m : Mm} {Q : Ds → Mm → List MV → Prop} : WP 93 59 [q0, q1, q2, q3, q4, q5] [(0, s0), (0, s1)] ds m Q = (if s1 = s0 then WP 93 72 [q0, q1, q2, q3, q4, q5] [] ds m Q else WP 93 62 [q0, q1, q2, q3, q4, q5] [] ds m Q) := P_if k93_59 rfl
set_option maxRecDepth 20000 in
theorem k93_62 : mjCode 93 62 = some (.aload_n 0, 1, 0, 0) := by decide +kernel
theorem p93_62 {l0 : Int} {q1 q2 q3 q4 q5 : MV} {ds : Ds} {m : Mm} {Q : Ds → Mm → List MV → Prop} : WP 93 62 [(2, l0), q1, q2, q3, q4, q5] [] ds m Q = (WP 93 63 [(2, l0), q1, q2, q3, q4, q5] [(2, l0)] ds m Q) := P_nx k93_62 rfl
set_option maxRecDepth 20000 in
theorem k93_63 : mjCode 93 63 = some (.iload_n 3, 1, 0, 0) := by decide +kernel
theorem p93_63 {l3 s0 : Int} {q0 q1 q2 q4 q5 : MV} {ds : Ds} {m : Mm} {Q : Ds → Mm → List MV → Prop} : WP 93 63 [q0, q1, q2, (0, l3), q4, q5] [(2, s0)] ds m Q = (WP 93 64 [q0, q1, q2, (0, l3), q4, q5] [(0, l3), (2, s0)] ds m Q) := P_nx k93_63 rfl
set_option maxRecDepth 20000 in
theorem k93_64 : mjCode 93 64 = some (.invokevirtual 302, 3, 105, 2) := by decide +kernel
theorem p93_64 {s0 s1 : Int} {q0 q1 q2 q3 q4 q5 : MV} {ds : Ds} {m : Mm} {Q : Ds → Mm → List MV → Prop} : WP 93 64 [q0, q1, q2, q3, q4, q5] [(0, s0), (2, s1)] ds m Q = ((dk ds s1 = 6 ∧ WP 104 0 [(2, s1), (0, s0)] [] ds m (fun d2 m2 r2 => WP 93 67 [q0, q1, q2, q3, q4, q5] (r2 ++ []) d2 m2 Q))) := P_cv k93_64 mx104 mo104 rfl rfl rfl rfl rfl rfl rfl rfl
set_option maxRecDepth 20000 in
theorem k93_67 : mjCode 93 67 = some (.aload_n 0, 1, 0, 0) := by decide +kernel
theorem p93_67 {l0 : Int} {q1 q2 q3 q4 q5 : MV} {ds : Ds} {m : Mm} {Q : Ds → Mm → List MV → Prop} : WP 93 67 [(2, l0), q1, q2, q3, q4, q5] [] ds m Q = (WP 93 68 [(2, l0), q1, q2, q3, q4, q5] [(2, l0)] ds m Q) := P_nx k93_67 rfl
set_option maxRecDepth 20000 in
theorem k93_68 : mjCode 93 68 = some (.getfield 291, 3, 6, 13) := by decide +kernel
theorem p93_68 {s0 : Int} {q0 q1 q2 q3 q4 q5 : MV} {ds : Ds} {m : Mm} {Q : Ds → Mm → List MV → Prop} : WP 93 68 [q0, q1, q2, q3, q4, q5] [(2, s0)] ds m Q = ((dk ds s0 = 6 ∧ WP 93 71 [q0, q1, q2, q3, q4, q5] [(0, m s0 13)] ds m Q)) := P_gd k93_68 rfl
set_option maxRecDepth 20000 in
theorem k93_71 : mjCode 93 71 = some (.ireturn, 1, 0, 0) := by decide +kernel
theorem p93_71 {s0 : Int} {q0 q1 q2 q3 q4 q5 : MV} {ds : Ds} {m : Mm} {Q : Ds → Mm → List MV → Prop} : WP 93 71 [q0, q1, q2, q3, q4, q5] [(0, s0)] ds m Q = (Q ds m [(0, s0)]) := P_ri k93_71 rk93
set_option maxRecDepth 20000 in
theorem k93_72 : mjCode 93 72 = some (.iconst 0, 1, 0, 0) := by decide +kernel
theorem p93_72 {q0 q1 q2 q3 q4 q5 : MV} {ds : Ds} {m : Mm} {Q : Ds → Mm → List MV → Prop} : WP 93 72 [q0, q1, q2, q3, q4, q5] [] ds m Q = (WP 93 73 [q0, q1, q2, q3, q4, q5] [(0, 0)] ds m Q) := P_nx k93_72 rfl
set_option maxRecDepth 20000 in
theorem k93_73 : mjCode 93 73 = some (.istore 4, 2, 0, 0) := by decide +kernel
theorem p93_73 {l3 s0 : Int} {q0 q1 q2 q4 q5 : MV} {ds : Ds} {m : Mm} {Q : Ds → Mm → List MV → Prop} : WP 93 73 [q0, q1, q2, (0, l3), q4, q5] [(0, s0)] ds m Q = (WP 93 75 [q0, q1, q2, (0, l3), (0, s0), q5] [] ds m Q) := P_nx k93_73 rfl
set_option maxRecDepth 20000 in
theorem k93_75 : mjCode 93 75 = some (.iload 4, 2, 0, 0) := by decide +kernel
theorem p93_75 {l4 : Int} {q0 q1 q2 q3 q5 : MV} {ds : Ds} {m : Mm} {Q : Ds → Mm → List MV → Prop} : WP 93 75 [q0, q1, q2, q3, (0, l4), q5] [] ds m Q = (WP 93 77 [q0, q1, q2, q3, (0, l4), q5] [(0, l4)] ds m Q) := P_nx k93_75 rfl
set_option maxRecDepth 20000 in
theorem k93_77 : mjCode 93 77 = some (.sipush 576, 3, 0, 0) := by decide +kernel
theorem p93_77 {s0 : Int} {q0 q1 q2 q3 q4 q5 : MV} {ds : Ds} {m : Mm} {Q : Ds → Mm → List MV → Prop} : WP 93 77 [q0, q1, q2, q3, q4, q5] [(0, s0)] ds m Q = (WP 93 80 [q0, q1, q2, q3, q4, q5] [(0, 576), (0, s0)] ds m Q) := P_nx k93_77 rfl
set_option maxRecDepth 20000 in
theorem k93_80 : mjCode 93 80 = some (.if_icmp .ge 80, 3, 160, 0) := by decide +kernel
theorem p93_80 {s0 s1 : Int} {q0 q1 q2 q3 q4 q5 : MV} {ds : Ds} {m : Mm} {Q : Ds → Mm → List MV → Prop} : WP 93 80 [q0, q1, q2, q3, q4, q5] [(0, s0), (0, s1)] ds m Q = (if s1 < s0 then WP 93 83 [q0, q1, q2, q3, q4, q5] [] ds m Q else WP 93 160 [q0, q1, q2, q3, q4, q5] [] ds m Q) := P_if k93_80 rfl
set_option maxRecDepth 20000 in
theorem k93_83 : mjCode 93 83 = some (.aload_n 0, 1, 0, 0) := by decide +kernel
theorem p93_83 {l0 : Int} {q1 q2 q3 q4 q5 : MV} {ds : Ds} {m : Mm} {Q : Ds → Mm → List MV → Prop} : WP 93 83 [(2, l0), q1, q2, q3, q4, q5] [] ds m Q = (WP 93 84 [(2, l0), q1, q2, q3, q4, q5] [(2, l0)] ds m Q) := P_nx k93_83 rfl
set_option maxRecDepth 20000 in
theorem k93_84 : mjCode 93 84 = some (.aload_n 0, 1, 0, 0) := by decide +kernel
theorem p93_84 {l0 s0 : Int} {q1 q2 q3 q4 q5 : MV} {ds : Ds} {m : Mm} {Q : Ds → Mm → List MV → Prop} : WP 93 84 [(2, l0), q1, q2, q3, q4, q5] [(2, s0)] ds m Q = (WP 93 85 [(2, l0), q1, q2, q3, q4, q5] [(2, l0), (2, s0)] ds m Q) := P_nx k93_84 rfl
set_option maxRecDepth 20000 in
theorem k93_85 : mjCode 93 85 = some (.getfield 34, 3, 6, 14) := by decide +kernel
theorem p93_85 {s0 s1 : Int} {q0 q1 q2 q3 q4 q5 : MV} {ds : Ds} {m : Mm} {Q : Ds → Mm → List MV → Prop} : WP 93 85 [q0, q1, q2, q3, q4, q5] [(2, s0), (2, s1)] ds m Q = ((dk ds s0 = 6 ∧ WP 93 88 [q0, q1, q2, q3, q4, q5] [(2, m s0 14), (2, s1)] ds m Q)) := P_gd k93_85 rfl
set_option maxRecDepth 20000 in
theorem k93_88 : mjCode 93 88 = some (.iload 4, 2, 0, 0) := by decide +kernel
theorem p93_88 {l4 s0 s1 : Int} {q0 q1 q2 q3 q5 : MV} {ds : Ds} {m : Mm} {Q : Ds → Mm → List MV → Prop} : WP 93 88 [q0, q1, q2, q3, (0, l4), q5] [(2, s0), (2, s1)] ds m Q = (WP 93 90 [q0, q1, q2, q3, (0, l4), q5] [(0, l4), (2, s0), (2, s1)] ds m Q) := P_nx k93_88 rfl
set_option maxRecDepth 20000 in
theorem k93_90 : mjCode 93 90 = some (.invokevirtual 305, 3, 104, 3) := by decide +kernel
theorem p93_90 {s0 s1 s2 : Int} {q0 q1 q2 q3 q4 q5 : MV} {ds : Ds} {m : Mm} {Q : Ds → Mm → List MV → Prop} : WP 93 90 [q0, q1, q2, q3, q4, q5] [(0, s0), (2, s1), (2, s2)] ds m Q = ((dk ds s2 = 6 ∧ WP 103 0 [(2, s2), (2, s1), (0, s0), (3, 0)] [] ds m (fun d2 m2 r2 => WP 93 93 [q0, q1, q2, q3, q4, q5] (r2 ++ []) d2 m2 Q))) := P_cv k93_90 mx103 mo103 rfl rfl rfl rfl rfl rfl rfl rfl
set_option maxRecDepth 20000 in
theorem k93_93 : mjCode 93 93 = some (.ifCond .eq 61, 3, 154, 0) := by decide +kernel
theorem p93_93 {s0 : Int} {q0 q1 q2 q3 q4 q5 : MV} {ds : Ds} {m : Mm} {Q : Ds → Mm → List MV → Prop} : WP 93 93 [q0, q1, q2, q3, q4, q5] [(0, s0)] ds m Q = (if s0 = 0 then WP 93 154 [q0, q1, q2, q3, q4, q5] [] ds m Q else WP 93 96 [q0, q1, q2, q3, q4, q5] [] ds m Q) := P_if k93_93 rfl
set_option maxRecDepth 20000 in
theorem k93_96 : mjCode 93 96 = some (.aload_n 0, 1, 0, 0) := by decide +kernel
theorem p93_96 {l0 : Int} {q1 q2 q3 q4 q5 : MV} {ds : Ds} {m : Mm} {Q : Ds → Mm → List MV → Prop} : WP 93 96 [(2, l0), q1, q2, q3, q4, q5] [] ds m Q = (WP 93 97 [(2, l0), q1, q2, q3, q4, q5] [(2, l0)] ds m Q) := P_nx k93_96 rfl
set_option maxRecDepth 20000 in
theorem k93_97 : mjCode 93 97 = some (.aload_n 0, 1, 0, 0) := by decide +kernel
theorem p93_97 {l0 s0 : Int} {q1 q2 q3 q4 q5 : MV} {ds : Ds} {m : Mm} {Q : Ds → Mm → List MV → Prop} : WP 93 97 [(2, l0), q1, q2, q3, q4, q5] [(2, s0)] ds m Q = (WP 93 98 [(2, l0), q1, q2, q3, q4, q5] [(2, l0), (2, s0)] ds m Q) := P_nx k93_97 rfl
set_option maxRecDepth 20000 in
theorem k93_98 : mjCode 93 98 = some (.getfield 38, 3, 6, 15) := by decide +kernel
theorem p93_98 {s0 s1 : Int} {q0 q1 q2 q3 q4 q5 : MV} {ds : Ds} {m : Mm} {Q : Ds → Mm → List MV → Prop} : WP 93 98 [q0, q1, q2, q3, q4, q5] [(2, s0), (2, s1)] ds m Q = ((dk ds s0 = 6 ∧ WP 93 101 [q0, q1, q2, q3, q4, q5] [(2, m s0 15), (2, s1)] ds m Q)) := P_gd k93_98 rfl
set_option maxRecDepth 20000 in
theorem k93_101 : mjCode 93 101 = some (.iload_n 1, 1, 0, 0) := by decide +kernel
theorem p93_101 {l1 s0 s1 : Int} {q0 q2 q3 q4 q5 : MV} {ds : Ds} {m : Mm} {Q : Ds → Mm → List MV → Prop} : WP 93 101 [q0, (0, l1), q2, q3, q4, q5] [(2, s0), (2, s1)] ds m Q = (WP 93 102 [q0, (0, l1), q2, q3, q4, q5] [(0, l1), (2, s0), (2, s1)] ds m Q) := P_nx k93_101 rfl
set_option maxRecDepth 20000 in
theorem k93_102 : mjCode 93 102 = some (.iload_n 2, 1, 0, 0) := by decide +kernel
theorem p93_102 {l2 s0 s1 s2 : Int} {q0 q1 q3 q4 q5 : MV} {ds : Ds} {m : Mm} {Q : Ds → Mm → List MV → Prop} : WP 93 102 [q0, q1, (0, l2), q3, q4, q5] [(0, s0), (2, s1), (2, s2)] ds m Q = (WP 93 103 [q0, q1, (0, l2), q3, q4, q5] [(0, l2), (0, s0), (2, s1), (2, s2)] ds m Q) := P_nx k93_102 rfl
set_option maxRecDepth 20000 in
theorem k93_103 : mjCode 93 103 = some (.invokevirtual 294, 3, 102, 4) := by decide +kernel
theorem p93_103 {s0 s1 s2 s3 : Int} {q0 q1 q2 q3 q4 q5 : MV} {ds : Ds} {m : Mm} {Q : Ds → Mm → List MV → Prop} : WP 93 103 [q0, q1, q2, q3, q4, q5] [(0, s0), (0, s1), (2, s2), (2, s3)] ds m Q = ((dk ds s3 = 6 ∧ WP 101 0 [(2, s3), (2, s2), (0, s1), (0, s0), (3, 0)] [] ds m (fun d2 m2 r2 => WP 93 106 [q0, q1, q2, q3, q4, q5] (r2 ++ []) d2 m2 Q))) := P_cv k93_103 mx101 mo101 rfl rfl rfl rfl rfl rfl rfl rfl
set_option maxRecDepth 20000 in
theorem k93_106 : mjCode 93 106 = some (.pop, 1, 0, 0) := by decide +kernel
theorem p93_106 {s0 : Int} {q0 q1 q2 q3 q4 q5 : MV} {ds : Ds} {m : Mm} {Q : Ds → Mm → List MV → Prop} : WP 93 106 [q0, q1, q2, q3, q4, q5] [(0, s0)] ds m Q = (WP 93 107 [q0, q1, q2, q3, q4, q5] [] ds m Q) := P_nx k93_106 rfl
set_option maxRecDepth 20000 in
theorem k93_107 : mjCode 93 107 = some (.aload_n 0, 1, 0, 0) := by decide +kernel
theorem p93_107 {l0 : Int} {q1 q2 q3 q4 q5 : MV} {ds : Ds} {m : Mm} {Q : Ds → Mm → List MV → Prop} : WP 93 107 [(2, l0), q1, q2, q3, q4, q5] [] ds m Q = (WP 93 108 [(2, l0), q1, q2, q3, q4, q5] [(2, l0)] ds m Q) := P_nx k93_107 rfl
set_option maxRecDepth 20000 in
theorem k93_108 : mjCode 93 108 = some (.aload_n 0, 1, 0, 0) := by decide +kernel
theorem p93_108 {l0 s0 : Int} {q1 q2 q3 q4 q5 : MV} {ds : Ds} {m : Mm} {Q : Ds → Mm → List MV → Prop} : WP 93 108 [(2, l0), q1, q2, q3, q4, q5] [(2, s0)] ds m Q = (WP 93 109 [(2, l0), q1, q2, q3, q4, q5] [(2, l0), (2, s0)] ds m Q) := P_nx k93_108 rfl
set_option maxRecDepth 20000 in
theorem k93_109 : mjCode 93 109 = some (.getfield 38, 3, 6, 15) := by decide +kernel
theorem p93_109 {s0 s1 : Int} {q0 q1 q2 q3 q4 q5 : MV} {ds : Ds} {m : Mm} {Q : Ds → Mm → List MV → Prop} : WP 93 109 [q0, q1, q2, q3, q4, q5] [(2, s0), (2, s1)] ds m Q = ((dk ds s0 = 6 ∧ WP 93 112 [q0, q1, q2, q3, q4, q5] [(2, m s0 15), (2, s1)] ds m Q)) := P_gd k93_109 rfl
set_option maxRecDepth 20000 in
theorem k93_112 : mjCode 93 112 = some (.iload_n 1, 1, 0, 0) := by decide +kernel
theorem p93_112 {l1 s0 s1 : Int} {q0 q2 q3 q4 q5 : MV} {ds : Ds} {m : Mm} {Q : Ds → Mm → List MV → Prop} : WP 93 112 [q0, (0, l1), q2, q3, q4, q5] [(2, s0), (2, s1)] ds m Q = (WP 93 113 [q0, (0, l1), q2, q3, q4, q5] [(0, l1), (2, s0), (2, s1)] ds m Q) := P_nx k93_112 rfl
set_option maxRecDepth 20000 in
theorem k93_113 : mjCode 93 113 = some (.iload_n 2, 1, 0, 0) := by decide +kernel
theorem p93_113 {l2 s0 s1 s2 : Int} {q0 q1 q3 q4 q5 : MV} {ds : Ds} {m : Mm} {Q : Ds → Mm → List MV → Prop} : WP 93 113 [q0, q1, (0, l2), q3, q4, q5] [(0, s0), (2, s1), (2, s2)] ds m Q = (WP 93 114 [q0, q1, (0, l2), q3, q4, q5] [(0, l2), (0, s0), (2, s1), (2, s2)] ds m Q) := P_nx k93_113 rfl
set_option maxRecDepth 20000 in
theorem k93_114 : mjCode 93 114 = some (.invokevirtual 298, 3, 103, 4) := by decide +kernel
theorem p93_114 {s0 s1 s2 s3 : Int} {q0 q1 q2 q3 q4 q5 : MV} {ds : Ds} {m : Mm} {Q : Ds → Mm → List MV → Prop} : WP 93 114 [q0, q1, q2, q3, q4, q5] [(0, s0), (0, s1), (2, s2), (2, s3)] ds m Q = ((dk ds s3 = 6 ∧ WP 102 0 [(2, s3), (2, s2), (0, s1), (0, s0), (3, 0), (3, 0)] [] ds m (fun d2 m2 r2 => WP 93 117 [q0, q1, q2, q3, q4, q5] (r2 ++ []) d2 m2 Q))) := P_cv k93_114 mx102 mo102 rfl rfl rfl rfl rfl rfl rfl rfl
set_option maxRecDepth 20000 in
theorem k93_117 : mjCode 93 117 = some (.istore 5, 2, 0, 0) := by decide +kernel
theorem p93_117 {l4 s0 : Int} {q0 q1 q2 q3 q5 : MV} {ds : Ds} {m : Mm} {Q : Ds → Mm → List MV → Prop} : WP 93 117 [q0, q1, q2, q3, (0, l4), q5] [(0, s0)] ds m Q = (WP 93 119 [q0, q1, q2, q3, (0, l4), (0, s0)] [] ds m Q) := P_nx k93_117 rfl
set_option maxRecDepth 20000 in
theorem k93_119 : mjCode 93 119 = some (.iload 5, 2, 0, 0) := by decide +kernel
theorem p93_119 {l5 : Int} {q0 q1 q2 q3 q4 : MV} {ds : Ds} {m : Mm} {Q : Ds → Mm → List MV → Prop} : WP 93 119 [q0, q1, q2, q3, q4, (0, l5)] [] ds m Q = (WP 93 121 [q0, q1, q2, q3, q4, (0, l5)] [(0, l5)] ds m Q) := P_nx k93_119 rfl
set_option maxRecDepth 20000 in
theorem k93_121 : mjCode 93 121 = some (.iconst (-1), 1, 0, 0) := by decide +kernel
theorem p93_121 {s0 : Int} {q0 q1 q2 q3 q4 q5 : MV} {ds : Ds} {m : Mm} {Q : Ds → Mm → List MV → Prop} : WP 93 121 [q0, q1, q2, q3, q4, q5] [(0, s0)] ds m Q = (WP 93 122 [q0, q1, q2, q3, q4, q5] [(0, (-1)), (0, s0)] ds m Q) := P_nx k93_121 rfl
set_option maxRecDepth 20000 in
theorem k93_122 : mjCode 93 122 = some (.if_icmp .eq 20, 3, 142, 0) := by decide +kernel
theorem p93_122 {s0 s1 : Int} {q0 q1 q2 q3 q4 q5 : MV} {ds : Ds} {m : Mm} {Q : Ds → Mm → List MV → Prop} : WP 93 122 [q0, q1, q2, q3, q4, q5] [(0, s0), (0, s1)] ds m Q = (if s1 = s0 then WP 93 142 [q0, q1, q2, q3, q4, q5] [] ds m Q else WP 93 125 [q0, q1, q2, q3, q4, q5] [] ds m Q) := P_if k93_122 rfl
set_option maxRecDepth 20000 in
theorem k93_125 : mjCode 93 125 = some (.aload_n 0, 1, 0, 0) := by decide +kernel
theorem p93_125 {l0 : Int} {q1 q2 q3 q4 q5 : MV} {ds : Ds} {m : Mm} {Q : Ds → Mm → List MV → Prop} : WP 93 125 [(2, l0), q1, q2, q3, q4, q5] [] ds m Q = (WP 93 126 [(2, l0), q1, q2, q3, q4, q5] [(2, l0)] ds m Q) := P_nx k93_125 rfl
set_option maxRecDepth 20000 in
theorem k93_126 : mjCode 93 126 = some (.iload 4, 2, 0, 0) := by decide +kernel
theorem p93_126 {l4 s0 : Int} {q0 q1 q2 q3 q5 : MV} {ds : Ds} {m : Mm} {Q : Ds → Mm → List MV → Prop} : WP 93 126 [q0, q1, q2, q3, (0, l4), q5] [(2, s0)] ds m Q = (WP 93 128 [q0, q1, q2, q3, (0, l4), q5] [(0, l4), (2, s0)] ds m Q) := P_nx k93_126 rfl
set_option maxRecDepth 20000 in
theorem k93_128 : mjCode 93 128 = some (.invokevirtual 302, 3, 105, 2) := by decide +kernel
theorem p93_128 {s0 s1 : Int} {q0 q1 q2 q3 q4 q5 : MV} {ds : Ds} {m : Mm} {Q : Ds → Mm → List MV → Prop} : WP 93 128 [q0, q1, q2, q3, q4, q5] [(0, s0), (2, s1)] ds m Q = ((dk ds s1 = 6 ∧ WP 104 0 [(2, s1), (0, s0)] [] ds m (fun d2 m2 r2 => WP 93 131 [q0, q1, q2, q3, q4, q5] (r2 ++ []) d2 m2 Q))) := P_cv k93_128 mx104 mo104 rfl rfl rfl rfl rfl rfl rfl rfl
set_option maxRecDepth 20000 in
theorem k93_131 : mjCode 93 131 = some (.aload_n 0, 1, 0, 0) := by decide +kernel
theorem p93_131 {l0 : Int} {q1 q2 q3 q4 q5 : MV} {ds : Ds} {m : Mm} {Q : Ds → Mm → List MV → Prop} : WP 93 131 [(2, l0), q1, q2, q3, q4, q5] [] ds m Q = (WP 93 132 [(2, l0), q1, q2, q3, q4, q5] [(2, l0)] ds m Q) := P_nx k93_131 rfl
set_option maxRecDepth 20000 in
theorem k93_132 : mjCode 93 132 = some (.iload 5, 2, 0, 0) := by decide +kernel
theorem p93_132 {l5 s0 : Int} {q0 q1 q2 q3 q4 : MV} {ds : Ds} {m : Mm} {Q : Ds → Mm → List MV → Prop} : WP 93 132 [q0, q1, q2, q3, q4, (0, l5)] [(2, s0)] ds m Q = (WP 93 134 [q0, q1, q2, q3, q4, (0, l5)] [(0, l5), (2, s0)] ds m Q) := P_nx k93_132 rfl
set_option maxRecDepth 20000 in
theorem k93_134 : mjCode 93 134 = some (.invokevirtual 302, 3, 105, 2) := by decide +kernel
theorem p93_134 {s0 s1 : Int} {q0 q1 q2 q3 q4 q5 : MV} {ds : Ds} {m : Mm} {Q : Ds → Mm → List MV → Prop} : WP 93 134 [q0, q1, q2, q3, q4, q5] [(0, s0), (2, s1)] ds m Q = ((dk ds s1 = 6 ∧ WP 104 0 [(2, s1), (0, s0)] [] ds m (fun d2 m2 r2 => WP 93 137 [q0, q1, q2, q3, q4, q5] (r2 ++ []) d2 m2 Q))) := P_cv k93_134 mx104 mo104 rfl rfl rfl rfl rfl rfl rfl rfl
set_option maxRecDepth 20000 in
theorem k93_137 : mjCode 93 137 = some (.aload_n 0, 1, 0, 0) := by decide +kernel
theorem p93_137 {l0 : Int} {q1 q2 q3 q4 q5 : MV} {ds : Ds} {m : Mm} {Q : Ds → Mm → List MV → Prop} : WP 93 137 [(2, l0), q1, q2, q3, q4, q5] [] ds m Q = (WP 93 138 [(2, l0), q1, q2, q3, q4, q5] [(2, l0)] ds m Q) := P_nx k93_137 rfl
set_option maxRecDepth 20000 in
theorem k93_138 : mjCode 93 138 = some (.getfield 291, 3, 6, 13) := by decide +kernel
theorem p93_138 {s0 : Int} {q0 q1 q2 q3 q4 q5 : MV} {ds : Ds} {m : Mm} {Q : Ds → Mm → List MV → Prop} : WP 93 138 [q0, q1, q2, q3, q4, q5] [(2, s0)] ds m Q = ((dk ds s0 = 6 ∧ WP 93 141 [q0, q1, q2, q3, q4, q5] [(0, m s0 13)] ds m Q)) := P_gd k93_138 rfl
set_option maxRecDepth 20000 in
theorem k93_141 : mjCode 93 141 = some (.ireturn, 1, 0, 0) := by decide +kernel
theorem p93_141 {s0 : Int} {q0 q1 q2 q3 q4 q5 : MV} {ds : Ds} {m : Mm} {Q : Ds → Mm → List MV → Prop} : WP 93 141 [q0, q1, q2, q3, q4, q5] [(0, s0)] ds m Q = (Q ds m [(0, s0)]) := P_ri k93_141 rk93
set_option maxRecDepth 20000 in
theorem k93_142 : mjCode 93 142 = some (.aload_n 0, 1, 0, 0) := by decide +kernel
theorem p93_142 {l0 : Int} {q1 q2 q3 q4 q5 : MV} {ds : Ds} {m : Mm} {Q : Ds → Mm → List MV → Prop} : WP 93 142 [(2, l0), q1, q2, q3, q4, q5] [] ds m Q = (WP 93 143 [(2, l0), q1, q2, q3, q4, q5] [(2, l0)] ds m Q) := P_nx k93_142 rfl
set_option maxRecDepth 20000 in
theorem k93_143 : mjCode 93 143 = some (.getfield 49, 3, 6, 1) := by decide +kernel
theorem p93_143 {s0 : Int} {q0 q1 q2 q3 q4 q5 : MV} {ds : Ds} {m : Mm} {Q : Ds → Mm → List MV → Prop} : WP 93 143 [q0, q1, q2, q3, q4, q5] [(2, s0)] ds m Q = ((dk ds s0 = 6 ∧ WP 93 146 [q0, q1, q2, q3, q4, q5] [(2, m s0 1)] ds m Q)) := P_gd k93_143 rfl
set_option maxRecDepth 20000 in
theorem k93_146 : mjCode 93 146 = some (.iload 4, 2, 0, 0) := by decide +kernel
theorem p93_146 {l4 s0 : Int} {q0 q1 q2 q3 q5 : MV} {ds : Ds} {m : Mm} {Q : Ds → Mm → List MV → Prop} : WP 93 146 [q0, q1, q2, q3, (0, l4), q5] [(2, s0)] ds m Q = (WP 93 148 [q0, q1, q2, q3, (0, l4), q5] [(0, l4), (2, s0)] ds m Q) := P_nx k93_146 rfl
set_option maxRecDepth 20000 in
theorem k93_148 : mjCode 93 148 = some (.bipush 6, 2, 0, 0) := by decide +kernel
theorem p93_148 {s0 s1 : Int} {q0 q1 q2 q3 q4 q5 : MV} {ds : Ds} {m : Mm} {Q : Ds → Mm → List MV → Prop} : WP 93 148 [q0, q1, q2, q3, q4, q5] [(0, s0), (2, s1)] ds m Q = (WP 93 150 [q0, q1, q2, q3, q4, q5] [(0, 6), (0, s0), (2, s1)] ds m Q) := P_nx k93_148 rfl
set_option maxRecDepth 20000 in
theorem k93_150 : mjCode 93 150 = some (.idiv, 1, 0, 0) := by decide +kernel
theorem p93_150 {s0 s1 s2 : Int} {q0 q1 q2 q3 q4 q5 : MV} {ds : Ds} {m : Mm} {Q : Ds → Mm → List MV → Prop} : WP 93 150 [q0, q1, q2, q3, q4, q5] [(0, s0), (0, s1), (2, s2)] ds m Q = ((¬ s0 = 0 ∧ WP 93 151 [q0, q1, q2, q3, q4, q5] [(0, jdiv s1 s0), (2, s2)] ds m Q)) := P_dv k93_150 rfl
set_option maxRecDepth 20000 in
theorem k93_151 : mjCode 93 151 = some (.invokevirtual 107, 3, 38, 2) := by decide +kernel
theorem p93_151 {s0 s1 : Int} {q0 q1 q2 q3 q4 q5 : MV} {ds : Ds} {m : Mm} {Q : Ds → Mm → List MV → Prop} : WP 93 151 [q0, q1, q2, q3, q4, q5] [(0, s0), (2, s1)] ds m Q = ((dk ds s1 = 3 ∧ WP 37 0 [(2, s1), (0, s0)] [] ds m (fun d2 m2 r2 => WP 93 154 [q0, q1, q2, q3, q4, q5] (r2 ++ []) d2 m2 Q))) := P_cv k93_151 mx37 mo37 rfl rfl rfl rfl rfl rfl rfl rfl
set_option maxRecDepth 20000 in
theorem k93_154 : mjCode 93 154 = some (.iinc 4 1, 3, 0, 0) := by decide +kernel
theorem p93_154 {l4 : Int} {q0 q1 q2 q3 q5 : MV} {ds : Ds} {m : Mm} {Q : Ds → Mm → List MV → Prop} : WP 93 154 [q0, q1, q2, q3, (0, l4), q5] [] ds m Q = (WP 93 157 [q0, q1, q2, q3, (0, w32 (l4 + 1)), q5] [] ds m Q) := P_nx k93_154 rfl
set_option maxRecDepth 20000 in
theorem k93_157 : mjCode 93 157 = some (.goto (-82), 3, 75, 0) := by decide +kernel
theorem p93_157 {q0 q1 q2 q3 q4 q5 : MV} {ds : Ds} {m : Mm} {Q : Ds → Mm → List MV → Prop} : WP 93 157 [q0, q1, q2, q3, q4, q5] [] ds m Q = (WP 93 75 [q0, q1, q2, q3, q4, q5] [] ds m Q) := P_nx k93_157 rfl
set_option maxRecDepth 20000 in
theorem k93_160 : mjCode 93 160 = some (.iconst (-1), 1, 0, 0) := by decide +kernel
theorem p93_160 {q0 q1 q2 q3 q4 q5 : MV} {ds : Ds} {m : Mm} {Q : Ds → Mm → List MV → Prop} : WP 93 160 [q0, q1, q2, q3, q4, q5] [] ds m Q = (WP 93 161 [q0, q1, q2, q3, q4, q5] [(0, (-1))] ds m Q) := P_nx k93_160 rfl
set_option maxRecDepth 20000 in
theorem k93_161 : mjCode 93 161 = some (.ireturn, 1, 0, 0) := by decide +kernel
theorem p93_161 {s0 : Int} {q0 q1 q2 q3 q4 q5 : MV} {ds : Ds} {m : Mm} {Q : Ds → Mm → List MV → Prop} : WP 93 161 [q0, q1, q2, q3, q4, q5] [(0, s0)] ds m Q = (Q ds m [(0, s0)]) := P_ri k93_161 rk93
set_option maxRecDepth 20000 in
theorem k94_0 : mjCode 94 0 = some (.iload_n 1, 1, 0, 0) := by decide +kernel
theorem p94_0 {l1 : Int} {q0 : MV} {ds : Ds} {m : Mm} {Q : Ds → Mm → List MV → Prop} : WP 94 0 [q0, (0, l1)] [] ds m Q = (WP 94 1 [q0, (0, l1)] [(0, l1)] ds m Q) := P_nx k94_0 rfl
set_option maxRecDepth 20000 in
theorem k94_1 : mjCode 94 1 = some (.ifCond .lt 29, 3, 30, 0) := by decide +kernel
theorem p94_1 {s0 : Int} {q0 q1 : MV} {ds : Ds} {m : Mm} {Q : Ds → Mm → List MV → Prop} : WP 94 1 [q0, q1] [(0, s0)] ds m Q = (if s0 < 0 then WP 94 30 [q0, q1] [] ds m Q else WP 94 4 [q0, q1] [] ds m Q) := P_if k94_1 rfl
set_option maxRecDepth 20000 in
theorem k94_4 : mjCode 94 4 = some (.iload_n 1, 1, 0, 0) := by decide +kernel
theorem p94_4 {l1 : Int} {q0 : MV} {ds : Ds} {m : Mm} {Q : Ds → Mm → List MV → Prop} : WP 94 4 [q0, (0, l1)] [] ds m Q = (WP 94 5 [q0, (0, l1)] [(0, l1)] ds m Q) := P_nx k94_4 rfl
set_option maxRecDepth 20000 in
theorem k94_5 : mjCode 94 5 = some (.aload_n 0, 1, 0, 0) := by decide +kernel
theorem p94_5 {l0 s0 : Int} {q1 : MV} {ds : Ds} {m : Mm} {Q : Ds → Mm → List MV → Prop} : WP 94 5 [(2, l0), q1] [(0, s0)] ds m Q = (WP 94 6 [(2, l0), q1] [(2, l0), (0, s0)] ds m Q) := P_nx k94_5 rfl
set_option maxRecDepth 20000 in
theorem k94_6 : mjCode 94 6 = some (.getfield 291, 3, 6, 13) := by decide +kernel
theorem p94_6 {s0 s1 : Int} {q0 q1 : MV} {ds : Ds} {m : Mm} {Q : Ds → Mm → List MV → Prop} : WP 94 6 [q0, q1] [(2, s0), (0, s1)] ds m Q = ((dk ds s0 = 6 ∧ WP 94 9 [q0, q1] [(0, m s0 13), (0, s1)] ds m Q)) := P_gd k94_6 rfl
set_option maxRecDepth 20000 in
theorem k94_9 : mjCode 94 9 = some (.if_icmp .ge 21, 3, 30, 0) := by decide +kernel
theorem p94_9 {s0 s1 : Int} {q0 q1 : MV} {ds : Ds} {m : Mm} {Q : Ds → Mm → List MV → Prop} : WP 94 9 [q0, q1] [(0, s0), (0, s1)] ds m Q = (if s1 < s0 then WP 94 12 [q0, q1] [] ds m Q else WP 94 30 [q0, q1] [] ds m Q) := P_if k94_9 rfl
set_option maxRecDepth 20000 in
theorem k94_12 : mjCode 94 12 = some (.iload_n 1, 1, 0, 0) := by decide +kernel
theorem p94_12 {l1 : Int} {q0 : MV} {ds : Ds} {m : Mm} {Q : Ds → Mm → List MV → Prop} : WP 94 12 [q0, (0, l1)] [] ds m Q = (WP 94 13 [q0, (0, l1)] [(0, l1)] ds m Q) := P_nx k94_12 rfl
set_option maxRecDepth 20000 in
theorem k94_13 : mjCode 94 13 = some (.aload_n 0, 1, 0, 0) := by decide +kernel
theorem p94_13 {l0 s0 : Int} {q1 : MV} {ds : Ds} {m : Mm} {Q : Ds → Mm → List MV → Prop} : WP 94 13 [(2, l0), q1] [(0, s0)] ds m Q = (WP 94 14 [(2, l0), q1] [(2, l0), (0, s0)] ds m Q) := P_nx k94_13 rfl
set_option maxRecDepth 20000 in
theorem k94_14 : mjCode 94 14 = some (.getfield 31, 3, 6, 12) := by decide +kernel
theorem p94_14 {s0 s1 : Int} {q0 q1 : MV} {ds : Ds} {m : Mm} {Q : Ds → Mm → List MV → Prop} : WP 94 14 [q0, q1] [(2, s0), (0, s1)] ds m Q = ((dk ds s0 = 6 ∧ WP 94 17 [q0, q1] [(2, m s0 12), (0, s1)] ds m Q)) := P_gd k94_14 rfl
set_option maxRecDepth 20000 in
theorem k94_17 : mjCode 94 17 = some (.arraylength, 1, 0, 0) := by decide +kernel
theorem p94_17 {s0 s1 : Int} {q0 q1 : MV} {ds : Ds} {m : Mm} {Q : Ds → Mm → List MV → Prop} : WP 94 17 [q0, q1] [(2, s0), (0, s1)] ds m Q = (((10 ≤ dk ds s0 ∧ dk ds s0 ≤ 14) ∧ WP 94 18 [q0, q1] [(0, (dl ds s0 : Int)), (0, s1)] ds m Q)) := P_gd k94_17 rfl
set_option maxRecDepth 20000 in
theorem k94_18 : mjCode 94 18 = some (.if_icmp .ge 12, 3, 30, 0) := by decide +kernel
theorem p94_18 {s0 s1 : Int} {q0 q1 : MV} {ds : Ds} {m : Mm} {Q : Ds → Mm → List MV → Prop} : WP 94 18 [q0, q1] [(0, s0), (0, s1)] ds m Q = (if s1 < s0 then WP 94 21 [q0, q1] [] ds m Q else WP 94 30 [q0, q1] [] ds m Q) := P_if k94_18 rfl
set_option maxRecDepth 20000 in
theorem k94_21 : mjCode 94 21 = some (.aload_n 0, 1, 0, 0) := by decide +kernel
theorem p94_21 {l0 : Int} {q1 : MV} {ds : Ds} {m : Mm} {Q : Ds → Mm → List MV → Prop} : WP 94 21 [(2, l0), q1] [] ds m Q = (WP 94 22 [(2, l0), q1] [(2, l0)] ds m Q) := P_nx k94_21 rfl
set_option maxRecDepth 20000 in
theorem k94_22 : mjCode 94 22 = some (.getfield 31, 3, 6, 12) := by decide +kernel
theorem p94_22 {s0 : Int} {q0 q1 : MV} {ds : Ds} {m : Mm} {Q : Ds → Mm → List MV → Prop} : WP 94 22 [q0, q1] [(2, s0)] ds m Q = ((dk ds s0 = 6 ∧ WP 94 25 [q0, q1] [(2, m s0 12)] ds m Q)) := P_gd k94_22 rfl
set_option maxRecDepth 20000 in
theorem k94_25 : mjCode 94 25 = some (.iload_n 1, 1, 0, 0) := by decide +kernel
theorem p94_25 {l1 s0 : Int} {q0 : MV} {ds : Ds} {m : Mm} {Q : Ds → Mm → List MV → Prop} : WP 94 25 [q0, (0, l1)] [(2, s0)] ds m Q = (WP 94 26 [q0, (0, l1)] [(0, l1), (2, s0)] ds m Q) := P_nx k94_25 rfl
set_option maxRecDepth 20000 in
theorem k94_26 : mjCode 94 26 = some (.iaload, 1, 0, 0) := by decide +kernel
theorem p94_26 {s0 s1 : Int} {q0 q1 : MV} {ds : Ds} {m : Mm} {Q : Ds → Mm → List MV → Prop} : WP 94 26 [q0, q1] [(0, s0), (2, s1)] ds m Q = ((dk ds s1 = 10 ∧ 0 ≤ s0 ∧ s0 < dl ds s1 ∧ WP 94 27 [q0, q1] [(0, m s1 s0)] ds m Q)) := P_g3 k94_26 rfl
set_option maxRecDepth 20000 in
theorem k94_27 : mjCode 94 27 = some (.goto 4, 3, 31, 0) := by decide +kernel
theorem p94_27 {s0 : Int} {q0 q1 : MV} {ds : Ds} {m : Mm} {Q : Ds → Mm → List MV → Prop} : WP 94 27 [q0, q1] [(0, s0)] ds m Q = (WP 94 31 [q0, q1] [(0, s0)] ds m Q) := P_nx k94_27 rfl
set_option maxRecDepth 20000 in
theorem k94_30 : mjCode 94 30 = some (.iconst (-1), 1, 0, 0) := by decide +kernel
theorem p94_30 {q0 q1 : MV} {ds : Ds} {m : Mm} {Q : Ds → Mm → List MV → Prop} : WP 94 30 [q0, q1] [] ds m Q = (WP 94 31 [q0, q1] [(0, (-1))] ds m Q) := P_nx k94_30 rfl
set_option maxRecDepth 20000 in
theorem k94_31 : mjCode 94 31 = some (.ireturn, 1, 0, 0) := by decide +kernel
theorem p94_31 {s0 : Int} {q0 q1 : MV} {ds : Ds} {m : Mm} {Q : Ds → Mm → List MV → Prop} : WP 94 31 [q0, q1] [(0, s0)] ds m Q = (Q ds m [(0, s0)]) := P_ri k94_31 rk94
set_option maxRecDepth 20000 in
theorem k95_0 : mjCode 95 0 = some (.iload_n 1, 1, 0, 0) := by decide +kernel
theorem p95_0 {l1 : Int} {q0 q2 : MV} {ds : Ds} {m : Mm} {Q : Ds → Mm → List MV → Prop} : WP 95 0 [q0, (0, l1), q2] [] ds m Q = (WP 95 1 [q0, (0, l1), q2] [(0, l1)] ds m Q) := P_nx k95_0 rfl
set_option maxRecDepth 20000 in
theorem k95_1 : mjCode 95 1 = some (.ineg, 1, 0, 0) := by decide +kernel
theorem p95_1 {s0 : Int} {q0 q1 q2 : MV} {ds : Ds} {m : Mm} {Q : Ds → Mm → List MV → Prop} : WP 95 1 [q0, q1, q2] [(0, s0)] ds m Q = (WP 95 2 [q0, q1, q2] [(0, w32 (-s0))] ds m Q) := P_nx k95_1 rfl
set_option maxRecDepth 20000 in
theorem k95_2 : mjCode 95 2 = some (.istore_n 2, 1, 0, 0) := by decide +kernel
theorem p95_2 {l1 s0 : Int} {q0 q2 : MV} {ds : Ds} {m : Mm} {Q : Ds → Mm → List MV → Prop} : WP 95 2 [q0, (0, l1), q2] [(0, s0)] ds m Q = (WP 95 3 [q0, (0, l1), (0, s0)] [] ds m Q) := P_nx k95_2 rfl
set_option maxRecDepth 20000 in
theorem k95_3 : mjCode 95 3 = some (.iload_n 2, 1, 0, 0) := by decide +kernel
theorem p95_3 {l2 : Int} {q0 q1 : MV} {ds : Ds} {m : Mm} {Q : Ds → Mm → List MV → Prop} : WP 95 3 [q0, q1, (0, l2)] [] ds m Q = (WP 95 4 [q0, q1, (0, l2)] [(0, l2)] ds m Q) := P_nx k95_3 rfl
set_option maxRecDepth 20000 in
theorem k95_4 : mjCode 95 4 = some (.ifCond .lt 19, 3, 23, 0) := by decide +kernel
theorem p95_4 {s0 : Int} {q0 q1 q2 : MV} {ds : Ds} {m : Mm} {Q : Ds → Mm → List MV → Prop} : WP 95 4 [q0, q1, q2] [(0, s0)] ds m Q = (if s0 < 0 then WP 95 23 [q0, q1, q2] [] ds m Q else WP 95 7 [q0, q1, q2] [] ds m Q) := P_if k95_4 rfl
set_option maxRecDepth 20000 in
theorem k95_7 : mjCode 95 7 = some (.iload_n 2, 1, 0, 0) := by decide +kernel
theorem p95_7 {l2 : Int} {q0 q1 : MV} {ds : Ds} {m : Mm} {Q : Ds → Mm → List MV → Prop} : WP 95 7 [q0, q1, (0, l2)] [] ds m Q = (WP 95 8 [q0, q1, (0, l2)] [(0, l2)] ds m Q) := P_nx k95_7 rfl
set_option maxRecDepth 20000 in
theorem k95_8 : mjCode 95 8 = some (.bipush 8, 2, 0, 0) := by decide +kernel
theorem p95_8 {s0 : Int} {q0 q1 q2 : MV} {ds : Ds} {m : Mm} {Q : Ds → Mm → List MV → Prop} : WP 95 8 [q0, q1, q2] [(0, s0)] ds m Q = (WP 95 10 [q0, q1, q2] [(0, 8), (0, s0)] ds m Q) := P_nx k95_8 rfl
set_option maxRecDepth 20000 in
theorem k95_10 : mjCode 95 10 = some (.if_icmp .ge 13, 3, 23, 0) := by decide +kernel
theorem p95_10 {s0 s1 : Int} {q0 q1 q2 : MV} {ds : Ds} {m : Mm} {Q : Ds → Mm → List MV → Prop} : WP 95 10 [q0, q1, q2] [(0, s0), (0, s1)] ds m Q = (if s1 < s0 then WP 95 13 [q0, q1, q2] [] ds m Q else WP 95 23 [q0, q1, q2] [] ds m Q) := P_if k95_10 rfl
set_option maxRecDepth 20000 in
theorem k95_13 : mjCode 95 13 = some (.aload_n 0, 1, 0, 0) := by decide +kernel
theorem p95_13 {l0 : Int} {q1 q2 : MV} {ds : Ds} {m : Mm} {Q : Ds → Mm → List MV → Prop} : WP 95 13 [(2, l0), q1, q2] [] ds m Q = (WP 95 14 [(2, l0), q1, q2] [(2, l0)] ds m Q) := P_nx k95_13 rfl
set_option maxRecDepth 20000 in
theorem k95_14 : mjCode 95 14 = some (.getfield 21, 3, 6, 7) := by decide +kernel
theorem p95_14 {s0 : Int} {q0 q1 q2 : MV} {ds : Ds} {m : Mm} {Q : Ds → Mm → List MV → Prop} : WP 95 14 [q0, q1, q2] [(2, s0)] ds m Q = ((dk ds s0 = 6 ∧ WP 95 17 [q0, q1, q2] [(2, m s0 7)] ds m Q)) := P_gd k95_14 rfl
set_option maxRecDepth 20000 in
theorem k95_17 : mjCode 95 17 = some (.iload_n 2, 1, 0, 0) := by decide +kernel
theorem p95_17 {l2 s0 : Int} {q0 q1 : MV} {ds : Ds} {m : Mm} {Q : Ds → Mm → List MV → Prop} : WP 95 17 [q0, q1, (0, l2)] [(2, s0)] ds m Q = (WP 95 18 [q0, q1, (0, l2)] [(0, l2), (2, s0)] ds m Q) := P_nx k95_17 rfl
set_option maxRecDepth 20000 in
theorem k95_18 : mjCode 95 18 = some (.dup2, 1, 0, 0) := by decide +kernel
theorem p95_18 {s0 s1 : Int} {q0 q1 q2 : MV} {ds : Ds} {m : Mm} {Q : Ds → Mm → List MV → Prop} : WP 95 18 [q0, q1, q2] [(0, s0), (2, s1)] ds m Q = (WP 95 19 [q0, q1, q2] [(0, s0), (2, s1), (0, s0), (2, s1)] ds m Q) := P_nx k95_18 rfl
set_option maxRecDepth 20000 in
theorem k95_19 : mjCode 95 19 = some (.iaload, 1, 0, 0) := by decide +kernel
theorem p95_19 {s0 s1 s2 s3 : Int} {q0 q1 q2 : MV} {ds : Ds} {m : Mm} {Q : Ds → Mm → List MV → Prop} : WP 95 19 [q0, q1, q2] [(0, s0), (2, s1), (0, s2), (2, s3)] ds m Q = ((dk ds s1 = 10 ∧ 0 ≤ s0 ∧ s0 < dl ds s1 ∧ WP 95 20 [q0, q1, q2] [(0, m s1 s0), (0, s2), (2, s3)] ds m Q)) := P_g3 k95_19 rfl
set_option maxRecDepth 20000 in
theorem k95_20 : mjCode 95 20 = some (.iconst 1, 1, 0, 0) := by decide +kernel
theorem p95_20 {s0 s1 s2 : Int} {q0 q1 q2 : MV} {ds : Ds} {m : Mm} {Q : Ds → Mm → List MV → Prop} : WP 95 20 [q0, q1, q2] [(0, s0), (0, s1), (2, s2)] ds m Q = (WP 95 21 [q0, q1, q2] [(0, 1), (0, s0), (0, s1), (2, s2)] ds m Q) := P_nx k95_20 rfl
set_option maxRecDepth 20000 in
theorem k95_21 : mjCode 95 21 = some (.iadd, 1, 0, 0) := by decide +kernel
theorem p95_21 {s0 s1 s2 s3 : Int} {q0 q1 q2 : MV} {ds : Ds} {m : Mm} {Q : Ds → Mm → List MV → Prop} : WP 95 21 [q0, q1, q2] [(0, s0), (0, s1), (0, s2), (2, s3)] ds m Q = (WP 95 22 [q0, q1, q2] [(0, w32 (s1 + s0)), (0, s2), (2, s3)] ds m Q) := P_nx k95_21 rfl
set_option maxRecDepth 20000 in
theorem k95_22 : mjCode 95 22 = some (.iastore, 1, 0, 0) := by decide +kernel
theorem p95_22 {s0 s1 s2 : Int} {q0 q1 q2 : MV} {ds : Ds} {m : Mm} {Q : Ds → Mm → List MV → Prop} : WP 95 22 [q0, q1, q2] [(0, s0), (0, s1), (2, s2)] ds m Q = ((dk ds s2 = 10 ∧ 0 ≤ s1 ∧ s1 < dl ds s2 ∧ WP 95 23 [q0, q1, q2] [] ds (up m s2 s1 s0) Q)) := P_s3 k95_22 rfl
set_option maxRecDepth 20000 in
theorem k95_23 : mjCode 95 23 = some (.iload_n 1, 1, 0, 0) := by decide +kernel
theorem p95_23 {l1 : Int} {q0 q2 : MV} {ds : Ds} {m : Mm} {Q : Ds → Mm → List MV → Prop} : WP 95 23 [q0, (0, l1), q2] [] ds m Q = (WP 95 24 [q0, (0, l1), q2] [(0, l1)] ds m Q) := P_nx k95_23 rfl
set_option maxRecDepth 20000 in
theorem k95_24 : mjCode 95 24 = some (.ireturn, 1, 0, 0) := by decide +kernel
theorem p95_24 {s0 : Int} {q0 q1 q2 : MV} {ds : Ds} {m : Mm} {Q : Ds → Mm → List MV → Prop} : WP 95 24 [q0, q1, q2] [(0, s0)] ds m Q = (Q ds m [(0, s0)]) := P_ri k95_24 rk95
set_option maxRecDepth 20000 in
theorem k96_0 : mjCode 96 0 = some (.iload_n 1, 1, 0, 0) := by decide +kernel
theorem p96_0 {l1 : Int} {q0 : MV} {ds : Ds} {m : Mm} {Q : Ds → Mm → List MV → Prop} : WP 96 0 [q0, (0, l1)] [] ds m Q = (WP 96 1 [q0, (0, l1)] [(0, l1)] ds m Q) := P_nx k96_0 rfl
set_option maxRecDepth 20000 in
theorem k96_1 : mjCode 96 1 = some (.invokestatic 140, 3, 110, 1) := by decide +kernel
theorem p96_1 {s0 : Int} {q0 q1 : MV} {ds : Ds} {m : Mm} {Q : Ds → Mm → List MV → Prop} : WP 96 1 [q0, q1] [(0, s0)] ds m Q = (WP 109 0 [(0, s0)] [] ds m (fun d2 m2 r2 => WP 96 4 [q0, q1] (r2 ++ []) d2 m2 Q)) := P_cs k96_1 mx109 rfl rfl rfl rfl rfl rfl rfl
set_option maxRecDepth 20000 in
theorem k96_4 : mjCode 96 4 = some (.ifCond .eq 12, 3, 16, 0) := by decide +kernel
theorem p96_4 {s0 : Int} {q0 q1 : MV} {ds : Ds} {m : Mm} {Q : Ds → Mm → List MV → Prop} : WP 96 4 [q0, q1] [(0, s0)] ds m Q = (if s0 = 0 then WP 96 16 [q0, q1] [] ds m Q else WP 96 7 [q0, q1] [] ds m Q) := P_if k96_4 rfl
set_option maxRecDepth 20000 in
theorem k96_7 : mjCode 96 7 = some (.aload_n 0, 1, 0, 0) := by decide +kernel
theorem p96_7 {l0 : Int} {q1 : MV} {ds : Ds} {m : Mm} {Q : Ds → Mm → List MV → Prop} : WP 96 7 [(2, l0), q1] [] ds m Q = (WP 96 8 [(2, l0), q1] [(2, l0)] ds m Q) := P_nx k96_7 rfl
set_option maxRecDepth 20000 in
theorem k96_8 : mjCode 96 8 = some (.getfield 11, 3, 6, 2) := by decide +kernel
theorem p96_8 {s0 : Int} {q0 q1 : MV} {ds : Ds} {m : Mm} {Q : Ds → Mm → List MV → Prop} : WP 96 8 [q0, q1] [(2, s0)] ds m Q = ((dk ds s0 = 6 ∧ WP 96 11 [q0, q1] [(2, m s0 2)] ds m Q)) := P_gd k96_8 rfl
set_option maxRecDepth 20000 in
theorem k96_11 : mjCode 96 11 = some (.iload_n 1, 1, 0, 0) := by decide +kernel
theorem p96_11 {l1 s0 : Int} {q0 : MV} {ds : Ds} {m : Mm} {Q : Ds → Mm → List MV → Prop} : WP 96 11 [q0, (0, l1)] [(2, s0)] ds m Q = (WP 96 12 [q0, (0, l1)] [(0, l1), (2, s0)] ds m Q) := P_nx k96_11 rfl
set_option maxRecDepth 20000 in
theorem k96_12 : mjCode 96 12 = some (.aaload, 1, 0, 0) := by decide +kernel
theorem p96_12 {s0 s1 : Int} {q0 q1 : MV} {ds : Ds} {m : Mm} {Q : Ds → Mm → List MV → Prop} : WP 96 12 [q0, q1] [(0, s0), (2, s1)] ds m Q = (((dk ds s1 = 13 ∨ dk ds s1 = 14) ∧ 0 ≤ s0 ∧ s0 < dl ds s1 ∧ WP 96 13 [q0, q1] [(2, m s1 s0)] ds m Q)) := P_g3 k96_12 rfl
set_option maxRecDepth 20000 in
theorem k96_13 : mjCode 96 13 = some (.goto 4, 3, 17, 0) := by decide +kernel
theorem p96_13 {s0 : Int} {q0 q1 : MV} {ds : Ds} {m : Mm} {Q : Ds → Mm → List MV → Prop} : WP 96 13 [q0, q1] [(2, s0)] ds m Q = (WP 96 17 [q0, q1] [(2, s0)] ds m Q) := P_nx k96_13 rfl
set_option maxRecDepth 20000 in
theorem k96_16 : mjCode 96 16 = some (.aconst_null, 1, 0, 0) := by decide +kernel
theorem p96_16 {q0 q1 : MV} {ds : Ds} {m : Mm} {Q : Ds → Mm → List MV → Prop} : WP 96 16 [q0, q1] [] ds m Q = (WP 96 17 [q0, q1] [(2, -1)] ds m Q) := P_nx k96_16 rfl
set_option maxRecDepth 20000 in
theorem k96_17 : mjCode 96 17 = some (.areturn, 1, 0, 0) := by decide +kernel
theorem p96_17 {s0 : Int} {q0 q1 : MV} {ds : Ds} {m : Mm} {Q : Ds → Mm → List MV → Prop} : WP 96 17 [q0, q1] [(2, s0)] ds m Q = (Q ds m [(2, s0)]) := P_ra k96_17 rk96
set_option maxRecDepth 20000 in
theorem k97_0 : mjCode 97 0 = some (.iload_n 1, 1, 0, 0) := by decide +kernel
theorem p97_0 {l1 : Int} {q0 : MV} {ds : Ds} {m : Mm} {Q : Ds → Mm → List MV → Prop} : WP 97 0 [q0, (0, l1)] [] ds m Q = (WP 97 1 [q0, (0, l1)] [(0, l1)] ds m Q) := P_nx k97_0 rfl
set_option maxRecDepth 20000 in
theorem k97_1 : mjCode 97 1 = some (.invokestatic 140, 3, 110, 1) := by decide +kernel
theorem p97_1 {s0 : Int} {q0 q1 : MV} {ds : Ds} {m : Mm} {Q : Ds → Mm → List MV → Prop} : WP 97 1 [q0, q1] [(0, s0)] ds m Q = (WP 109 0 [(0, s0)] [] ds m (fun d2 m2 r2 => WP 97 4 [q0, q1] (r2 ++ []) d2 m2 Q)) := P_cs k97_1 mx109 rfl rfl rfl rfl rfl rfl rfl
set_option maxRecDepth 20000 in
theorem k97_4 : mjCode 97 4 = some (.ifCond .ne 5, 3, 9, 0) := by decide +kernel
theorem p97_4 {s0 : Int} {q0 q1 : MV} {ds : Ds} {m : Mm} {Q : Ds → Mm → List MV → Prop} : WP 97 4 [q0, q1] [(0, s0)] ds m Q = (if s0 = 0 then WP 97 7 [q0, q1] [] ds m Q else WP 97 9 [q0, q1] [] ds m Q) := P_if k97_4 rfl
set_option maxRecDepth 20000 in
theorem k97_7 : mjCode 97 7 = some (.iconst (-1), 1, 0, 0) := by decide +kernel
theorem p97_7 {q0 q1 : MV} {ds : Ds} {m : Mm} {Q : Ds → Mm → List MV → Prop} : WP 97 7 [q0, q1] [] ds m Q = (WP 97 8 [q0, q1] [(0, (-1))] ds m Q) := P_nx k97_7 rfl
set_option maxRecDepth 20000 in
theorem k97_8 : mjCode 97 8 = some (.ireturn, 1, 0, 0) := by decide +kernel
theorem p97_8 {s0 : Int} {q0 q1 : MV} {ds : Ds} {m : Mm} {Q : Ds → Mm → List MV → Prop} : WP 97 8 [q0, q1] [(0, s0)] ds m Q = (Q ds m [(0, s0)]) := P_ri k97_8 rk97
set_option maxRecDepth 20000 in
theorem k97_9 : mjCode 97 9 = some (.aload_n 0, 1, 0, 0) := by decide +kernel
theorem p97_9 {l0 : Int} {q1 : MV} {ds : Ds} {m : Mm} {Q : Ds → Mm → List MV → Prop} : WP 97 9 [(2, l0), q1] [] ds m Q = (WP 97 10 [(2, l0), q1] [(2, l0)] ds m Q) := P_nx k97_9 rfl
set_option maxRecDepth 20000 in
theorem k97_10 : mjCode 97 10 = some (.getfield 17, 3, 6, 3) := by decide +kernel
theorem p97_10 {s0 : Int} {q0 q1 : MV} {ds : Ds} {m : Mm} {Q : Ds → Mm → List MV → Prop} : WP 97 10 [q0, q1] [(2, s0)] ds m Q = ((dk ds s0 = 6 ∧ WP 97 13 [q0, q1] [(2, m s0 3)] ds m Q)) := P_gd k97_10 rfl
set_option maxRecDepth 20000 in
theorem k97_13 : mjCode 97 13 = some (.iload_n 1, 1, 0, 0) := by decide +kernel
theorem p97_13 {l1 s0 : Int} {q0 : MV} {ds : Ds} {m : Mm} {Q : Ds → Mm → List MV → Prop} : WP 97 13 [q0, (0, l1)] [(2, s0)] ds m Q = (WP 97 14 [q0, (0, l1)] [(0, l1), (2, s0)] ds m Q) := P_nx k97_13 rfl
set_option maxRecDepth 20000 in
theorem k97_14 : mjCode 97 14 = some (.aaload, 1, 0, 0) := by decide +kernel
theorem p97_14 {s0 s1 : Int} {q0 q1 : MV} {ds : Ds} {m : Mm} {Q : Ds → Mm → List MV → Prop} : WP 97 14 [q0, q1] [(0, s0), (2, s1)] ds m Q = (((dk ds s1 = 13 ∨ dk ds s1 = 14) ∧ 0 ≤ s0 ∧ s0 < dl ds s1 ∧ WP 97 15 [q0, q1] [(2, m s1 s0)] ds m Q)) := P_g3 k97_14 rfl
set_option maxRecDepth 20000 in
theorem k97_15 : mjCode 97 15 = some (.ifnull 8, 3, 23, 0) := by decide +kernel
theorem p97_15 {s0 : Int} {q0 q1 : MV} {ds : Ds} {m : Mm} {Q : Ds → Mm → List MV → Prop} : WP 97 15 [q0, q1] [(2, s0)] ds m Q = (if s0 < 0 then WP 97 23 [q0, q1] [] ds m Q else WP 97 18 [q0, q1] [] ds m Q) := P_if k97_15 rfl
set_option maxRecDepth 20000 in
theorem k97_18 : mjCode 97 18 = some (.bipush (-2), 2, 0, 0) := by decide +kernel
theorem p97_18 {q0 q1 : MV} {ds : Ds} {m : Mm} {Q : Ds → Mm → List MV → Prop} : WP 97 18 [q0, q1] [] ds m Q = (WP 97 20 [q0, q1] [(0, (-2))] ds m Q) := P_nx k97_18 rfl
set_option maxRecDepth 20000 in
theorem k97_20 : mjCode 97 20 = some (.goto 5, 3, 25, 0) := by decide +kernel
theorem p97_20 {s0 : Int} {q0 q1 : MV} {ds : Ds} {m : Mm} {Q : Ds → Mm → List MV → Prop} : WP 97 20 [q0, q1] [(0, s0)] ds m Q = (WP 97 25 [q0, q1] [(0, s0)] ds m Q) := P_nx k97_20 rfl
set_option maxRecDepth 20000 in
theorem k97_23 : mjCode 97 23 = some (.bipush (-3), 2, 0, 0) := by decide +kernel
theorem p97_23 {q0 q1 : MV} {ds : Ds} {m : Mm} {Q : Ds → Mm → List MV → Prop} : WP 97 23 [q0, q1] [] ds m Q = (WP 97 25 [q0, q1] [(0, (-3))] ds m Q) := P_nx k97_23 rfl
set_option maxRecDepth 20000 in
theorem k97_25 : mjCode 97 25 = some (.ireturn, 1, 0, 0) := by decide +kernel
theorem p97_25 {s0 : Int} {q0 q1 : MV} {ds : Ds} {m : Mm} {Q : Ds → Mm → List MV → Prop} : WP 97 25 [q0, q1] [(0, s0)] ds m Q = (Q ds m [(0, s0)]) := P_ri k97_25 rk97
set_option maxRecDepth 20000 in
theorem k98_0 : mjCode 98 0 = some (.iload_n 2, 1, 0, 0) := by decide +kernel
theorem p98_0 {l2 : Int} {q0 q1 q3 q4 q5 : MV} {ds : Ds} {m : Mm} {Q : Ds → Mm → List MV → Prop} : WP 98 0 [q0, q1, (0, l2), q3, q4, q5] [] ds m Q = (WP 98 1 [q0, q1, (0, l2), q3, q4, q5] [(0, l2)] ds m Q) := P_nx k98_0 rfl
set_option maxRecDepth 20000 in
theorem k98_1 : mjCode 98 1 = some (.bipush 10, 2, 0, 0) := by decide +kernel
theorem p98_1 {s0 : Int} {q0 q1 q2 q3 q4 q5 : MV} {ds : Ds} {m : Mm} {Q : Ds → Mm → List MV → Prop} : WP 98 1 [q0, q1, q2, q3, q4, q5] [(0, s0)] ds m Q = (WP 98 3 [q0, q1, q2, q3, q4, q5] [(0, 10), (0, s0)] ds m Q) := P_nx k98_1 rfl
set_option maxRecDepth 20000 in
theorem k98_3 : mjCode 98 3 = some (.if_icmp .ne 14, 3, 17, 0) := by decide +kernel
theorem p98_3 {s0 s1 : Int} {q0 q1 q2 q3 q4 q5 : MV} {ds : Ds} {m : Mm} {Q : Ds → Mm → List MV → Prop} : WP 98 3 [q0, q1, q2, q3, q4, q5] [(0, s0), (0, s1)] ds m Q = (if s1 = s0 then WP 98 6 [q0, q1, q2, q3, q4, q5] [] ds m Q else WP 98 17 [q0, q1, q2, q3, q4, q5] [] ds m Q) := P_if k98_3 rfl
set_option maxRecDepth 20000 in
theorem k98_6 : mjCode 98 6 = some (.aload_n 0, 1, 0, 0) := by decide +kernel
theorem p98_6 {l0 : Int} {q1 q2 q3 q4 q5 : MV} {ds : Ds} {m : Mm} {Q : Ds → Mm → List MV → Prop} : WP 98 6 [(2, l0), q1, q2, q3, q4, q5] [] ds m Q = (WP 98 7 [(2, l0), q1, q2, q3, q4, q5] [(2, l0)] ds m Q) := P_nx k98_6 rfl
set_option maxRecDepth 20000 in
theorem k98_7 : mjCode 98 7 = some (.getfield 49, 3, 6, 1) := by decide +kernel
theorem p98_7 {s0 : Int} {q0 q1 q2 q3 q4 q5 : MV} {ds : Ds} {m : Mm} {Q : Ds → Mm → List MV → Prop} : WP 98 7 [q0, q1, q2, q3, q4, q5] [(2, s0)] ds m Q = ((dk ds s0 = 6 ∧ WP 98 10 [q0, q1, q2, q3, q4, q5] [(2, m s0 1)] ds m Q)) := P_gd k98_7 rfl
set_option maxRecDepth 20000 in
theorem k98_10 : mjCode 98 10 = some (.iload_n 1, 1, 0, 0) := by decide +kernel
theorem p98_10 {l1 s0 : Int} {q0 q2 q3 q4 q5 : MV} {ds : Ds} {m : Mm} {Q : Ds → Mm → List MV → Prop} : WP 98 10 [q0, (0, l1), q2, q3, q4, q5] [(2, s0)] ds m Q = (WP 98 11 [q0, (0, l1), q2, q3, q4, q5] [(0, l1), (2, s0)] ds m Q) := P_nx k98_10 rfl
set_option maxRecDepth 20000 in
theorem k98_11 : mjCode 98 11 = some (.invokevirtual 95, 3, 34, 2) := by decide +kernel
theorem p98_11 {s0 s1 : Int} {q0 q1 q2 q3 q4 q5 : MV} {ds : Ds} {m : Mm} {Q : Ds → Mm → List MV → Prop} : WP 98 11 [q0, q1, q2, q3, q4, q5] [(0, s0), (2, s1)] ds m Q = ((dk ds s1 = 3 ∧ WP 33 0 [(2, s1), (0, s0), (3, 0)] [] ds m (fun d2 m2 r2 => WP 98 14 [q0, q1, q2, q3, q4, q5] (r2 ++ []) d2 m2 Q))) := P_cv k98_11 mx33 mo33 rfl rfl rfl rfl rfl rfl rfl rfl
set_option maxRecDepth 20000 in
theorem k98_14 : mjCode 98 14 = some (.goto 15, 3, 29, 0) := by decide +kernel
theorem p98_14 {s0 : Int} {q0 q1 q2 q3 q4 q5 : MV} {ds : Ds} {m : Mm} {Q : Ds → Mm → List MV → Prop} : WP 98 14 [q0, q1, q2, q3, q4, q5] [(0, s0)] ds m Q = (WP 98 29 [q0, q1, q2, q3, q4, q5] [(0, s0)] ds m Q) := P_nx k98_14 rfl
set_option maxRecDepth 20000 in
theorem k98_17 : mjCode 98 17 = some (.aload_n 0, 1, 0, 0) := by decide +kernel
theorem p98_17 {l0 : Int} {q1 q2 q3 q4 q5 : MV} {ds : Ds} {m : Mm} {Q : Ds → Mm → List MV → Prop} : WP 98 17 [(2, l0), q1, q2, q3, q4, q5] [] ds m Q = (WP 98 18 [(2, l0), q1, q2, q3, q4, q5] [(2, l0)] ds m Q) := P_nx k98_17 rfl
set_option maxRecDepth 20000 in
theorem k98_18 : mjCode 98 18 = some (.getfield 49, 3, 6, 1) := by decide +kernel
theorem p98_18 {s0 : Int} {q0 q1 q2 q3 q4 q5 : MV} {ds : Ds} {m : Mm} {Q : Ds → Mm → List MV → Prop} : WP 98 18 [q0, q1, q2, q3, q4, q5] [(2, s0)] ds m Q = ((dk ds s0 = 6 ∧ WP 98 21 [q0, q1, q2, q3, q4, q5] [(2, m s0 1)] ds m Q)) := P_gd k98_18 rfl
set_option maxRecDepth 20000 in
theorem k98_21 : mjCode 98 21 = some (.iload_n 1, 1, 0, 0) := by decide +kernel
theorem p98_21 {l1 s0 : Int} {q0 q2 q3 q4 q5 : MV} {ds : Ds} {m : Mm} {Q : Ds → Mm → List MV → Prop} : WP 98 21 [q0, (0, l1), q2, q3, q4, q5] [(2, s0)] ds m Q = (WP 98 22 [q0, (0, l1), q2, q3, q4, q5] [(0, l1), (2, s0)] ds m Q) := P_nx k98_21 rfl
set_option maxRecDepth 20000 in
theorem k98_22 : mjCode 98 22 = some (.iload_n 2, 1, 0, 0) := by decide +kernel
theorem p98_22 {l2 s0 s1 : Int} {q0 q1 q3 q4 q5 : MV} {ds : Ds} {m : Mm} {Q : Ds → Mm → List MV → Prop} : WP 98 22 [q0, q1, (0, l2), q3, q4, q5] [(0, s0), (2, s1)] ds m Q = (WP 98 23 [q0, q1, (0, l2), q3, q4, q5] [(0, l2), (0, s0), (2, s1)] ds m Q) := P_nx k98_22 rfl
set_option maxRecDepth 20000 in
theorem k98_23 : mjCode 98 23 = some (.iload_n 3, 1, 0, 0) := by decide +kernel
theorem p98_23 {l3 s0 s1 s2 : Int} {q0 q1 q2 q4 q5 : MV} {ds : Ds} {m : Mm} {Q : Ds → Mm → List MV → Prop} : WP 98 23 [q0, q1, q2, (0, l3), q4, q5] [(0, s0), (0, s1), (2, s2)] ds m Q = (WP 98 24 [q0, q1, q2, (0, l3), q4, q5] [(0, l3), (0, s0), (0, s1), (2, s2)] ds m Q) := P_nx k98_23 rfl
set_option maxRecDepth 20000 in
theorem k98_24 : mjCode 98 24 = some (.iload 4, 2, 0, 0) := by decide +kernel
theorem p98_24 {l4 s0 s1 s2 s3 : Int} {q0 q1 q2 q3 q5 : MV} {ds : Ds} {m : Mm} {Q : Ds → Mm → List MV → Prop} : WP 98 24 [q0, q1, q2, q3, (0, l4), q5] [(0, s0), (0, s1), (0, s2), (2, s3)] ds m Q = (WP 98 26 [q0, q1, q2, q3, (0, l4), q5] [(0, l4), (0, s0), (0, s1), (0, s2), (2, s3)] ds m Q) := P_nx k98_24 rfl
set_option maxRecDepth 20000 in
theorem k98_26 : mjCode 98 26 = some (.invokevirtual 77, 3, 33, 5) := by decide +kernel
theorem p98_26 {s0 s1 s2 s3 s4 : Int} {q0 q1 q2 q3 q4 q5 : MV} {ds : Ds} {m : Mm} {Q : Ds → Mm → List MV → Prop} : WP 98 26 [q0, q1, q2, q3, q4, q5] [(0, s0), (0, s1), (0, s2), (0, s3), (2, s4)] ds m Q = ((dk ds s4 = 3 ∧ WP 32 0 [(2, s4), (0, s3), (0, s2), (0, s1), (0, s0), (3, 0)] [] ds m (fun d2 m2 r2 => WP 98 29 [q0, q1, q2, q3, q4, q5] (r2 ++ []) d2 m2 Q))) := P_cv k98_26 mx32 mo32 rfl rfl rfl rfl rfl rfl rfl rfl
set_option maxRecDepth 20000 in
theorem k98_29 : mjCode 98 29 = some (.istore 5, 2, 0, 0) := by decide +kernel
theorem p98_29 {l4 s0 : Int} {q0 q1 q2 q3 q5 : MV} {ds : Ds} {m : Mm} {Q : Ds → Mm → List MV → Prop} : WP 98 29 [q0, q1, q2, q3, (0, l4), q5] [(0, s0)] ds m Q = (WP 98 31 [q0, q1, q2, q3, (0, l4), (0, s0)] [] ds m Q) := P_nx k98_29 rfl
set_option maxRecDepth 20000 in
theorem k98_31 : mjCode 98 31 = some (.iload 5, 2, 0, 0) := by decide +kernel
theorem p98_31 {l5 : Int} {q0 q1 q2 q3 q4 : MV} {ds : Ds} {m : Mm} {Q : Ds → Mm → List MV → Prop} : WP 98 31 [q0, q1, q2, q3, q4, (0, l5)] [] ds m Q = (WP 98 33 [q0, q1, q2, q3, q4, (0, l5)] [(0, l5)] ds m Q) := P_nx k98_31 rfl
set_option maxRecDepth 20000 in
theorem k98_33 : mjCode 98 33 = some (.ifCond .eq 20, 3, 53, 0) := by decide +kernel
theorem p98_33 {s0 : Int} {q0 q1 q2 q3 q4 q5 : MV} {ds : Ds} {m : Mm} {Q : Ds → Mm → List MV → Prop} : WP 98 33 [q0, q1, q2, q3, q4, q5] [(0, s0)] ds m Q = (if s0 = 0 then WP 98 53 [q0, q1, q2, q3, q4, q5] [] ds m Q else WP 98 36 [q0, q1, q2, q3, q4, q5] [] ds m Q) := P_if k98_33 rfl
set_option maxRecDepth 20000 in
theorem k98_36 : mjCode 98 36 = some (.iload_n 2, 1, 0, 0) := by decide +kernel
theorem p98_36 {l2 : Int} {q0 q1 q3 q4 q5 : MV} {ds : Ds} {m : Mm} {Q : Ds → Mm → List MV → Prop} : WP 98 36 [q0, q1, (0, l2), q3, q4, q5] [] ds m Q = (WP 98 37 [q0, q1, (0, l2), q3, q4, q5] [(0, l2)] ds m Q) := P_nx k98_36 rfl
set_option maxRecDepth 20000 in
theorem k98_37 : mjCode 98 37 = some (.bipush 10, 2, 0, 0) := by decide +kernel
theorem p98_37 {s0 : Int} {q0 q1 q2 q3 q4 q5 : MV} {ds : Ds} {m : Mm} {Q : Ds → Mm → List MV → Prop} : WP 98 37 [q0, q1, q2, q3, q4, q5] [(0, s0)] ds m Q = (WP 98 39 [q0, q1, q2, q3, q4, q5] [(0, 10), (0, s0)] ds m Q) := P_nx k98_37 rfl
set_option maxRecDepth 20000 in
theorem k98_39 : mjCode 98 39 = some (.if_icmp .ne 14, 3, 53, 0) := by decide +kernel
theorem p98_39 {s0 s1 : Int} {q0 q1 q2 q3 q4 q5 : MV} {ds : Ds} {m : Mm} {Q : Ds → Mm → List MV → Prop} : WP 98 39 [q0, q1, q2, q3, q4, q5] [(0, s0), (0, s1)] ds m Q = (if s1 = s0 then WP 98 42 [q0, q1, q2, q3, q4, q5] [] ds m Q else WP 98 53 [q0, q1, q2, q3, q4, q5] [] ds m Q) := P_if k98_39 rfl
set_option maxRecDepth 20000 in
theorem k98_42 : mjCode 98 42 = some (.aload_n 0, 1, 0, 0) := by decide +kernel
theorem p98_42 {l0 : Int} {q1 q2 q3 q4 q5 : MV} {ds : Ds} {m : Mm} {Q : Ds → Mm → List MV → Prop} : WP 98 42 [(2, l0), q1, q2, q3, q4, q5] [] ds m Q = (WP 98 43 [(2, l0), q1, q2, q3, q4, q5] [(2, l0)] ds m Q) := P_nx k98_42 rfl
set_option maxRecDepth 20000 in
theorem k98_43 : mjCode 98 43 = some (.getfield 49, 3, 6, 1) := by decide +kernel
theorem p98_43 {s0 : Int} {q0 q1 q2 q3 q4 q5 : MV} {ds : Ds} {m : Mm} {Q : Ds → Mm → List MV → Prop} : WP 98 43 [q0, q1, q2, q3, q4, q5] [(2, s0)] ds m Q = ((dk ds s0 = 6 ∧ WP 98 46 [q0, q1, q2, q3, q4, q5] [(2, m s0 1)] ds m Q)) := P_gd k98_43 rfl
set_option maxRecDepth 20000 in
theorem k98_46 : mjCode 98 46 = some (.iload_n 1, 1, 0, 0) := by decide +kernel
theorem p98_46 {l1 s0 : Int} {q0 q2 q3 q4 q5 : MV} {ds : Ds} {m : Mm} {Q : Ds → Mm → List MV → Prop} : WP 98 46 [q0, (0, l1), q2, q3, q4, q5] [(2, s0)] ds m Q = (WP 98 47 [q0, (0, l1), q2, q3, q4, q5] [(0, l1), (2, s0)] ds m Q) := P_nx k98_46 rfl
set_option maxRecDepth 20000 in
theorem k98_47 : mjCode 98 47 = some (.invokevirtual 98, 3, 37, 2) := by decide +kernel
theorem p98_47 {s0 s1 : Int} {q0 q1 q2 q3 q4 q5 : MV} {ds : Ds} {m : Mm} {Q : Ds → Mm → List MV → Prop} : WP 98 47 [q0, q1, q2, q3, q4, q5] [(0, s0), (2, s1)] ds m Q = ((dk ds s1 = 3 ∧ WP 36 0 [(2, s1), (0, s0)] [] ds m (fun d2 m2 r2 => WP 98 50 [q0, q1, q2, q3, q4, q5] (r2 ++ []) d2 m2 Q))) := P_cv k98_47 mx36 mo36 rfl rfl rfl rfl rfl rfl rfl rfl
set_option maxRecDepth 20000 in
theorem k98_50 : mjCode 98 50 = some (.goto 20, 3, 70, 0) := by decide +kernel
theorem p98_50 {q0 q1 q2 q3 q4 q5 : MV} {ds : Ds} {m : Mm} {Q : Ds → Mm → List MV → Prop} : WP 98 50 [q0, q1, q2, q3, q4, q5] [] ds m Q = (WP 98 70 [q0, q1, q2, q3, q4, q5] [] ds m Q) := P_nx k98_50 rfl
set_option maxRecDepth 20000 in
theorem k98_53 : mjCode 98 53 = some (.iload 5, 2, 0, 0) := by decide +kernel
theorem p98_53 {l5 : Int} {q0 q1 q2 q3 q4 : MV} {ds : Ds} {m : Mm} {Q : Ds → Mm → List MV → Prop} : WP 98 53 [q0, q1, q2, q3, q4, (0, l5)] [] ds m Q = (WP 98 55 [q0, q1, q2, q3, q4, (0, l5)] [(0, l5)] ds m Q) := P_nx k98_53 rfl
set_option maxRecDepth 20000 in
theorem k98_55 : mjCode 98 55 = some (.ifCond .eq 15, 3, 70, 0) := by decide +kernel
theorem p98_55 {s0 : Int} {q0 q1 q2 q3 q4 q5 : MV} {ds : Ds} {m : Mm} {Q : Ds → Mm → List MV → Prop} : WP 98 55 [q0, q1, q2, q3, q4, q5] [(0, s0)] ds m Q = (if s0 = 0 then WP 98 70 [q0, q1, q2, q3, q4, q5] [] ds m Q else WP 98 58 [q0, q1, q2, q3, q4, q5] [] ds m Q) := P_if k98_55 rfl
set_option maxRecDepth 20000 in
theorem k98_58 : mjCode 98 58 = some (.aload_n 0, 1, 0, 0) := by decide +kernel
theorem p98_58 {l0 : Int} {q1 q2 q3 q4 q5 : MV} {ds : Ds} {m : Mm} {Q : Ds → Mm → List MV → Prop} : WP 98 58 [(2, l0), q1, q2, q3, q4, q5] [] ds m Q = (WP 98 59 [(2, l0), q1, q2, q3, q4, q5] [(2, l0)] ds m Q) := P_nx k98_58 rfl
set_option maxRecDepth 20000 in
theorem k98_59 : mjCode 98 59 = some (.getfield 49, 3, 6, 1) := by decide +kernel
theorem p98_59 {s0 : Int} {q0 q1 q2 q3 q4 q5 : MV} {ds : Ds} {m : Mm} {Q : Ds → Mm → List MV → Prop} : WP 98 59 [q0, q1, q2, q3, q4, q5] [(2, s0)] ds m Q = ((dk ds s0 = 6 ∧ WP 98 62 [q0, q1, q2, q3, q4, q5] [(2, m s0 1)] ds m Q)) := P_gd k98_59 rfl
set_option maxRecDepth 20000 in
theorem k98_62 : mjCode 98 62 = some (.iload_n 1, 1, 0, 0) := by decide +kernel
theorem p98_62 {l1 s0 : Int} {q0 q2 q3 q4 q5 : MV} {ds : Ds} {m : Mm} {Q : Ds → Mm → List MV → Prop} : WP 98 62 [q0, (0, l1), q2, q3, q4, q5] [(2, s0)] ds m Q = (WP 98 63 [q0, (0, l1), q2, q3, q4, q5] [(0, l1), (2, s0)] ds m Q) := P_nx k98_62 rfl
set_option maxRecDepth 20000 in
theorem k98_63 : mjCode 98 63 = some (.iload_n 2, 1, 0, 0) := by decide +kernel
theorem p98_63 {l2 s0 s1 : Int} {q0 q1 q3 q4 q5 : MV} {ds : Ds} {m : Mm} {Q : Ds → Mm → List MV → Prop} : WP 98 63 [q0, q1, (0, l2), q3, q4, q5] [(0, s0), (2, s1)] ds m Q = (WP 98 64 [q0, q1, (0, l2), q3, q4, q5] [(0, l2), (0, s0), (2, s1)] ds m Q) := P_nx k98_63 rfl
set_option maxRecDepth 20000 in
theorem k98_64 : mjCode 98 64 = some (.iload_n 3, 1, 0, 0) := by decide +kernel
theorem p98_64 {l3 s0 s1 s2 : Int} {q0 q1 q2 q4 q5 : MV} {ds : Ds} {m : Mm} {Q : Ds → Mm → List MV → Prop} : WP 98 64 [q0, q1, q2, (0, l3), q4, q5] [(0, s0), (0, s1), (2, s2)] ds m Q = (WP 98 65 [q0, q1, q2, (0, l3), q4, q5] [(0, l3), (0, s0), (0, s1), (2, s2)] ds m Q) := P_nx k98_64 rfl
set_option maxRecDepth 20000 in
theorem k98_65 : mjCode 98 65 = some (.iload 4, 2, 0, 0) := by decide +kernel
theorem p98_65 {l4 s0 s1 s2 s3 : Int} {q0 q1 q2 q3 q5 : MV} {ds : Ds} {m : Mm} {Q : Ds → Mm → List MV → Prop} : WP 98 65 [q0, q1, q2, q3, (0, l4), q5] [(0, s0), (0, s1), (0, s2), (2, s3)] ds m Q = (WP 98 67 [q0, q1, q2, q3, (0, l4), q5] [(0, l4), (0, s0), (0, s1), (0, s2), (2, s3)] ds m Q) := P_nx k98_65 rfl
set_option maxRecDepth 20000 in
theorem k98_67 : mjCode 98 67 = some (.invokevirtual 81, 3, 35, 5) := by decide +kernel
theorem p98_67 {s0 s1 s2 s3 s4 : Int} {q0 q1 q2 q3 q4 q5 : MV} {ds : Ds} {m : Mm} {Q : Ds → Mm → List MV → Prop} : WP 98 67 [q0, q1, q2, q3, q4, q5] [(0, s0), (0, s1), (0, s2), (0, s3), (2, s4)] ds m Q = ((dk ds s4 = 3 ∧ WP 34 0 [(2, s4), (0, s3), (0, s2), (0, s1), (0, s0)] [] ds m (fun d2 m2 r2 => WP 98 70 [q0, q1, q2, q3, q4, q5] (r2 ++ []) d2 m2 Q))) := P_cv k98_67 mx34 mo34 rfl rfl rfl rfl rfl rfl rfl rfl
set_option maxRecDepth 20000 in
theorem k98_70 : mjCode 98 70 = some (.iload 5, 2, 0, 0) := by decide +kernel
theorem p98_70 {l5 : Int} {q0 q1 q2 q3 q4 : MV} {ds : Ds} {m : Mm} {Q : Ds → Mm → List MV → Prop} : WP 98 70 [q0, q1, q2, q3, q4, (0, l5)] [] ds m Q = (WP 98 72 [q0, q1, q2, q3, q4, (0, l5)] [(0, l5)] ds m Q) := P_nx k98_70 rfl
set_option maxRecDepth 20000 in
theorem k98_72 : mjCode 98 72 = some (.ireturn, 1, 0, 0) := by decide +kernel
theorem p98_72 {s0 : Int} {q0 q1 q2 q3 q4 q5 : MV} {ds : Ds} {m : Mm} {Q : Ds → Mm → List MV → Prop} : WP 98 72 [q0, q1, q2, q3, q4, q5] [(0, s0)] ds m Q = (((s0 = 0 ∨ s0 = 1) ∧ Q ds m [(0, s0)])) := P_rb k98_72 rk98
set_option maxRecDepth 20000 in
theorem k99_0 : mjCode 99 0 = some (.aload_n 0, 1, 0, 0) := by decide +kernel
theorem p99_0 {l0 : Int} {q1 : MV} {ds : Ds} {m : Mm} {Q : Ds → Mm → List MV → Prop} : WP 99 0 [(2, l0), q1] [] ds m Q = (WP 99 1 [(2, l0), q1] [(2, l0)] ds m Q) := P_nx k99_0 rfl
set_option maxRecDepth 20000 in
theorem k99_1 : mjCode 99 1 = some (.getfield 261, 3, 6, 9) := by decide +kernel
theorem p99_1 {s0 : Int} {q0 q1 : MV} {ds : Ds} {m : Mm} {Q : Ds → Mm → List MV → Prop} : WP 99 1 [q0, q1] [(2, s0)] ds m Q = ((dk ds s0 = 6 ∧ WP 99 4 [q0, q1] [(0, m s0 9)] ds m Q)) := P_gd k99_1 rfl
set_option maxRecDepth 20000 in
theorem k99_4 : mjCode 99 4 = some (.aload_n 0, 1, 0, 0) := by decide +kernel
theorem p99_4 {l0 s0 : Int} {q1 : MV} {ds : Ds} {m : Mm} {Q : Ds → Mm → List MV → Prop} : WP 99 4 [(2, l0), q1] [(0, s0)] ds m Q = (WP 99 5 [(2, l0), q1] [(2, l0), (0, s0)] ds m Q) := P_nx k99_4 rfl
set_option maxRecDepth 20000 in
theorem k99_5 : mjCode 99 5 = some (.getfield 25, 3, 6, 8) := by decide +kernel
theorem p99_5 {s0 s1 : Int} {q0 q1 : MV} {ds : Ds} {m : Mm} {Q : Ds → Mm → List MV → Prop} : WP 99 5 [q0, q1] [(2, s0), (0, s1)] ds m Q = ((dk ds s0 = 6 ∧ WP 99 8 [q0, q1] [(2, m s0 8), (0, s1)] ds m Q)) := P_gd k99_5 rfl
set_option maxRecDepth 20000 in
theorem k99_8 : mjCode 99 8 = some (.arraylength, 1, 0, 0) := by decide +kernel
theorem p99_8 {s0 s1 : Int} {q0 q1 : MV} {ds : Ds} {m : Mm} {Q : Ds → Mm → List MV → Prop} : WP 99 8 [q0, q1] [(2, s0), (0, s1)] ds m Q = (((10 ≤ dk ds s0 ∧ dk ds s0 ≤ 14) ∧ WP 99 9 [q0, q1] [(0, (dl ds s0 : Int)), (0, s1)] ds m Q)) := P_gd k99_8 rfl
set_option maxRecDepth 20000 in
theorem k99_9 : mjCode 99 9 = some (.if_icmp .ge 23, 3, 32, 0) := by decide +kernel
theorem p99_9 {s0 s1 : Int} {q0 q1 : MV} {ds : Ds} {m : Mm} {Q : Ds → Mm → List MV → Prop} : WP 99 9 [q0, q1] [(0, s0), (0, s1)] ds m Q = (if s1 < s0 then WP 99 12 [q0, q1] [] ds m Q else WP 99 32 [q0, q1] [] ds m Q) := P_if k99_9 rfl
set_option maxRecDepth 20000 in
theorem k99_12 : mjCode 99 12 = some (.aload_n 0, 1, 0, 0) := by decide +kernel
theorem p99_12 {l0 : Int} {q1 : MV} {ds : Ds} {m : Mm} {Q : Ds → Mm → List MV → Prop} : WP 99 12 [(2, l0), q1] [] ds m Q = (WP 99 13 [(2, l0), q1] [(2, l0)] ds m Q) := P_nx k99_12 rfl
set_option maxRecDepth 20000 in
theorem k99_13 : mjCode 99 13 = some (.getfield 25, 3, 6, 8) := by decide +kernel
theorem p99_13 {s0 : Int} {q0 q1 : MV} {ds : Ds} {m : Mm} {Q : Ds → Mm → List MV → Prop} : WP 99 13 [q0, q1] [(2, s0)] ds m Q = ((dk ds s0 = 6 ∧ WP 99 16 [q0, q1] [(2, m s0 8)] ds m Q)) := P_gd k99_13 rfl
set_option maxRecDepth 20000 in
theorem k99_16 : mjCode 99 16 = some (.aload_n 0, 1, 0, 0) := by decide +kernel
theorem p99_16 {l0 s0 : Int} {q1 : MV} {ds : Ds} {m : Mm} {Q : Ds → Mm → List MV → Prop} : WP 99 16 [(2, l0), q1] [(2, s0)] ds m Q = (WP 99 17 [(2, l0), q1] [(2, l0), (2, s0)] ds m Q) := P_nx k99_16 rfl
set_option maxRecDepth 20000 in
theorem k99_17 : mjCode 99 17 = some (.getfield 261, 3, 6, 9) := by decide +kernel
theorem p99_17 {s0 s1 : Int} {q0 q1 : MV} {ds : Ds} {m : Mm} {Q : Ds → Mm → List MV → Prop} : WP 99 17 [q0, q1] [(2, s0), (2, s1)] ds m Q = ((dk ds s0 = 6 ∧ WP 99 20 [q0, q1] [(0, m s0 9), (2, s1)] ds m Q)) := P_gd k99_17 rfl
set_option maxRecDepth 20000 in
theorem k99_20 : mjCode 99 20 = some (.iload_n 1, 1, 0, 0) := by decide +kernel
theorem p99_20 {l1 s0 s1 : Int} {q0 : MV} {ds : Ds} {m : Mm} {Q : Ds → Mm → List MV → Prop} : WP 99 20 [q0, (0, l1)] [(0, s0), (2, s1)] ds m Q = (WP 99 21 [q0, (0, l1)] [(0, l1), (0, s0), (2, s1)] ds m Q) := P_nx k99_20 rfl
set_option maxRecDepth 20000 in
theorem k99_21 : mjCode 99 21 = some (.iastore, 1, 0, 0) := by decide +kernel
theorem p99_21 {s0 s1 s2 : Int} {q0 q1 : MV} {ds : Ds} {m : Mm} {Q : Ds → Mm → List MV → Prop} : WP 99 21 [q0, q1] [(0, s0), (0, s1), (2, s2)] ds m Q = ((dk ds s2 = 10 ∧ 0 ≤ s1 ∧ s1 < dl ds s2 ∧ WP 99 22 [q0, q1] [] ds (up m s2 s1 s0) Q)) := P_s3 k99_21 rfl
set_option maxRecDepth 20000 in
theorem k99_22 : mjCode 99 22 = some (.aload_n 0, 1, 0, 0) := by decide +kernel
theorem p99_22 {l0 : Int} {q1 : MV} {ds : Ds} {m : Mm} {Q : Ds → Mm → List MV → Prop} : WP 99 22 [(2, l0), q1] [] ds m Q = (WP 99 23 [(2, l0), q1] [(2, l0)] ds m Q) := P_nx k99_22 rfl
set_option maxRecDepth 20000 in
theorem k99_23 : mjCode 99 23 = some (.dup, 1, 0, 0) := by decide +kernel
theorem p99_23 {s0 : Int} {q0 q1 : MV} {ds : Ds} {m : Mm} {Q : Ds → Mm → List MV → Prop} : WP 99 23 [q0, q1] [(2, s0)] ds m Q = (WP 99 24 [q0, q1] [(2, s0), (2, s0)] ds m Q) := P_nx k99_23 rfl
set_option maxRecDepth 20000 in
theorem k99_24 : mjCode 99 24 = some (.getfield 261, 3, 6, 9) := by decide +kernel
theorem p99_24 {s0 s1 : Int} {q0 q1 : MV} {ds : Ds} {m : Mm} {Q : Ds → Mm → List MV → Prop} : WP 99 24 [q0, q1] [(2, s0), (2, s1)] ds m Q = ((dk ds s0 = 6 ∧ WP 99 27 [q0, q1] [(0, m s0 9), (2, s1)] ds m Q)) := P_gd k99_24 rfl
set_option maxRecDepth 20000 in
theorem k99_27 : mjCode 99 27 = some (.iconst 1, 1, 0, 0) := by decide +kernel
theorem p99_27 {s0 s1 : Int} {q0 q1 : MV} {ds : Ds} {m : Mm} {Q : Ds → Mm → List MV → Prop} : WP 99 27 [q0, q1] [(0, s0), (2, s1)] ds m Q = (WP 99 28 [q0, q1] [(0, 1), (0, s0), (2, s1)] ds m Q) := P_nx k99_27 rfl
set_option maxRecDepth 20000 in
theorem k99_28 : mjCode 99 28 = some (.iadd, 1, 0, 0) := by decide +kernel
theorem p99_28 {s0 s1 s2 : Int} {q0 q1 : MV} {ds : Ds} {m : Mm} {Q : Ds → Mm → List MV → Prop} : WP 99 28 [q0, q1] [(0, s0), (0, s1), (2, s2)] ds m Q = (WP 99 29 [q0, q1] [(0, w32 (s1 + s0)), (2, s2)] ds m Q) := P_nx k99_28 rfl
set_option maxRecDepth 20000 in
theorem k99_29 : mjCode 99 29 = some (.putfield 261, 3, 6, 9) := by decide +kernel
theorem p99_29 {s0 s1 : Int} {q0 q1 : MV} {ds : Ds} {m : Mm} {Q : Ds → Mm → List MV → Prop} : WP 99 29 [q0, q1] [(0, s0), (2, s1)] ds m Q = ((dk ds s1 = 6 ∧ WP 99 32 [q0, q1] [] ds (up m s1 9 s0) Q)) := P_pf k99_29 rfl
set_option maxRecDepth 20000 in
theorem k99_32 : mjCode 99 32 = some (.return_, 1, 0, 0) := by decide +kernel
theorem p99_32 {q0 q1 : MV} {ds : Ds} {m : Mm} {Q : Ds → Mm → List MV → Prop} : WP 99 32 [q0, q1] [] ds m Q = (Q ds m []) := P_rv k99_32 rk99
set_option maxRecDepth 20000 in
theorem k100_0 : mjCode 100 0 = some (.aload_n 0, 1, 0, 0) := by decide +kernel
theorem p100_0 {l0 : Int} {q1 : MV} {ds : Ds} {m : Mm} {Q : Ds → Mm → List MV → Prop} : WP 100 0 [(2, l0), q1] [] ds m Q = (WP 100 1 [(2, l0), q1] [(2, l0)] ds m Q) := P_nx k100_0 rfl
set_option maxRecDepth 20000 in
theorem k100_1 : mjCode 100 1 = some (.getfield 276, 3, 6, 11) := by decide +kernel
theorem p100_1 {s0 : Int} {q0 q1 : MV} {ds : Ds} {m : Mm} {Q : Ds → Mm → List MV → Prop} : WP 100 1 [q0, q1] [(2, s0)] ds m Q = ((dk ds s0 = 6 ∧ WP 100 4 [q0, q1] [(0, m s0 11)] ds m Q)) := P_gd k100_1 rfl
set_option maxRecDepth 20000 in
theorem k100_4 : mjCode 100 4 = some (.aload_n 0, 1, 0, 0) := by decide +kernel
theorem p100_4 {l0 s0 : Int} {q1 : MV} {ds : Ds} {m : Mm} {Q : Ds → Mm → List MV → Prop} : WP 100 4 [(2, l0), q1] [(0, s0)] ds m Q = (WP 100 5 [(2, l0), q1] [(2, l0), (0, s0)] ds m Q) := P_nx k100_4 rfl
set_option maxRecDepth 20000 in
theorem k100_5 : mjCode 100 5 = some (.getfield 28, 3, 6, 10) := by decide +kernel
theorem p100_5 {s0 s1 : Int} {q0 q1 : MV} {ds : Ds} {m : Mm} {Q : Ds → Mm → List MV → Prop} : WP 100 5 [q0, q1] [(2, s0), (0, s1)] ds m Q = ((dk ds s0 = 6 ∧ WP 100 8 [q0, q1] [(2, m s0 10), (0, s1)] ds m Q)) := P_gd k100_5 rfl
set_option maxRecDepth 20000 in
theorem k100_8 : mjCode 100 8 = some (.arraylength, 1, 0, 0) := by decide +kernel
theorem p100_8 {s0 s1 : Int} {q0 q1 : MV} {ds : Ds} {m : Mm} {Q : Ds → Mm → List MV → Prop} : WP 100 8 [q0, q1] [(2, s0), (0, s1)] ds m Q = (((10 ≤ dk ds s0 ∧ dk ds s0 ≤ 14) ∧ WP 100 9 [q0, q1] [(0, (dl ds s0 : Int)), (0, s1)] ds m Q)) := P_gd k100_8 rfl
set_option maxRecDepth 20000 in
theorem k100_9 : mjCode 100 9 = some (.if_icmp .ge 23, 3, 32, 0) := by decide +kernel
theorem p100_9 {s0 s1 : Int} {q0 q1 : MV} {ds : Ds} {m : Mm} {Q : Ds → Mm → List MV → Prop} : WP 100 9 [q0, q1] [(0, s0), (0, s1)] ds m Q = (if s1 < s0 then WP 100 12 [q0, q1] [] ds m Q else WP 100 32 [q0, q1] [] ds m Q) := P_if k100_9 rfl
set_option maxRecDepth 20000 in
theorem k100_12 : mjCode 100 12 = some (.aload_n 0, 1, 0, 0) := by decide +kernel
theorem p100_12 {l0 : Int} {q1 : MV} {ds : Ds} {m : Mm} {Q : Ds → Mm → List MV → Prop} : WP 100 12 [(2, l0), q1] [] ds m Q = (WP 100 13 [(2, l0), q1] [(2, l0)] ds m Q) := P_nx k100_12 rfl
set_option maxRecDepth 20000 in
theorem k100_13 : mjCode 100 13 = some (.getfield 28, 3, 6, 10) := by decide +kernel
theorem p100_13 {s0 : Int} {q0 q1 : MV} {ds : Ds} {m : Mm} {Q : Ds → Mm → List MV → Prop} : WP 100 13 [q0, q1] [(2, s0)] ds m Q = ((dk ds s0 = 6 ∧ WP 100 16 [q0, q1] [(2, m s0 10)] ds m Q)) := P_gd k100_13 rfl
set_option maxRecDepth 20000 in
theorem k100_16 : mjCode 100 16 = some (.aload_n 0, 1, 0, 0) := by decide +kernel
theorem p100_16 {l0 s0 : Int} {q1 : MV} {ds : Ds} {m : Mm} {Q : Ds → Mm → List MV → Prop} : WP 100 16 [(2, l0), q1] [(2, s0)] ds m Q = (WP 100 17 [(2, l0), q1] [(2, l0), (2, s0)] ds m Q) := P_nx k100_16 rfl
set_option maxRecDepth 20000 in
theorem k100_17 : mjCode 100 17 = some (.getfield 276, 3, 6, 11) := by decide +kernel
theorem p100_17 {s0 s1 : Int} {q0 q1 : MV} {ds : Ds} {m : Mm} {Q : Ds → Mm → List MV → Prop} : WP 100 17 [q0, q1] [(2, s0), (2, s1)] ds m Q = ((dk ds s0 = 6 ∧ WP 100 20 [q0, q1] [(0, m s0 11), (2, s1)] ds m Q)) := P_gd k100_17 rfl
set_option maxRecDepth 20000 in
theorem k100_20 : mjCode 100 20 = some (.iload_n 1, 1, 0, 0) := by decide +kernel
theorem p100_20 {l1 s0 s1 : Int} {q0 : MV} {ds : Ds} {m : Mm} {Q : Ds → Mm → List MV → Prop} : WP 100 20 [q0, (0, l1)] [(0, s0), (2, s1)] ds m Q = (WP 100 21 [q0, (0, l1)] [(0, l1), (0, s0), (2, s1)] ds m Q) := P_nx k100_20 rfl
set_option maxRecDepth 20000 in
theorem k100_21 : mjCode 100 21 = some (.iastore, 1, 0, 0) := by decide +kernel
theorem p100_21 {s0 s1 s2 : Int} {q0 q1 : MV} {ds : Ds} {m : Mm} {Q : Ds → Mm → List MV → Prop} : WP 100 21 [q0, q1] [(0, s0), (0, s1), (2, s2)] ds m Q = ((dk ds s2 = 10 ∧ 0 ≤ s1 ∧ s1 < dl ds s2 ∧ WP 100 22 [q0, q1] [] ds (up m s2 s1 s0) Q)) := P_s3 k100_21 rfl
set_option maxRecDepth 20000 in
theorem k100_22 : mjCode 100 22 = some (.aload_n 0, 1, 0, 0) := by decide +kernel
theorem p100_22 {l0 : Int} {q1 : MV} {ds : Ds} {m : Mm} {Q : Ds → Mm → List MV → Prop} : WP 100 22 [(2, l0), q1] [] ds m Q = (WP 100 23 [(2, l0), q1] [(2, l0)] ds m Q) := P_nx k100_22 rfl
set_option maxRecDepth 20000 in
theorem k100_23 : mjCode 100 23 = some (.dup, 1, 0, 0) := by decide +kernel
theorem p100_23 {s0 : Int} {q0 q1 : MV} {ds : Ds} {m : Mm} {Q : Ds → Mm → List MV → Prop} : WP 100 23 [q0, q1] [(2, s0)] ds m Q = (WP 100 24 [q0, q1] [(2, s0), (2, s0)] ds m Q) := P_nx k100_23 rfl
set_option maxRecDepth 20000 in
theorem k100_24 : mjCode 100 24 = some (.getfield 276, 3, 6, 11) := by decide +kernel
theorem p100_24 {s0 s1 : Int} {q0 q1 : MV} {ds : Ds} {m : Mm} {Q : Ds → Mm → List MV → Prop} : WP 100 24 [q0, q1] [(2, s0), (2, s1)] ds m Q = ((dk ds s0 = 6 ∧ WP 100 27 [q0, q1] [(0, m s0 11), (2, s1)] ds m Q)) := P_gd k100_24 rfl
set_option maxRecDepth 20000 in
theorem k100_27 : mjCode 100 27 = some (.iconst 1, 1, 0, 0) := by decide +kernel
theorem p100_27 {s0 s1 : Int} {q0 q1 : MV} {ds : Ds} {m : Mm} {Q : Ds → Mm → List MV → Prop} : WP 100 27 [q0, q1] [(0, s0), (2, s1)] ds m Q = (WP 100 28 [q0, q1] [(0, 1), (0, s0), (2, s1)] ds m Q) := P_nx k100_27 rfl
set_option maxRecDepth 20000 in
theorem k100_28 : mjCode 100 28 = some (.iadd, 1, 0, 0) := by decide +kernel
theorem p100_28 {s0 s1 s2 : Int} {q0 q1 : MV} {ds : Ds} {m : Mm} {Q : Ds → Mm → List MV → Prop} : WP 100 28 [q0, q1] [(0, s0), (0, s1), (2, s2)] ds m Q = (WP 100 29 [q0, q1] [(0, w32 (s1 + s0)), (2, s2)] ds m Q) := P_nx k100_28 rfl
set_option maxRecDepth 20000 in
theorem k100_29 : mjCode 100 29 = some (.putfield 276, 3, 6, 11) := by decide +kernel
theorem p100_29 {s0 s1 : Int} {q0 q1 : MV} {ds : Ds} {m : Mm} {Q : Ds → Mm → List MV → Prop} : WP 100 29 [q0, q1] [(0, s0), (2, s1)] ds m Q = ((dk ds s1 = 6 ∧ WP 100 32 [q0, q1] [] ds (up m s1 11 s0) Q)) := P_pf k100_29 rfl
set_option maxRecDepth 20000 in
theorem k100_32 : mjCode 100 32 = some (.return_, 1, 0, 0) := by decide +kernel
theorem p100_32 {q0 q1 : MV} {ds : Ds} {m : Mm} {Q : Ds → Mm → List MV → Prop} : WP 100 32 [q0, q1] [] ds m Q = (Q ds m []) := P_rv k100_32 rk100
set_option maxRecDepth 20000 in
theorem k101_0 : mjCode 101 0 = some (.aload_n 0, 1, 0, 0) := by decide +kernel
theorem p101_0 {l0 : Int} {q1 q2 q3 q4 : MV} {ds : Ds} {m : Mm} {Q : Ds → Mm → List MV → Prop} : WP 101 0 [(2, l0), q1, q2, q3, q4] [] ds m Q = (WP 101 1 [(2, l0), q1, q2, q3, q4] [(2, l0)] ds m Q) := P_nx k101_0 rfl
set_option maxRecDepth 20000 in
theorem k101_1 : mjCode 101 1 = some (.getfield 66, 3, 6, 5) := by decide +kernel
theorem p101_1 {s0 : Int} {q0 q1 q2 q3 q4 : MV} {ds : Ds} {m : Mm} {Q : Ds → Mm → List MV → Prop} : WP 101 1 [q0, q1, q2, q3, q4] [(2, s0)] ds m Q = ((dk ds s0 = 6 ∧ WP 101 4 [q0, q1, q2, q3, q4] [(2, m s0 5)] ds m Q)) := P_gd k101_1 rfl
set_option maxRecDepth 20000 in
theorem k101_4 : mjCode 101 4 = some (.aload_n 0, 1, 0, 0) := by decide +kernel
theorem p101_4 {l0 s0 : Int} {q1 q2 q3 q4 : MV} {ds : Ds} {m : Mm} {Q : Ds → Mm → List MV → Prop} : WP 101 4 [(2, l0), q1, q2, q3, q4] [(2, s0)] ds m Q = (WP 101 5 [(2, l0), q1, q2, q3, q4] [(2, l0), (2, s0)] ds m Q) := P_nx k101_4 rfl
set_option maxRecDepth 20000 in
theorem k101_5 : mjCode 101 5 = some (.getfield 49, 3, 6, 1) := by decide +kernel
theorem p101_5 {s0 s1 : Int} {q0 q1 q2 q3 q4 : MV} {ds : Ds} {m : Mm} {Q : Ds → Mm → List MV → Prop} : WP 101 5 [q0, q1, q2, q3, q4] [(2, s0), (2, s1)] ds m Q = ((dk ds s0 = 6 ∧ WP 101 8 [q0, q1, q2, q3, q4] [(2, m s0 1), (2, s1)] ds m Q)) := P_gd k101_5 rfl
set_option maxRecDepth 20000 in
theorem k101_8 : mjCode 101 8 = some (.iconst (-1), 1, 0, 0) := by decide +kernel
theorem p101_8 {s0 s1 : Int} {q0 q1 q2 q3 q4 : MV} {ds : Ds} {m : Mm} {Q : Ds → Mm → List MV → Prop} : WP 101 8 [q0, q1, q2, q3, q4] [(2, s0), (2, s1)] ds m Q = (WP 101 9 [q0, q1, q2, q3, q4] [(0, (-1)), (2, s0), (2, s1)] ds m Q) := P_nx k101_8 rfl
set_option maxRecDepth 20000 in
theorem k101_9 : mjCode 101 9 = some (.iconst (-1), 1, 0, 0) := by decide +kernel
theorem p101_9 {s0 s1 s2 : Int} {q0 q1 q2 q3 q4 : MV} {ds : Ds} {m : Mm} {Q : Ds → Mm → List MV → Prop} : WP 101 9 [q0, q1, q2, q3, q4] [(0, s0), (2, s1), (2, s2)] ds m Q = (WP 101 10 [q0, q1, q2, q3, q4] [(0, (-1)), (0, s0), (2, s1), (2, s2)] ds m Q) := P_nx k101_9 rfl
set_option maxRecDepth 20000 in
theorem k101_10 : mjCode 101 10 = some (.invokevirtual 191, 3, 52, 4) := by decide +kernel
theorem p101_10 {s0 s1 s2 s3 : Int} {q0 q1 q2 q3 q4 : MV} {ds : Ds} {m : Mm} {Q : Ds → Mm → List MV → Prop} : WP 101 10 [q0, q1, q2, q3, q4] [(0, s0), (0, s1), (2, s2), (2, s3)] ds m Q = ((dk ds s3 = 5 ∧ WP 51 0 [(2, s3), (2, s2), (0, s1), (0, s0), (3, 0)] [] ds m (fun d2 m2 r2 => WP 101 13 [q0, q1, q2, q3, q4] (r2 ++ []) d2 m2 Q))) := P_cv k101_10 mx51 mo51 rfl rfl rfl rfl rfl rfl rfl rfl
set_option maxRecDepth 20000 in
theorem k101_13 : mjCode 101 13 = some (.pop, 1, 0, 0) := by decide +kernel
theorem p101_13 {s0 : Int} {q0 q1 q2 q3 q4 : MV} {ds : Ds} {m : Mm} {Q : Ds → Mm → List MV → Prop} : WP 101 13 [q0, q1, q2, q3, q4] [(0, s0)] ds m Q = (WP 101 14 [q0, q1, q2, q3, q4] [] ds m Q) := P_nx k101_13 rfl
set_option maxRecDepth 20000 in
theorem k101_14 : mjCode 101 14 = some (.iconst 0, 1, 0, 0) := by decide +kernel
theorem p101_14 {q0 q1 q2 q3 q4 : MV} {ds : Ds} {m : Mm} {Q : Ds → Mm → List MV → Prop} : WP 101 14 [q0, q1, q2, q3, q4] [] ds m Q = (WP 101 15 [q0, q1, q2, q3, q4] [(0, 0)] ds m Q) := P_nx k101_14 rfl
set_option maxRecDepth 20000 in
theorem k101_15 : mjCode 101 15 = some (.istore 4, 2, 0, 0) := by decide +kernel
theorem p101_15 {l3 s0 : Int} {q0 q1 q2 q4 : MV} {ds : Ds} {m : Mm} {Q : Ds → Mm → List MV → Prop} : WP 101 15 [q0, q1, q2, (0, l3), q4] [(0, s0)] ds m Q = (WP 101 17 [q0, q1, q2, (0, l3), (0, s0)] [] ds m Q) := P_nx k101_15 rfl
set_option maxRecDepth 20000 in
theorem k101_17 : mjCode 101 17 = some (.iload 4, 2, 0, 0) := by decide +kernel
theorem p101_17 {l4 : Int} {q0 q1 q2 q3 : MV} {ds : Ds} {m : Mm} {Q : Ds → Mm → List MV → Prop} : WP 101 17 [q0, q1, q2, q3, (0, l4)] [] ds m Q = (WP 101 19 [q0, q1, q2, q3, (0, l4)] [(0, l4)] ds m Q) := P_nx k101_17 rfl
set_option maxRecDepth 20000 in
theorem k101_19 : mjCode 101 19 = some (.bipush 96, 2, 0, 0) := by decide +kernel
theorem p101_19 {s0 : Int} {q0 q1 q2 q3 q4 : MV} {ds : Ds} {m : Mm} {Q : Ds → Mm → List MV → Prop} : WP 101 19 [q0, q1, q2, q3, q4] [(0, s0)] ds m Q = (WP 101 21 [q0, q1, q2, q3, q4] [(0, 96), (0, s0)] ds m Q) := P_nx k101_19 rfl
set_option maxRecDepth 20000 in
theorem k101_21 : mjCode 101 21 = some (.if_icmp .ge 30, 3, 51, 0) := by decide +kernel
theorem p101_21 {s0 s1 : Int} {q0 q1 q2 q3 q4 : MV} {ds : Ds} {m : Mm} {Q : Ds → Mm → List MV → Prop} : WP 101 21 [q0, q1, q2, q3, q4] [(0, s0), (0, s1)] ds m Q = (if s1 < s0 then WP 101 24 [q0, q1, q2, q3, q4] [] ds m Q else WP 101 51 [q0, q1, q2, q3, q4] [] ds m Q) := P_if k101_21 rfl
set_option maxRecDepth 20000 in
theorem k101_24 : mjCode 101 24 = some (.iload 4, 2, 0, 0) := by decide +kernel
theorem p101_24 {l4 : Int} {q0 q1 q2 q3 : MV} {ds : Ds} {m : Mm} {Q : Ds → Mm → List MV → Prop} : WP 101 24 [q0, q1, q2, q3, (0, l4)] [] ds m Q = (WP 101 26 [q0, q1, q2, q3, (0, l4)] [(0, l4)] ds m Q) := P_nx k101_24 rfl
set_option maxRecDepth 20000 in
theorem k101_26 : mjCode 101 26 = some (.aload_n 1, 1, 0, 0) := by decide +kernel
theorem p101_26 {l1 s0 : Int} {q0 q2 q3 q4 : MV} {ds : Ds} {m : Mm} {Q : Ds → Mm → List MV → Prop} : WP 101 26 [q0, (2, l1), q2, q3, q4] [(0, s0)] ds m Q = (WP 101 27 [q0, (2, l1), q2, q3, q4] [(2, l1), (0, s0)] ds m Q) := P_nx k101_26 rfl
set_option maxRecDepth 20000 in
theorem k101_27 : mjCode 101 27 = some (.arraylength, 1, 0, 0) := by decide +kernel
theorem p101_27 {s0 s1 : Int} {q0 q1 q2 q3 q4 : MV} {ds : Ds} {m : Mm} {Q : Ds → Mm → List MV → Prop} : WP 101 27 [q0, q1, q2, q3, q4] [(2, s0), (0, s1)] ds m Q = (((10 ≤ dk ds s0 ∧ dk ds s0 ≤ 14) ∧ WP 101 28 [q0, q1, q2, q3, q4] [(0, (dl ds s0 : Int)), (0, s1)] ds m Q)) := P_gd k101_27 rfl
set_option maxRecDepth 20000 in
theorem k101_28 : mjCode 101 28 = some (.if_icmp .ge 23, 3, 51, 0) := by decide +kernel
theorem p101_28 {s0 s1 : Int} {q0 q1 q2 q3 q4 : MV} {ds : Ds} {m : Mm} {Q : Ds → Mm → List MV → Prop} : WP 101 28 [q0, q1, q2, q3, q4] [(0, s0), (0, s1)] ds m Q = (if s1 < s0 then WP 101 31 [q0, q1, q2, q3, q4] [] ds m Q else WP 101 51 [q0, q1, q2, q3, q4] [] ds m Q) := P_if k101_28 rfl
set_option maxRecDepth 20000 in
theorem k101_31 : mjCode 101 31 = some (.aload_n 1, 1, 0, 0) := by decide +kernel
theorem p101_31 {l1 : Int} {q0 q2 q3 q4 : MV} {ds : Ds} {m : Mm} {Q : Ds → Mm → List MV → Prop} : WP 101 31 [q0, (2, l1), q2, q3, q4] [] ds m Q = (WP 101 32 [q0, (2, l1), q2, q3, q4] [(2, l1)] ds m Q) := P_nx k101_31 rfl
set_option maxRecDepth 20000 in
theorem k101_32 : mjCode 101 32 = some (.iload 4, 2, 0, 0) := by decide +kernel
theorem p101_32 {l4 s0 : Int} {q0 q1 q2 q3 : MV} {ds : Ds} {m : Mm} {Q : Ds → Mm → List MV → Prop} : WP 101 32 [q0, q1, q2, q3, (0, l4)] [(2, s0)] ds m Q = (WP 101 34 [q0, q1, q2, q3, (0, l4)] [(0, l4), (2, s0)] ds m Q) := P_nx k101_32 rfl
set_option maxRecDepth 20000 in
theorem k101_34 : mjCode 101 34 = some (.aload_n 0, 1, 0, 0) := by decide +kernel
theorem p101_34 {l0 s0 s1 : Int} {q1 q2 q3 q4 : MV} {ds : Ds} {m : Mm} {Q : Ds → Mm → List MV → Prop} : WP 101 34 [(2, l0), q1, q2, q3, q4] [(0, s0), (2, s1)] ds m Q = (WP 101 35 [(2, l0), q1, q2, q3, q4] [(2, l0), (0, s0), (2, s1)] ds m Q) := P_nx k101_34 rfl
set_option maxRecDepth 20000 in
theorem k101_35 : mjCode 101 35 = some (.getfield 66, 3, 6, 5) := by decide +kernel
theorem p101_35 {s0 s1 s2 : Int} {q0 q1 q2 q3 q4 : MV} {ds : Ds} {m : Mm} {Q : Ds → Mm → List MV → Prop} : WP 101 35 [q0, q1, q2, q3, q4] [(2, s0), (0, s1), (2, s2)] ds m Q = ((dk ds s0 = 6 ∧ WP 101 38 [q0, q1, q2, q3, q4] [(2, m s0 5), (0, s1), (2, s2)] ds m Q)) := P_gd k101_35 rfl
set_option maxRecDepth 20000 in
theorem k101_38 : mjCode 101 38 = some (.getfield 309, 3, 5, 7) := by decide +kernel
theorem p101_38 {s0 s1 s2 : Int} {q0 q1 q2 q3 q4 : MV} {ds : Ds} {m : Mm} {Q : Ds → Mm → List MV → Prop} : WP 101 38 [q0, q1, q2, q3, q4] [(2, s0), (0, s1), (2, s2)] ds m Q = ((dk ds s0 = 5 ∧ WP 101 41 [q0, q1, q2, q3, q4] [(2, m s0 7), (0, s1), (2, s2)] ds m Q)) := P_gd k101_38 rfl
set_option maxRecDepth 20000 in
theorem k101_41 : mjCode 101 41 = some (.iload 4, 2, 0, 0) := by decide +kernel
theorem p101_41 {l4 s0 s1 s2 : Int} {q0 q1 q2 q3 : MV} {ds : Ds} {m : Mm} {Q : Ds → Mm → List MV → Prop} : WP 101 41 [q0, q1, q2, q3, (0, l4)] [(2, s0), (0, s1), (2, s2)] ds m Q = (WP 101 43 [q0, q1, q2, q3, (0, l4)] [(0, l4), (2, s0), (0, s1), (2, s2)] ds m Q) := P_nx k101_41 rfl
set_option maxRecDepth 20000 in
theorem k101_43 : mjCode 101 43 = some (.baload, 1, 0, 0) := by decide +kernel
theorem p101_43 {s0 s1 s2 s3 : Int} {q0 q1 q2 q3 q4 : MV} {ds : Ds} {m : Mm} {Q : Ds → Mm → List MV → Prop} : WP 101 43 [q0, q1, q2, q3, q4] [(0, s0), (2, s1), (0, s2), (2, s3)] ds m Q = ((dk ds s1 = 11 ∧ 0 ≤ s0 ∧ s0 < dl ds s1 ∧ WP 101 44 [q0, q1, q2, q3, q4] [(0, m s1 s0), (0, s2), (2, s3)] ds m Q)) := P_g3 k101_43 rfl
set_option maxRecDepth 20000 in
theorem k101_44 : mjCode 101 44 = some (.bastore, 1, 0, 0) := by decide +kernel
theorem p101_44 {s0 s1 s2 : Int} {q0 q1 q2 q3 q4 : MV} {ds : Ds} {m : Mm} {Q : Ds → Mm → List MV → Prop} : WP 101 44 [q0, q1, q2, q3, q4] [(0, s0), (0, s1), (2, s2)] ds m Q = (((s0 = 0 ∨ s0 = 1) ∧ dk ds s2 = 11 ∧ 0 ≤ s1 ∧ s1 < dl ds s2 ∧ WP 101 45 [q0, q1, q2, q3, q4] [] ds (up m s2 s1 s0) Q)) := P_s4 k101_44 rfl
set_option maxRecDepth 20000 in
theorem k101_45 : mjCode 101 45 = some (.iinc 4 1, 3, 0, 0) := by decide +kernel
theorem p101_45 {l4 : Int} {q0 q1 q2 q3 : MV} {ds : Ds} {m : Mm} {Q : Ds → Mm → List MV → Prop} : WP 101 45 [q0, q1, q2, q3, (0, l4)] [] ds m Q = (WP 101 48 [q0, q1, q2, q3, (0, w32 (l4 + 1))] [] ds m Q) := P_nx k101_45 rfl
set_option maxRecDepth 20000 in
theorem k101_48 : mjCode 101 48 = some (.goto (-31), 3, 17, 0) := by decide +kernel
theorem p101_48 {q0 q1 q2 q3 q4 : MV} {ds : Ds} {m : Mm} {Q : Ds → Mm → List MV → Prop} : WP 101 48 [q0, q1, q2, q3, q4] [] ds m Q = (WP 101 17 [q0, q1, q2, q3, q4] [] ds m Q) := P_nx k101_48 rfl
set_option maxRecDepth 20000 in
theorem k101_51 : mjCode 101 51 = some (.aload_n 0, 1, 0, 0) := by decide +kernel
theorem p101_51 {l0 : Int} {q1 q2 q3 q4 : MV} {ds : Ds} {m : Mm} {Q : Ds → Mm → List MV → Prop} : WP 101 51 [(2, l0), q1, q2, q3, q4] [] ds m Q = (WP 101 52 [(2, l0), q1, q2, q3, q4] [(2, l0)] ds m Q) := P_nx k101_51 rfl
set_option maxRecDepth 20000 in
theorem k101_52 : mjCode 101 52 = some (.getfield 66, 3, 6, 5) := by decide +kernel
theorem p101_52 {s0 : Int} {q0 q1 q2 q3 q4 : MV} {ds : Ds} {m : Mm} {Q : Ds → Mm → List MV → Prop} : WP 101 52 [q0, q1, q2, q3, q4] [(2, s0)] ds m Q = ((dk ds s0 = 6 ∧ WP 101 55 [q0, q1, q2, q3, q4] [(2, m s0 5)] ds m Q)) := P_gd k101_52 rfl
set_option maxRecDepth 20000 in
theorem k101_55 : mjCode 101 55 = some (.iload_n 2, 1, 0, 0) := by decide +kernel
theorem p101_55 {l2 s0 : Int} {q0 q1 q3 q4 : MV} {ds : Ds} {m : Mm} {Q : Ds → Mm → List MV → Prop} : WP 101 55 [q0, q1, (0, l2), q3, q4] [(2, s0)] ds m Q = (WP 101 56 [q0, q1, (0, l2), q3, q4] [(0, l2), (2, s0)] ds m Q) := P_nx k101_55 rfl
set_option maxRecDepth 20000 in
theorem k101_56 : mjCode 101 56 = some (.iload_n 3, 1, 0, 0) := by decide +kernel
theorem p101_56 {l3 s0 s1 : Int} {q0 q1 q2 q4 : MV} {ds : Ds} {m : Mm} {Q : Ds → Mm → List MV → Prop} : WP 101 56 [q0, q1, q2, (0, l3), q4] [(0, s0), (2, s1)] ds m Q = (WP 101 57 [q0, q1, q2, (0, l3), q4] [(0, l3), (0, s0), (2, s1)] ds m Q) := P_nx k101_56 rfl
set_option maxRecDepth 20000 in
theorem k101_57 : mjCode 101 57 = some (.invokevirtual 312, 3, 53, 3) := by decide +kernel
theorem p101_57 {s0 s1 s2 : Int} {q0 q1 q2 q3 q4 : MV} {ds : Ds} {m : Mm} {Q : Ds → Mm → List MV → Prop} : WP 101 57 [q0, q1, q2, q3, q4] [(0, s0), (0, s1), (2, s2)] ds m Q = ((dk ds s2 = 5 ∧ WP 52 0 [(2, s2), (0, s1), (0, s0)] [] ds m (fun d2 m2 r2 => WP 101 60 [q0, q1, q2, q3, q4] (r2 ++ []) d2 m2 Q))) := P_cv k101_57 mx52 mo52 rfl rfl rfl rfl rfl rfl rfl rfl
set_option maxRecDepth 20000 in
theorem k101_60 : mjCode 101 60 = some (.ireturn, 1, 0, 0) := by decide +kernel
theorem p101_60 {s0 : Int} {q0 q1 q2 q3 q4 : MV} {ds : Ds} {m : Mm} {Q : Ds → Mm → List MV → Prop} : WP 101 60 [q0, q1, q2, q3, q4] [(0, s0)] ds m Q = (((s0 = 0 ∨ s0 = 1) ∧ Q ds m [(0, s0)])) := P_rb k101_60 rk101
set_option maxRecDepth 20000 in
theorem k102_0 : mjCode 102 0 = some (.iconst 0, 1, 0, 0) := by decide +kernel
theorem p102_0 {q0 q1 q2 q3 q4 q5 : MV} {ds : Ds} {m : Mm} {Q : Ds → Mm → List MV → Prop} : WP 102 0 [q0, q1, q2, q3, q4, q5] [] ds m Q = (WP 102 1 [q0, q1, q2, q3, q4, q5] [(0, 0)] ds m Q) := P_nx k102_0 rfl
set_option maxRecDepth 20000 in
theorem k102_1 : mjCode 102 1 = some (.istore 4, 2, 0, 0) := by decide +kernel
theorem p102_1 {l3 s0 : Int} {q0 q1 q2 q4 q5 : MV} {ds : Ds} {m : Mm} {Q : Ds → Mm → List MV → Prop} : WP 102 1 [q0, q1, q2, (0, l3), q4, q5] [(0, s0)] ds m Q = (WP 102 3 [q0, q1, q2, (0, l3), (0, s0), q5] [] ds m Q) := P_nx k102_1 rfl
set_option maxRecDepth 20000 in
theorem k102_3 : mjCode 102 3 = some (.iload 4, 2, 0, 0) := by decide +kernel
theorem p102_3 {l4 : Int} {q0 q1 q2 q3 q5 : MV} {ds : Ds} {m : Mm} {Q : Ds → Mm → List MV → Prop} : WP 102 3 [q0, q1, q2, q3, (0, l4), q5] [] ds m Q = (WP 102 5 [q0, q1, q2, q3, (0, l4), q5] [(0, l4)] ds m Q) := P_nx k102_3 rfl
set_option maxRecDepth 20000 in
theorem k102_5 : mjCode 102 5 = some (.sipush 576, 3, 0, 0) := by decide +kernel
theorem p102_5 {s0 : Int} {q0 q1 q2 q3 q4 q5 : MV} {ds : Ds} {m : Mm} {Q : Ds → Mm → List MV → Prop} : WP 102 5 [q0, q1, q2, q3, q4, q5] [(0, s0)] ds m Q = (WP 102 8 [q0, q1, q2, q3, q4, q5] [(0, 576), (0, s0)] ds m Q) := P_nx k102_5 rfl
set_option maxRecDepth 20000 in
theorem k102_8 : mjCode 102 8 = some (.if_icmp .ge 54, 3, 62, 0) := by decide +kernel
theorem p102_8 {s0 s1 : Int} {q0 q1 q2 q3 q4 q5 : MV} {ds : Ds} {m : Mm} {Q : Ds → Mm → List MV → Prop} : WP 102 8 [q0, q1, q2, q3, q4, q5] [(0, s0), (0, s1)] ds m Q = (if s1 < s0 then WP 102 11 [q0, q1, q2, q3, q4, q5] [] ds m Q else WP 102 62 [q0, q1, q2, q3, q4, q5] [] ds m Q) := P_if k102_8 rfl
set_option maxRecDepth 20000 in
theorem k102_11 : mjCode 102 11 = some (.aload_n 0, 1, 0, 0) := by decide +kernel
theorem p102_11 {l0 : Int} {q1 q2 q3 q4 q5 : MV} {ds : Ds} {m : Mm} {Q : Ds → Mm → List MV → Prop} : WP 102 11 [(2, l0), q1, q2, q3, q4, q5] [] ds m Q = (WP 102 12 [(2, l0), q1, q2, q3, q4, q5] [(2, l0)] ds m Q) := P_nx k102_11 rfl
set_option maxRecDepth 20000 in
theorem k102_12 : mjCode 102 12 = some (.aload_n 1, 1, 0, 0) := by decide +kernel
theorem p102_12 {l1 s0 : Int} {q0 q2 q3 q4 q5 : MV} {ds : Ds} {m : Mm} {Q : Ds → Mm → List MV → Prop} : WP 102 12 [q0, (2, l1), q2, q3, q4, q5] [(2, s0)] ds m Q = (WP 102 13 [q0, (2, l1), q2, q3, q4, q5] [(2, l1), (2, s0)] ds m Q) := P_nx k102_12 rfl
set_option maxRecDepth 20000 in
theorem k102_13 : mjCode 102 13 = some (.iload 4, 2, 0, 0) := by decide +kernel
theorem p102_13 {l4 s0 s1 : Int} {q0 q1 q2 q3 q5 : MV} {ds : Ds} {m : Mm} {Q : Ds → Mm → List MV → Prop} : WP 102 13 [q0, q1, q2, q3, (0, l4), q5] [(2, s0), (2, s1)] ds m Q = (WP 102 15 [q0, q1, q2, q3, (0, l4), q5] [(0, l4), (2, s0), (2, s1)] ds m Q) := P_nx k102_13 rfl
set_option maxRecDepth 20000 in
theorem k102_15 : mjCode 102 15 = some (.invokevirtual 305, 3, 104, 3) := by decide +kernel
theorem p102_15 {s0 s1 s2 : Int} {q0 q1 q2 q3 q4 q5 : MV} {ds : Ds} {m : Mm} {Q : Ds → Mm → List MV → Prop} : WP 102 15 [q0, q1, q2, q3, q4, q5] [(0, s0), (2, s1), (2, s2)] ds m Q = ((dk ds s2 = 6 ∧ WP 103 0 [(2, s2), (2, s1), (0, s0), (3, 0)] [] ds m (fun d2 m2 r2 => WP 102 18 [q0, q1, q2, q3, q4, q5] (r2 ++ []) d2 m2 Q))) := P_cv k102_15 mx103 mo103 rfl rfl rfl rfl rfl rfl rfl rfl
set_option maxRecDepth 20000 in
theorem k102_18 : mjCode 102 18 = some (.ifCond .eq 38, 3, 56, 0) := by decide +kernel
theorem p102_18 {s0 : Int} {q0 q1 q2 q3 q4 q5 : MV} {ds : Ds} {m : Mm} {Q : Ds → Mm → List MV → Prop} : WP 102 18 [q0, q1, q2, q3, q4, q5] [(0, s0)] ds m Q = (if s0 = 0 then WP 102 56 [q0, q1, q2, q3, q4, q5] [] ds m Q else WP 102 21 [q0, q1, q2, q3, q4, q5] [] ds m Q) := P_if k102_18 rfl
set_option maxRecDepth 20000 in
theorem k102_21 : mjCode 102 21 = some (.aload_n 0, 1, 0, 0) := by decide +kernel
theorem p102_21 {l0 : Int} {q1 q2 q3 q4 q5 : MV} {ds : Ds} {m : Mm} {Q : Ds → Mm → List MV → Prop} : WP 102 21 [(2, l0), q1, q2, q3, q4, q5] [] ds m Q = (WP 102 22 [(2, l0), q1, q2, q3, q4, q5] [(2, l0)] ds m Q) := P_nx k102_21 rfl
set_option maxRecDepth 20000 in
theorem k102_22 : mjCode 102 22 = some (.getfield 66, 3, 6, 5) := by decide +kernel
theorem p102_22 {s0 : Int} {q0 q1 q2 q3 q4 q5 : MV} {ds : Ds} {m : Mm} {Q : Ds → Mm → List MV → Prop} : WP 102 22 [q0, q1, q2, q3, q4, q5] [(2, s0)] ds m Q = ((dk ds s0 = 6 ∧ WP 102 25 [q0, q1, q2, q3, q4, q5] [(2, m s0 5)] ds m Q)) := P_gd k102_22 rfl
set_option maxRecDepth 20000 in
theorem k102_25 : mjCode 102 25 = some (.aload_n 0, 1, 0, 0) := by decide +kernel
theorem p102_25 {l0 s0 : Int} {q1 q2 q3 q4 q5 : MV} {ds : Ds} {m : Mm} {Q : Ds → Mm → List MV → Prop} : WP 102 25 [(2, l0), q1, q2, q3, q4, q5] [(2, s0)] ds m Q = (WP 102 26 [(2, l0), q1, q2, q3, q4, q5] [(2, l0), (2, s0)] ds m Q) := P_nx k102_25 rfl
set_option maxRecDepth 20000 in
theorem k102_26 : mjCode 102 26 = some (.getfield 49, 3, 6, 1) := by decide +kernel
theorem p102_26 {s0 s1 : Int} {q0 q1 q2 q3 q4 q5 : MV} {ds : Ds} {m : Mm} {Q : Ds → Mm → List MV → Prop} : WP 102 26 [q0, q1, q2, q3, q4, q5] [(2, s0), (2, s1)] ds m Q = ((dk ds s0 = 6 ∧ WP 102 29 [q0, q1, q2, q3, q4, q5] [(2, m s0 1), (2, s1)] ds m Q)) := P_gd k102_26 rfl
set_option maxRecDepth 20000 in
theorem k102_29 : mjCode 102 29 = some (.iload_n 2, 1, 0, 0) := by decide +kernel
theorem p102_29 {l2 s0 s1 : Int} {q0 q1 q3 q4 q5 : MV} {ds : Ds} {m : Mm} {Q : Ds → Mm → List MV → Prop} : WP 102 29 [q0, q1, (0, l2), q3, q4, q5] [(2, s0), (2, s1)] ds m Q = (WP 102 30 [q0, q1, (0, l2), q3, q4, q5] [(0, l2), (2, s0), (2, s1)] ds m Q) := P_nx k102_29 rfl
set_option maxRecDepth 20000 in
theorem k102_30 : mjCode 102 30 = some (.iload_n 3, 1, 0, 0) := by decide +kernel
theorem p102_30 {l3 s0 s1 s2 : Int} {q0 q1 q2 q4 q5 : MV} {ds : Ds} {m : Mm} {Q : Ds → Mm → List MV → Prop} : WP 102 30 [q0, q1, q2, (0, l3), q4, q5] [(0, s0), (2, s1), (2, s2)] ds m Q = (WP 102 31 [q0, q1, q2, (0, l3), q4, q5] [(0, l3), (0, s0), (2, s1), (2, s2)] ds m Q) := P_nx k102_30 rfl
set_option maxRecDepth 20000 in
theorem k102_31 : mjCode 102 31 = some (.invokevirtual 191, 3, 52, 4) := by decide +kernel
theorem p102_31 {s0 s1 s2 s3 : Int} {q0 q1 q2 q3 q4 q5 : MV} {ds : Ds} {m : Mm} {Q : Ds → Mm → List MV → Prop} : WP 102 31 [q0, q1, q2, q3, q4, q5] [(0, s0), (0, s1), (2, s2), (2, s3)] ds m Q = ((dk ds s3 = 5 ∧ WP 51 0 [(2, s3), (2, s2), (0, s1), (0, s0), (3, 0)] [] ds m (fun d2 m2 r2 => WP 102 34 [q0, q1, q2, q3, q4, q5] (r2 ++ []) d2 m2 Q))) := P_cv k102_31 mx51 mo51 rfl rfl rfl rfl rfl rfl rfl rfl
set_option maxRecDepth 20000 in
theorem k102_34 : mjCode 102 34 = some (.istore 5, 2, 0, 0) := by decide +kernel
theorem p102_34 {l4 s0 : Int} {q0 q1 q2 q3 q5 : MV} {ds : Ds} {m : Mm} {Q : Ds → Mm → List MV → Prop} : WP 102 34 [q0, q1, q2, q3, (0, l4), q5] [(0, s0)] ds m Q = (WP 102 36 [q0, q1, q2, q3, (0, l4), (0, s0)] [] ds m Q) := P_nx k102_34 rfl
set_option maxRecDepth 20000 in
theorem k102_36 : mjCode 102 36 = some (.aload_n 0, 1, 0, 0) := by decide +kernel
theorem p102_36 {l0 : Int} {q1 q2 q3 q4 q5 : MV} {ds : Ds} {m : Mm} {Q : Ds → Mm → List MV → Prop} : WP 102 36 [(2, l0), q1, q2, q3, q4, q5] [] ds m Q = (WP 102 37 [(2, l0), q1, q2, q3, q4, q5] [(2, l0)] ds m Q) := P_nx k102_36 rfl
set_option maxRecDepth 20000 in
theorem k102_37 : mjCode 102 37 = some (.getfield 49, 3, 6, 1) := by decide +kernel
theorem p102_37 {s0 : Int} {q0 q1 q2 q3 q4 q5 : MV} {ds : Ds} {m : Mm} {Q : Ds → Mm → List MV → Prop} : WP 102 37 [q0, q1, q2, q3, q4, q5] [(2, s0)] ds m Q = ((dk ds s0 = 6 ∧ WP 102 40 [q0, q1, q2, q3, q4, q5] [(2, m s0 1)] ds m Q)) := P_gd k102_37 rfl
set_option maxRecDepth 20000 in
theorem k102_40 : mjCode 102 40 = some (.iload 4, 2, 0, 0) := by decide +kernel
theorem p102_40 {l4 s0 : Int} {q0 q1 q2 q3 q5 : MV} {ds : Ds} {m : Mm} {Q : Ds → Mm → List MV → Prop} : WP 102 40 [q0, q1, q2, q3, (0, l4), q5] [(2, s0)] ds m Q = (WP 102 42 [q0, q1, q2, q3, (0, l4), q5] [(0, l4), (2, s0)] ds m Q) := P_nx k102_40 rfl
set_option maxRecDepth 20000 in
theorem k102_42 : mjCode 102 42 = some (.bipush 6, 2, 0, 0) := by decide +kernel
theorem p102_42 {s0 s1 : Int} {q0 q1 q2 q3 q4 q5 : MV} {ds : Ds} {m : Mm} {Q : Ds → Mm → List MV → Prop} : WP 102 42 [q0, q1, q2, q3, q4, q5] [(0, s0), (2, s1)] ds m Q = (WP 102 44 [q0, q1, q2, q3, q4, q5] [(0, 6), (0, s0), (2, s1)] ds m Q) := P_nx k102_42 rfl
set_option maxRecDepth 20000 in
theorem k102_44 : mjCode 102 44 = some (.idiv, 1, 0, 0) := by decide +kernel
theorem p102_44 {s0 s1 s2 : Int} {q0 q1 q2 q3 q4 q5 : MV} {ds : Ds} {m : Mm} {Q : Ds → Mm → List MV → Prop} : WP 102 44 [q0, q1, q2, q3, q4, q5] [(0, s0), (0, s1), (2, s2)] ds m Q = ((¬ s0 = 0 ∧ WP 102 45 [q0, q1, q2, q3, q4, q5] [(0, jdiv s1 s0), (2, s2)] ds m Q)) := P_dv k102_44 rfl
set_option maxRecDepth 20000 in
theorem k102_45 : mjCode 102 45 = some (.invokevirtual 107, 3, 38, 2) := by decide +kernel
theorem p102_45 {s0 s1 : Int} {q0 q1 q2 q3 q4 q5 : MV} {ds : Ds} {m : Mm} {Q : Ds → Mm → List MV → Prop} : WP 102 45 [q0, q1, q2, q3, q4, q5] [(0, s0), (2, s1)] ds m Q = ((dk ds s1 = 3 ∧ WP 37 0 [(2, s1), (0, s0)] [] ds m (fun d2 m2 r2 => WP 102 48 [q0, q1, q2, q3, q4, q5] (r2 ++ []) d2 m2 Q))) := P_cv k102_45 mx37 mo37 rfl rfl rfl rfl rfl rfl rfl rfl
set_option maxRecDepth 20000 in
theorem k102_48 : mjCode 102 48 = some (.iload 5, 2, 0, 0) := by decide +kernel
theorem p102_48 {l5 : Int} {q0 q1 q2 q3 q4 : MV} {ds : Ds} {m : Mm} {Q : Ds → Mm → List MV → Prop} : WP 102 48 [q0, q1, q2, q3, q4, (0, l5)] [] ds m Q = (WP 102 50 [q0, q1, q2, q3, q4, (0, l5)] [(0, l5)] ds m Q) := P_nx k102_48 rfl
set_option maxRecDepth 20000 in
theorem k102_50 : mjCode 102 50 = some (.ifCond .eq 6, 3, 56, 0) := by decide +kernel
theorem p102_50 {s0 : Int} {q0 q1 q2 q3 q4 q5 : MV} {ds : Ds} {m : Mm} {Q : Ds → Mm → List MV → Prop} : WP 102 50 [q0, q1, q2, q3, q4, q5] [(0, s0)] ds m Q = (if s0 = 0 then WP 102 56 [q0, q1, q2, q3, q4, q5] [] ds m Q else WP 102 53 [q0, q1, q2, q3, q4, q5] [] ds m Q) := P_if k102_50 rfl
set_option maxRecDepth 20000 in
theorem k102_53 : mjCode 102 53 = some (.iload 4, 2, 0, 0) := by decide +kernel
theorem p102_53 {l4 : Int} {q0 q1 q2 q3 q5 : MV} {ds : Ds} {m : Mm} {Q : Ds → Mm → List MV → Prop} : WP 102 53 [q0, q1, q2, q3, (0, l4), q5] [] ds m Q = (WP 102 55 [q0, q1, q2, q3, (0, l4), q5] [(0, l4)] ds m Q) := P_nx k102_53 rfl
set_option maxRecDepth 20000 in
theorem k102_55 : mjCode 102 55 = some (.ireturn, 1, 0, 0) := by decide +kernel
theorem p102_55 {s0 : Int} {q0 q1 q2 q3 q4 q5 : MV} {ds : Ds} {m : Mm} {Q : Ds → Mm → List MV → Prop} : WP 102 55 [q0, q1, q2, q3, q4, q5] [(0, s0)] ds m Q = (Q ds m [(0, s0)]) := P_ri k102_55 rk102
set_option maxRecDepth 20000 in
theorem k102_56 : mjCode 102 56 = some (.iinc 4 1, 3, 0, 0) := by decide +kernel
theorem p102_56 {l4 : Int} {q0 q1 q2 q3 q5 : MV} {ds : Ds} {m : Mm} {Q : Ds → Mm → List MV → Prop} : WP 102 56 [q0, q1, q2, q3, (0, l4), q5] [] ds m Q = (WP 102 59 [q0, q1, q2, q3, (0, w32 (l4 + 1)), q5] [] ds m Q) := P_nx k102_56 rfl
set_option maxRecDepth 20000 in
theorem k102_59 : mjCode 102 59 = some (.goto (-56), 3, 3, 0) := by decide +kernel
theorem p102_59 {q0 q1 q2 q3 q4 q5 : MV} {ds : Ds} {m : Mm} {Q : Ds → Mm → List MV → Prop} : WP 102 59 [q0, q1, q2, q3, q4, q5] [] ds m Q = (WP 102 3 [q0, q1, q2, q3, q4, q5] [] ds m Q) := P_nx k102_59 rfl
set_option maxRecDepth 20000 in
theorem k102_62 : mjCode 102 62 = some (.iconst (-1), 1, 0, 0) := by decide +kernel
theorem p102_62 {q0 q1 q2 q3 q4 q5 : MV} {ds : Ds} {m : Mm} {Q : Ds → Mm → List MV → Prop} : WP 102 62 [q0, q1, q2, q3, q4, q5] [] ds m Q = (WP 102 63 [q0, q1, q2, q3, q4, q5] [(0, (-1))] ds m Q) := P_nx k102_62 rfl
set_option maxRecDepth 20000 in
theorem k102_63 : mjCode 102 63 = some (.ireturn, 1, 0, 0) := by decide +kernel
theorem p102_63 {s0 : Int} {q0 q1 q2 q3 q4 q5 : MV} {ds : Ds} {m : Mm} {Q : Ds → Mm → List MV → Prop} : WP 102 63 [q0, q1, q2, q3, q4, q5] [(0, s0)] ds m Q = (Q ds m [(0, s0)]) := P_ri k102_63 rk102
set_option maxRecDepth 20000 in
theorem k103_0 : mjCode 103 0 = some (.iload_n 2, 1, 0, 0) := by decide +kernel
theorem p103_0 {l2 : Int} {q0 q1 q3 : MV} {ds : Ds} {m : Mm} {Q : Ds → Mm → List MV → Prop} : WP 103 0 [q0, q1, (0, l2), q3] [] ds m Q = (WP 103 1 [q0, q1, (0, l2), q3] [(0, l2)] ds m Q) := P_nx k103_0 rfl
set_option maxRecDepth 20000 in
theorem k103_1 : mjCode 103 1 = some (.bipush 6, 2, 0, 0) := by decide +kernel
theorem p103_1 {s0 : Int} {q0 q1 q2 q3 : MV} {ds : Ds} {m : Mm} {Q : Ds → Mm → List MV → Prop} : WP 103 1 [q0, q1, q2, q3] [(0, s0)] ds m Q = (WP 103 3 [q0, q1, q2, q3] [(0, 6), (0, s0)] ds m Q) := P_nx k103_1 rfl
set_option maxRecDepth 20000 in
theorem k103_3 : mjCode 103 3 = some (.idiv, 1, 0, 0) := by decide +kernel
theorem p103_3 {s0 s1 : Int} {q0 q1 q2 q3 : MV} {ds : Ds} {m : Mm} {Q : Ds → Mm → List MV → Prop} : WP 103 3 [q0, q1, q2, q3] [(0, s0), (0, s1)] ds m Q = ((¬ s0 = 0 ∧ WP 103 4 [q0, q1, q2, q3] [(0, jdiv s1 s0)] ds m Q)) := P_dv k103_3 rfl
set_option maxRecDepth 20000 in
theorem k103_4 : mjCode 103 4 = some (.istore_n 3, 1, 0, 0) := by decide +kernel
theorem p103_4 {l2 s0 : Int} {q0 q1 q3 : MV} {ds : Ds} {m : Mm} {Q : Ds → Mm → List MV → Prop} : WP 103 4 [q0, q1, (0, l2), q3] [(0, s0)] ds m Q = (WP 103 5 [q0, q1, (0, l2), (0, s0)] [] ds m Q) := P_nx k103_4 rfl
set_option maxRecDepth 20000 in
theorem k103_5 : mjCode 103 5 = some (.iload_n 3, 1, 0, 0) := by decide +kernel
theorem p103_5 {l3 : Int} {q0 q1 q2 : MV} {ds : Ds} {m : Mm} {Q : Ds → Mm → List MV → Prop} : WP 103 5 [q0, q1, q2, (0, l3)] [] ds m Q = (WP 103 6 [q0, q1, q2, (0, l3)] [(0, l3)] ds m Q) := P_nx k103_5 rfl
set_option maxRecDepth 20000 in
theorem k103_6 : mjCode 103 6 = some (.ifCond .lt 26, 3, 32, 0) := by decide +kernel
theorem p103_6 {s0 : Int} {q0 q1 q2 q3 : MV} {ds : Ds} {m : Mm} {Q : Ds → Mm → List MV → Prop} : WP 103 6 [q0, q1, q2, q3] [(0, s0)] ds m Q = (if s0 < 0 then WP 103 32 [q0, q1, q2, q3] [] ds m Q else WP 103 9 [q0, q1, q2, q3] [] ds m Q) := P_if k103_6 rfl
set_option maxRecDepth 20000 in
theorem k103_9 : mjCode 103 9 = some (.iload_n 3, 1, 0, 0) := by decide +kernel
theorem p103_9 {l3 : Int} {q0 q1 q2 : MV} {ds : Ds} {m : Mm} {Q : Ds → Mm → List MV → Prop} : WP 103 9 [q0, q1, q2, (0, l3)] [] ds m Q = (WP 103 10 [q0, q1, q2, (0, l3)] [(0, l3)] ds m Q) := P_nx k103_9 rfl
set_option maxRecDepth 20000 in
theorem k103_10 : mjCode 103 10 = some (.aload_n 1, 1, 0, 0) := by decide +kernel
theorem p103_10 {l1 s0 : Int} {q0 q2 q3 : MV} {ds : Ds} {m : Mm} {Q : Ds → Mm → List MV → Prop} : WP 103 10 [q0, (2, l1), q2, q3] [(0, s0)] ds m Q = (WP 103 11 [q0, (2, l1), q2, q3] [(2, l1), (0, s0)] ds m Q) := P_nx k103_10 rfl
set_option maxRecDepth 20000 in
theorem k103_11 : mjCode 103 11 = some (.arraylength, 1, 0, 0) := by decide +kernel
theorem p103_11 {s0 s1 : Int} {q0 q1 q2 q3 : MV} {ds : Ds} {m : Mm} {Q : Ds → Mm → List MV → Prop} : WP 103 11 [q0, q1, q2, q3] [(2, s0), (0, s1)] ds m Q = (((10 ≤ dk ds s0 ∧ dk ds s0 ≤ 14) ∧ WP 103 12 [q0, q1, q2, q3] [(0, (dl ds s0 : Int)), (0, s1)] ds m Q)) := P_gd k103_11 rfl
set_option maxRecDepth 20000 in
theorem k103_12 : mjCode 103 12 = some (.if_icmp .ge 20, 3, 32, 0) := by decide +kernel
theorem p103_12 {s0 s1 : Int} {q0 q1 q2 q3 : MV} {ds : Ds} {m : Mm} {Q : Ds → Mm → List MV → Prop} : WP 103 12 [q0, q1, q2, q3] [(0, s0), (0, s1)] ds m Q = (if s1 < s0 then WP 103 15 [q0, q1, q2, q3] [] ds m Q else WP 103 32 [q0, q1, q2, q3] [] ds m Q) := P_if k103_12 rfl
set_option maxRecDepth 20000 in
theorem k103_15 : mjCode 103 15 = some (.aload_n 1, 1, 0, 0) := by decide +kernel
theorem p103_15 {l1 : Int} {q0 q2 q3 : MV} {ds : Ds} {m : Mm} {Q : Ds → Mm → List MV → Prop} : WP 103 15 [q0, (2, l1), q2, q3] [] ds m Q = (WP 103 16 [q0, (2, l1), q2, q3] [(2, l1)] ds m Q) := P_nx k103_15 rfl
set_option maxRecDepth 20000 in
theorem k103_16 : mjCode 103 16 = some (.iload_n 3, 1, 0, 0) := by decide +kernel
theorem p103_16 {l3 s0 : Int} {q0 q1 q2 : MV} {ds : Ds} {m : Mm} {Q : Ds → Mm → List MV → Prop} : WP 103 16 [q0, q1, q2, (0, l3)] [(2, s0)] ds m Q = (WP 103 17 [q0, q1, q2, (0, l3)] [(0, l3), (2, s0)] ds m Q) := P_nx k103_16 rfl
set_option maxRecDepth 20000 in
theorem k103_17 : mjCode 103 17 = some (.baload, 1, 0, 0) := by decide +kernel
theorem p103_17 {s0 s1 : Int} {q0 q1 q2 q3 : MV} {ds : Ds} {m : Mm} {Q : Ds → Mm → List MV → Prop} : WP 103 17 [q0, q1, q2, q3] [(0, s0), (2, s1)] ds m Q = ((dk ds s1 = 11 ∧ 0 ≤ s0 ∧ s0 < dl ds s1 ∧ WP 103 18 [q0, q1, q2, q3] [(0, m s1 s0)] ds m Q)) := P_g3 k103_17 rfl
set_option maxRecDepth 20000 in
theorem k103_18 : mjCode 103 18 = some (.ifCond .eq 14, 3, 32, 0) := by decide +kernel
theorem p103_18 {s0 : Int} {q0 q1 q2 q3 : MV} {ds : Ds} {m : Mm} {Q : Ds → Mm → List MV → Prop} : WP 103 18 [q0, q1, q2, q3] [(0, s0)] ds m Q = (if s0 = 0 then WP 103 32 [q0, q1, q2, q3] [] ds m Q else WP 103 21 [q0, q1, q2, q3] [] ds m Q) := P_if k103_18 rfl
set_option maxRecDepth 20000 in
theorem k103_21 : mjCode 103 21 = some (.aload_n 0, 1, 0, 0) := by decide +kernel
theorem p103_21 {l0 : Int} {q1 q2 q3 : MV} {ds : Ds} {m : Mm} {Q : Ds → Mm → List MV → Prop} : WP 103 21 [(2, l0), q1, q2, q3] [] ds m Q = (WP 103 22 [(2, l0), q1, q2, q3] [(2, l0)] ds m Q) := P_nx k103_21 rfl
set_option maxRecDepth 20000 in
theorem k103_22 : mjCode 103 22 = some (.getfield 49, 3, 6, 1) := by decide +kernel
theorem p103_22 {s0 : Int} {q0 q1 q2 q3 : MV} {ds : Ds} {m : Mm} {Q : Ds → Mm → List MV → Prop} : WP 103 22 [q0, q1, q2, q3] [(2, s0)] ds m Q = ((dk ds s0 = 6 ∧ WP 103 25 [q0, q1, q2, q3] [(2, m s0 1)] ds m Q)) := P_gd k103_22 rfl
set_option maxRecDepth 20000 in
theorem k103_25 : mjCode 103 25 = some (.iload_n 3, 1, 0, 0) := by decide +kernel
theorem p103_25 {l3 s0 : Int} {q0 q1 q2 : MV} {ds : Ds} {m : Mm} {Q : Ds → Mm → List MV → Prop} : WP 103 25 [q0, q1, q2, (0, l3)] [(2, s0)] ds m Q = (WP 103 26 [q0, q1, q2, (0, l3)] [(0, l3), (2, s0)] ds m Q) := P_nx k103_25 rfl
set_option maxRecDepth 20000 in
theorem k103_26 : mjCode 103 26 = some (.invokevirtual 85, 3, 30, 2) := by decide +kernel
theorem p103_26 {s0 s1 : Int} {q0 q1 q2 q3 : MV} {ds : Ds} {m : Mm} {Q : Ds → Mm → List MV → Prop} : WP 103 26 [q0, q1, q2, q3] [(0, s0), (2, s1)] ds m Q = ((dk ds s1 = 3 ∧ WP 29 0 [(2, s1), (0, s0)] [] ds m (fun d2 m2 r2 => WP 103 29 [q0, q1, q2, q3] (r2 ++ []) d2 m2 Q))) := P_cv k103_26 mx29 mo29 rfl rfl rfl rfl rfl rfl rfl rfl
set_option maxRecDepth 20000 in
theorem k103_29 : mjCode 103 29 = some (.ifCond .ne 5, 3, 34, 0) := by decide +kernel
theorem p103_29 {s0 : Int} {q0 q1 q2 q3 : MV} {ds : Ds} {m : Mm} {Q : Ds → Mm → List MV → Prop} : WP 103 29 [q0, q1, q2, q3] [(0, s0)] ds m Q = (if s0 = 0 then WP 103 32 [q0, q1, q2, q3] [] ds m Q else WP 103 34 [q0, q1, q2, q3] [] ds m Q) := P_if k103_29 rfl
set_option maxRecDepth 20000 in
theorem k103_32 : mjCode 103 32 = some (.iconst 0, 1, 0, 0) := by decide +kernel
theorem p103_32 {q0 q1 q2 q3 : MV} {ds : Ds} {m : Mm} {Q : Ds → Mm → List MV → Prop} : WP 103 32 [q0, q1, q2, q3] [] ds m Q = (WP 103 33 [q0, q1, q2, q3] [(0, 0)] ds m Q) := P_nx k103_32 rfl
set_option maxRecDepth 20000 in
theorem k103_33 : mjCode 103 33 = some (.ireturn, 1, 0, 0) := by decide +kernel
theorem p103_33 {s0 : Int} {q0 q1 q2 q3 : MV} {ds : Ds} {m : Mm} {Q : Ds → Mm → List MV → Prop} : WP 103 33 [q0, q1, q2, q3] [(0, s0)] ds m Q = (((s0 = 0 ∨ s0 = 1) ∧ Q ds m [(0, s0)])) := P_rb k103_33 rk103
set_option maxRecDepth 20000 in
theorem k103_34 : mjCode 103 34 = some (.aload_n 0, 1, 0, 0) := by decide +kernel
theorem p103_34 {l0 : Int} {q1 q2 q3 : MV} {ds : Ds} {m : Mm} {Q : Ds → Mm → List MV → Prop} : WP 103 34 [(2, l0), q1, q2, q3] [] ds m Q = (WP 103 35 [(2, l0), q1, q2, q3] [(2, l0)] ds m Q) := P_nx k103_34 rfl
set_option maxRecDepth 20000 in
theorem k103_35 : mjCode 103 35 = some (.getfield 49, 3, 6, 1) := by decide +kernel
theorem p103_35 {s0 : Int} {q0 q1 q2 q3 : MV} {ds : Ds} {m : Mm} {Q : Ds → Mm → List MV → Prop} : WP 103 35 [q0, q1, q2, q3] [(2, s0)] ds m Q = ((dk ds s0 = 6 ∧ WP 103 38 [q0, q1, q2, q3] [(2, m s0 1)] ds m Q)) := P_gd k103_35 rfl
set_option maxRecDepth 20000 in
theorem k103_38 : mjCode 103 38 = some (.iload_n 3, 1, 0, 0) := by decide +kernel
theorem p103_38 {l3 s0 : Int} {q0 q1 q2 : MV} {ds : Ds} {m : Mm} {Q : Ds → Mm → List MV → Prop} : WP 103 38 [q0, q1, q2, (0, l3)] [(2, s0)] ds m Q = (WP 103 39 [q0, q1, q2, (0, l3)] [(0, l3), (2, s0)] ds m Q) := P_nx k103_38 rfl
set_option maxRecDepth 20000 in
theorem k103_39 : mjCode 103 39 = some (.iload_n 2, 1, 0, 0) := by decide +kernel
theorem p103_39 {l2 s0 s1 : Int} {q0 q1 q3 : MV} {ds : Ds} {m : Mm} {Q : Ds → Mm → List MV → Prop} : WP 103 39 [q0, q1, (0, l2), q3] [(0, s0), (2, s1)] ds m Q = (WP 103 40 [q0, q1, (0, l2), q3] [(0, l2), (0, s0), (2, s1)] ds m Q) := P_nx k103_39 rfl
set_option maxRecDepth 20000 in
theorem k103_40 : mjCode 103 40 = some (.invokestatic 315, 3, 106, 1) := by decide +kernel
theorem p103_40 {s0 s1 s2 : Int} {q0 q1 q2 q3 : MV} {ds : Ds} {m : Mm} {Q : Ds → Mm → List MV → Prop} : WP 103 40 [q0, q1, q2, q3] [(0, s0), (0, s1), (2, s2)] ds m Q = (WP 105 0 [(0, s0)] [] ds m (fun d2 m2 r2 => WP 103 43 [q0, q1, q2, q3] (r2 ++ [(0, s1), (2, s2)]) d2 m2 Q)) := P_cs k103_40 mx105 rfl rfl rfl rfl rfl rfl rfl
set_option maxRecDepth 20000 in
theorem k103_43 : mjCode 103 43 = some (.iload_n 2, 1, 0, 0) := by decide +kernel
theorem p103_43 {l2 s0 s1 s2 : Int} {q0 q1 q3 : MV} {ds : Ds} {m : Mm} {Q : Ds → Mm → List MV → Prop} : WP 103 43 [q0, q1, (0, l2), q3] [(0, s0), (0, s1), (2, s2)] ds m Q = (WP 103 44 [q0, q1, (0, l2), q3] [(0, l2), (0, s0), (0, s1), (2, s2)] ds m Q) := P_nx k103_43 rfl
set_option maxRecDepth 20000 in
theorem k103_44 : mjCode 103 44 = some (.invokestatic 318, 3, 107, 1) := by decide +kernel
theorem p103_44 {s0 s1 s2 s3 : Int} {q0 q1 q2 q3 : MV} {ds : Ds} {m : Mm} {Q : Ds → Mm → List MV → Prop} : WP 103 44 [q0, q1, q2, q3] [(0, s0), (0, s1), (0, s2), (2, s3)] ds m Q = (WP 106 0 [(0, s0), (3, 0)] [] ds m (fun d2 m2 r2 => WP 103 47 [q0, q1, q2, q3] (r2 ++ [(0, s1), (0, s2), (2, s3)]) d2 m2 Q)) := P_cs k103_44 mx106 rfl rfl rfl rfl rfl rfl rfl
set_option maxRecDepth 20000 in
theorem k103_47 : mjCode 103 47 = some (.iconst 0, 1, 0, 0) := by decide +kernel
theorem p103_47 {s0 s1 s2 s3 : Int} {q0 q1 q2 q3 : MV} {ds : Ds} {m : Mm} {Q : Ds → Mm → List MV → Prop} : WP 103 47 [q0, q1, q2, q3] [(0, s0), (0, s1), (0, s2), (2, s3)] ds m Q = (WP 103 48 [q0, q1, q2, q3] [(0, 0), (0, s0), (0, s1), (0, s2), (2, s3)] ds m Q) := P_nx k103_47 rfl
set_option maxRecDepth 20000 in
theorem k103_48 : mjCode 103 48 = some (.invokevirtual 81, 3, 35, 5) := by decide +kernel
theorem p103_48 {s0 s1 s2 s3 s4 : Int} {q0 q1 q2 q3 : MV} {ds : Ds} {m : Mm} {Q : Ds → Mm → List MV → Prop} : WP 103 48 [q0, q1, q2, q3] [(0, s0), (0, s1), (0, s2), (0, s3), (2, s4)] ds m Q = ((dk ds s4 = 3 ∧ WP 34 0 [(2, s4), (0, s3), (0, s2), (0, s1), (0, s0)] [] ds m (fun d2 m2 r2 => WP 103 51 [q0, q1, q2, q3] (r2 ++ []) d2 m2 Q))) := P_cv k103_48 mx34 mo34 rfl rfl rfl rfl rfl rfl rfl rfl
set_option maxRecDepth 20000 in
theorem k103_51 : mjCode 103 51 = some (.iconst 1, 1, 0, 0) := by decide +kernel
theorem p103_51 {q0 q1 q2 q3 : MV} {ds : Ds} {m : Mm} {Q : Ds → Mm → List MV → Prop} : WP 103 51 [q0, q1, q2, q3] [] ds m Q = (WP 103 52 [q0, q1, q2, q3] [(0, 1)] ds m Q) := P_nx k103_51 rfl
set_option maxRecDepth 20000 in
theorem k103_52 : mjCode 103 52 = some (.ireturn, 1, 0, 0) := by decide +kernel
theorem p103_52 {s0 : Int} {q0 q1 q2 q3 : MV} {ds : Ds} {m : Mm} {Q : Ds → Mm → List MV → Prop} : WP 103 52 [q0, q1, q2, q3] [(0, s0)] ds m Q = (((s0 = 0 ∨ s0 = 1) ∧ Q ds m [(0, s0)])) := P_rb k103_52 rk103
set_option maxRecDepth 20000 in
theorem k104_0 : mjCode 104 0 = some (.aload_n 0, 1, 0, 0) := by decide +kernel
theorem p104_0 {l0 : Int} {q1 : MV} {ds : Ds} {m : Mm} {Q : Ds → Mm → List MV → Prop} : WP 104 0 [(2, l0), q1] [] ds m Q = (WP 104 1 [(2, l0), q1] [(2, l0)] ds m Q) := P_nx k104_0 rfl
set_option maxRecDepth 20000 in
theorem k104_1 : mjCode 104 1 = some (.getfield 291, 3, 6, 13) := by decide +kernel
theorem p104_1 {s0 : Int} {q0 q1 : MV} {ds : Ds} {m : Mm} {Q : Ds → Mm → List MV → Prop} : WP 104 1 [q0, q1] [(2, s0)] ds m Q = ((dk ds s0 = 6 ∧ WP 104 4 [q0, q1] [(0, m s0 13)] ds m Q)) := P_gd k104_1 rfl
set_option maxRecDepth 20000 in
theorem k104_4 : mjCode 104 4 = some (.aload_n 0, 1, 0, 0) := by decide +kernel
theorem p104_4 {l0 s0 : Int} {q1 : MV} {ds : Ds} {m : Mm} {Q : Ds → Mm → List MV → Prop} : WP 104 4 [(2, l0), q1] [(0, s0)] ds m Q = (WP 104 5 [(2, l0), q1] [(2, l0), (0, s0)] ds m Q) := P_nx k104_4 rfl
set_option maxRecDepth 20000 in
theorem k104_5 : mjCode 104 5 = some (.getfield 31, 3, 6, 12) := by decide +kernel
theorem p104_5 {s0 s1 : Int} {q0 q1 : MV} {ds : Ds} {m : Mm} {Q : Ds → Mm → List MV → Prop} : WP 104 5 [q0, q1] [(2, s0), (0, s1)] ds m Q = ((dk ds s0 = 6 ∧ WP 104 8 [q0, q1] [(2, m s0 12), (0, s1)] ds m Q)) := P_gd k104_5 rfl
set_option maxRecDepth 20000 in
theorem k104_8 : mjCode 104 8 = some (.arraylength, 1, 0, 0) := by decide +kernel
theorem p104_8 {s0 s1 : Int} {q0 q1 : MV} {ds : Ds} {m : Mm} {Q : Ds → Mm → List MV → Prop} : WP 104 8 [q0, q1] [(2, s0), (0, s1)] ds m Q = (((10 ≤ dk ds s0 ∧ dk ds s0 ≤ 14) ∧ WP 104 9 [q0, q1] [(0, (dl ds s0 : Int)), (0, s1)] ds m Q)) := P_gd k104_8 rfl
set_option maxRecDepth 20000 in
theorem k104_9 : mjCode 104 9 = some (.if_icmp .ge 42, 3, 51, 0) := by decide +kernel
theorem p104_9 {s0 s1 : Int} {q0 q1 : MV} {ds : Ds} {m : Mm} {Q : Ds → Mm → List MV → Prop} : WP 104 9 [q0, q1] [(0, s0), (0, s1)] ds m Q = (if s1 < s0 then WP 104 12 [q0, q1] [] ds m Q else WP 104 51 [q0, q1] [] ds m Q) := P_if k104_9 rfl
set_option maxRecDepth 20000 in
theorem k104_12 : mjCode 104 12 = some (.aload_n 0, 1, 0, 0) := by decide +kernel
theorem p104_12 {l0 : Int} {q1 : MV} {ds : Ds} {m : Mm} {Q : Ds → Mm → List MV → Prop} : WP 104 12 [(2, l0), q1] [] ds m Q = (WP 104 13 [(2, l0), q1] [(2, l0)] ds m Q) := P_nx k104_12 rfl
set_option maxRecDepth 20000 in
theorem k104_13 : mjCode 104 13 = some (.getfield 31, 3, 6, 12) := by decide +kernel
theorem p104_13 {s0 : Int} {q0 q1 : MV} {ds : Ds} {m : Mm} {Q : Ds → Mm → List MV → Prop} : WP 104 13 [q0, q1] [(2, s0)] ds m Q = ((dk ds s0 = 6 ∧ WP 104 16 [q0, q1] [(2, m s0 12)] ds m Q)) := P_gd k104_13 rfl
set_option maxRecDepth 20000 in
theorem k104_16 : mjCode 104 16 = some (.aload_n 0, 1, 0, 0) := by decide +kernel
theorem p104_16 {l0 s0 : Int} {q1 : MV} {ds : Ds} {m : Mm} {Q : Ds → Mm → List MV → Prop} : WP 104 16 [(2, l0), q1] [(2, s0)] ds m Q = (WP 104 17 [(2, l0), q1] [(2, l0), (2, s0)] ds m Q) := P_nx k104_16 rfl
set_option maxRecDepth 20000 in
theorem k104_17 : mjCode 104 17 = some (.getfield 291, 3, 6, 13) := by decide +kernel
theorem p104_17 {s0 s1 : Int} {q0 q1 : MV} {ds : Ds} {m : Mm} {Q : Ds → Mm → List MV → Prop} : WP 104 17 [q0, q1] [(2, s0), (2, s1)] ds m Q = ((dk ds s0 = 6 ∧ WP 104 20 [q0, q1] [(0, m s0 13), (2, s1)] ds m Q)) := P_gd k104_17 rfl
set_option maxRecDepth 20000 in
theorem k104_20 : mjCode 104 20 = some (.bipush 100, 2, 0, 0) := by decide +kernel
theorem p104_20 {s0 s1 : Int} {q0 q1 : MV} {ds : Ds} {m : Mm} {Q : Ds → Mm → List MV → Prop} : WP 104 20 [q0, q1] [(0, s0), (2, s1)] ds m Q = (WP 104 22 [q0, q1] [(0, 100), (0, s0), (2, s1)] ds m Q) := P_nx k104_20 rfl
set_option maxRecDepth 20000 in
theorem k104_22 : mjCode 104 22 = some (.iload_n 1, 1, 0, 0) := by decide +kernel
theorem p104_22 {l1 s0 s1 s2 : Int} {q0 : MV} {ds : Ds} {m : Mm} {Q : Ds → Mm → List MV → Prop} : WP 104 22 [q0, (0, l1)] [(0, s0), (0, s1), (2, s2)] ds m Q = (WP 104 23 [q0, (0, l1)] [(0, l1), (0, s0), (0, s1), (2, s2)] ds m Q) := P_nx k104_22 rfl
set_option maxRecDepth 20000 in
theorem k104_23 : mjCode 104 23 = some (.bipush 6, 2, 0, 0) := by decide +kernel
theorem p104_23 {s0 s1 s2 s3 : Int} {q0 q1 : MV} {ds : Ds} {m : Mm} {Q : Ds → Mm → List MV → Prop} : WP 104 23 [q0, q1] [(0, s0), (0, s1), (0, s2), (2, s3)] ds m Q = (WP 104 25 [q0, q1] [(0, 6), (0, s0), (0, s1), (0, s2), (2, s3)] ds m Q) := P_nx k104_23 rfl
set_option maxRecDepth 20000 in
theorem k104_25 : mjCode 104 25 = some (.idiv, 1, 0, 0) := by decide +kernel
theorem p104_25 {s0 s1 s2 s3 s4 : Int} {q0 q1 : MV} {ds : Ds} {m : Mm} {Q : Ds → Mm → List MV → Prop} : WP 104 25 [q0, q1] [(0, s0), (0, s1), (0, s2), (0, s3), (2, s4)] ds m Q = ((¬ s0 = 0 ∧ WP 104 26 [q0, q1] [(0, jdiv s1 s0), (0, s2), (0, s3), (2, s4)] ds m Q)) := P_dv k104_25 rfl
set_option maxRecDepth 20000 in
theorem k104_26 : mjCode 104 26 = some (.imul, 1, 0, 0) := by decide +kernel
theorem p104_26 {s0 s1 s2 s3 : Int} {q0 q1 : MV} {ds : Ds} {m : Mm} {Q : Ds → Mm → List MV → Prop} : WP 104 26 [q0, q1] [(0, s0), (0, s1), (0, s2), (2, s3)] ds m Q = (WP 104 27 [q0, q1] [(0, w32 (s1 * s0)), (0, s2), (2, s3)] ds m Q) := P_nx k104_26 rfl
set_option maxRecDepth 20000 in
theorem k104_27 : mjCode 104 27 = some (.bipush 10, 2, 0, 0) := by decide +kernel
theorem p104_27 {s0 s1 s2 : Int} {q0 q1 : MV} {ds : Ds} {m : Mm} {Q : Ds → Mm → List MV → Prop} : WP 104 27 [q0, q1] [(0, s0), (0, s1), (2, s2)] ds m Q = (WP 104 29 [q0, q1] [(0, 10), (0, s0), (0, s1), (2, s2)] ds m Q) := P_nx k104_27 rfl
set_option maxRecDepth 20000 in
theorem k104_29 : mjCode 104 29 = some (.iload_n 1, 1, 0, 0) := by decide +kernel
theorem p104_29 {l1 s0 s1 s2 s3 : Int} {q0 : MV} {ds : Ds} {m : Mm} {Q : Ds → Mm → List MV → Prop} : WP 104 29 [q0, (0, l1)] [(0, s0), (0, s1), (0, s2), (2, s3)] ds m Q = (WP 104 30 [q0, (0, l1)] [(0, l1), (0, s0), (0, s1), (0, s2), (2, s3)] ds m Q) := P_nx k104_29 rfl
set_option maxRecDepth 20000 in
theorem k104_30 : mjCode 104 30 = some (.invokestatic 315, 3, 106, 1) := by decide +kernel
theorem p104_30 {s0 s1 s2 s3 s4 : Int} {q0 q1 : MV} {ds : Ds} {m : Mm} {Q : Ds → Mm → List MV → Prop} : WP 104 30 [q0, q1] [(0, s0), (0, s1), (0, s2), (0, s3), (2, s4)] ds m Q = (WP 105 0 [(0, s0)] [] ds m (fun d2 m2 r2 => WP 104 33 [q0, q1] (r2 ++ [(0, s1), (0, s2), (0, s3), (2, s4)]) d2 m2 Q)) := P_cs k104_30 mx105 rfl rfl rfl rfl rfl rfl rfl
set_option maxRecDepth 20000 in
theorem k104_33 : mjCode 104 33 = some (.imul, 1, 0, 0) := by decide +kernel
theorem p104_33 {s0 s1 s2 s3 s4 : Int} {q0 q1 : MV} {ds : Ds} {m : Mm} {Q : Ds → Mm → List MV → Prop} : WP 104 33 [q0, q1] [(0, s0), (0, s1), (0, s2), (0, s3), (2, s4)] ds m Q = (WP 104 34 [q0, q1] [(0, w32 (s1 * s0)), (0, s2), (0, s3), (2, s4)] ds m Q) := P_nx k104_33 rfl
set_option maxRecDepth 20000 in
theorem k104_34 : mjCode 104 34 = some (.iadd, 1, 0, 0) := by decide +kernel
theorem p104_34 {s0 s1 s2 s3 : Int} {q0 q1 : MV} {ds : Ds} {m : Mm} {Q : Ds → Mm → List MV → Prop} : WP 104 34 [q0, q1] [(0, s0), (0, s1), (0, s2), (2, s3)] ds m Q = (WP 104 35 [q0, q1] [(0, w32 (s1 + s0)), (0, s2), (2, s3)] ds m Q) := P_nx k104_34 rfl
set_option maxRecDepth 20000 in
theorem k104_35 : mjCode 104 35 = some (.iload_n 1, 1, 0, 0) := by decide +kernel
theorem p104_35 {l1 s0 s1 s2 : Int} {q0 : MV} {ds : Ds} {m : Mm} {Q : Ds → Mm → List MV → Prop} : WP 104 35 [q0, (0, l1)] [(0, s0), (0, s1), (2, s2)] ds m Q = (WP 104 36 [q0, (0, l1)] [(0, l1), (0, s0), (0, s1), (2, s2)] ds m Q) := P_nx k104_35 rfl
set_option maxRecDepth 20000 in
theorem k104_36 : mjCode 104 36 = some (.invokestatic 318, 3, 107, 1) := by decide +kernel
theorem p104_36 {s0 s1 s2 s3 : Int} {q0 q1 : MV} {ds : Ds} {m : Mm} {Q : Ds → Mm → List MV → Prop} : WP 104 36 [q0, q1] [(0, s0), (0, s1), (0, s2), (2, s3)] ds m Q = (WP 106 0 [(0, s0), (3, 0)] [] ds m (fun d2 m2 r2 => WP 104 39 [q0, q1] (r2 ++ [(0, s1), (0, s2), (2, s3)]) d2 m2 Q)) := P_cs k104_36 mx106 rfl rfl rfl rfl rfl rfl rfl
set_option maxRecDepth 20000 in
theorem k104_39 : mjCode 104 39 = some (.iadd, 1, 0, 0) := by decide +kernel
theorem p104_39 {s0 s1 s2 s3 : Int} {q0 q1 : MV} {ds : Ds} {m : Mm} {Q : Ds → Mm → List MV → Prop} : WP 104 39 [q0, q1] [(0, s0), (0, s1), (0, s2), (2, s3)] ds m Q = (WP 104 40 [q0, q1] [(0, w32 (s1 + s0)), (0, s2), (2, s3)] ds m Q) := P_nx k104_39 rfl
set_option maxRecDepth 20000 in
theorem k104_40 : mjCode 104 40 = some (.iastore, 1, 0, 0) := by decide +kernel
theorem p104_40 {s0 s1 s2 : Int} {q0 q1 : MV} {ds : Ds} {m : Mm} {Q : Ds → Mm → List MV → Prop} : WP 104 40 [q0, q1] [(0, s0), (0, s1), (2, s2)] ds m Q = ((dk ds s2 = 10 ∧ 0 ≤ s1 ∧ s1 < dl ds s2 ∧ WP 104 41 [q0, q1] [] ds (up m s2 s1 s0) Q)) := P_s3 k104_40 rfl
set_option maxRecDepth 20000 in
theorem k104_41 : mjCode 104 41 = some (.aload_n 0, 1, 0, 0) := by decide +kernel
theorem p104_41 {l0 : Int} {q1 : MV} {ds : Ds} {m : Mm} {Q : Ds → Mm → List MV → Prop} : WP 104 41 [(2, l0), q1] [] ds m Q = (WP 104 42 [(2, l0), q1] [(2, l0)] ds m Q) := P_nx k104_41 rfl
set_option maxRecDepth 20000 in
theorem k104_42 : mjCode 104 42 = some (.dup, 1, 0, 0) := by decide +kernel
theorem p104_42 {s0 : Int} {q0 q1 : MV} {ds : Ds} {m : Mm} {Q : Ds → Mm → List MV → Prop} : WP 104 42 [q0, q1] [(2, s0)] ds m Q = (WP 104 43 [q0, q1] [(2, s0), (2, s0)] ds m Q) := P_nx k104_42 rfl
set_option maxRecDepth 20000 in
theorem k104_43 : mjCode 104 43 = some (.getfield 291, 3, 6, 13) := by decide +kernel
theorem p104_43 {s0 s1 : Int} {q0 q1 : MV} {ds : Ds} {m : Mm} {Q : Ds → Mm → List MV → Prop} : WP 104 43 [q0, q1] [(2, s0), (2, s1)] ds m Q = ((dk ds s0 = 6 ∧ WP 104 46 [q0, q1] [(0, m s0 13), (2, s1)] ds m Q)) := P_gd k104_43 rfl
set_option maxRecDepth 20000 in
theorem k104_46 : mjCode 104 46 = some (.iconst 1, 1, 0, 0) := by decide +kernel
theorem p104_46 {s0 s1 : Int} {q0 q1 : MV} {ds : Ds} {m : Mm} {Q : Ds → Mm → List MV → Prop} : WP 104 46 [q0, q1] [(0, s0), (2, s1)] ds m Q = (WP 104 47 [q0, q1] [(0, 1), (0, s0), (2, s1)] ds m Q) := P_nx k104_46 rfl
set_option maxRecDepth 20000 in
theorem k104_47 : mjCode 104 47 = some (.iadd, 1, 0, 0) := by decide +kernel
theorem p104_47 {s0 s1 s2 : Int} {q0 q1 : MV} {ds : Ds} {m : Mm} {Q : Ds → Mm → List MV → Prop} : WP 104 47 [q0, q1] [(0, s0), (0, s1), (2, s2)] ds m Q = (WP 104 48 [q0, q1] [(0, w32 (s1 + s0)), (2, s2)] ds m Q) := P_nx k104_47 rfl
set_option maxRecDepth 20000 in
theorem k104_48 : mjCode 104 48 = some (.putfield 291, 3, 6, 13) := by decide +kernel
theorem p104_48 {s0 s1 : Int} {q0 q1 : MV} {ds : Ds} {m : Mm} {Q : Ds → Mm → List MV → Prop} : WP 104 48 [q0, q1] [(0, s0), (2, s1)] ds m Q = ((dk ds s1 = 6 ∧ WP 104 51 [q0, q1] [] ds (up m s1 13 s0) Q)) := P_pf k104_48 rfl
set_option maxRecDepth 20000 in
theorem k104_51 : mjCode 104 51 = some (.return_, 1, 0, 0) := by decide +kernel
theorem p104_51 {q0 q1 : MV} {ds : Ds} {m : Mm} {Q : Ds → Mm → List MV → Prop} : WP 104 51 [q0, q1] [] ds m Q = (Q ds m []) := P_rv k104_51 rk104
set_option maxRecDepth 20000 in
theorem k105_0 : mjCode 105 0 = some (.iload_n 0, 1, 0, 0) := by decide +kernel
theorem p105_0 {l0 : Int} {ds : Ds} {m : Mm} {Q : Ds → Mm → List MV → Prop} : WP 105 0 [(0, l0)] [] ds m Q = (WP 105 1 [(0, l0)] [(0, l0)] ds m Q) := P_nx k105_0 rfl
set_option maxRecDepth 20000 in
theorem k105_1 : mjCode 105 1 = some (.bipush 6, 2, 0, 0) := by decide +kernel
theorem p105_1 {s0 : Int} {q0 : MV} {ds : Ds} {m : Mm} {Q : Ds → Mm → List MV → Prop} : WP 105 1 [q0] [(0, s0)] ds m Q = (WP 105 3 [q0] [(0, 6), (0, s0)] ds m Q) := P_nx k105_1 rfl
set_option maxRecDepth 20000 in
theorem k105_3 : mjCode 105 3 = some (.irem, 1, 0, 0) := by decide +kernel
theorem p105_3 {s0 s1 : Int} {q0 : MV} {ds : Ds} {m : Mm} {Q : Ds → Mm → List MV → Prop} : WP 105 3 [q0] [(0, s0), (0, s1)] ds m Q = ((¬ s0 = 0 ∧ WP 105 4 [q0] [(0, jrem s1 s0)] ds m Q)) := P_dv k105_3 rfl
set_option maxRecDepth 20000 in
theorem k105_4 : mjCode 105 4 = some (.iconst 2, 1, 0, 0) := by decide +kernel
theorem p105_4 {s0 : Int} {q0 : MV} {ds : Ds} {m : Mm} {Q : Ds → Mm → List MV → Prop} : WP 105 4 [q0] [(0, s0)] ds m Q = (WP 105 5 [q0] [(0, 2), (0, s0)] ds m Q) := P_nx k105_4 rfl
set_option maxRecDepth 20000 in
theorem k105_5 : mjCode 105 5 = some (.if_icmp .ge 7, 3, 12, 0) := by decide +kernel
theorem p105_5 {s0 s1 : Int} {q0 : MV} {ds : Ds} {m : Mm} {Q : Ds → Mm → List MV → Prop} : WP 105 5 [q0] [(0, s0), (0, s1)] ds m Q = (if s1 < s0 then WP 105 8 [q0] [] ds m Q else WP 105 12 [q0] [] ds m Q) := P_if k105_5 rfl
set_option maxRecDepth 20000 in
theorem k105_8 : mjCode 105 8 = some (.iconst 1, 1, 0, 0) := by decide +kernel
theorem p105_8 {q0 : MV} {ds : Ds} {m : Mm} {Q : Ds → Mm → List MV → Prop} : WP 105 8 [q0] [] ds m Q = (WP 105 9 [q0] [(0, 1)] ds m Q) := P_nx k105_8 rfl
set_option maxRecDepth 20000 in
theorem k105_9 : mjCode 105 9 = some (.goto 4, 3, 13, 0) := by decide +kernel
theorem p105_9 {s0 : Int} {q0 : MV} {ds : Ds} {m : Mm} {Q : Ds → Mm → List MV → Prop} : WP 105 9 [q0] [(0, s0)] ds m Q = (WP 105 13 [q0] [(0, s0)] ds m Q) := P_nx k105_9 rfl
set_option maxRecDepth 20000 in
theorem k105_12 : mjCode 105 12 = some (.iconst 2, 1, 0, 0) := by decide +kernel
theorem p105_12 {q0 : MV} {ds : Ds} {m : Mm} {Q : Ds → Mm → List MV → Prop} : WP 105 12 [q0] [] ds m Q = (WP 105 13 [q0] [(0, 2)] ds m Q) := P_nx k105_12 rfl
set_option maxRecDepth 20000 in
theorem k105_13 : mjCode 105 13 = some (.ireturn, 1, 0, 0) := by decide +kernel
theorem p105_13 {s0 : Int} {q0 : MV} {ds : Ds} {m : Mm} {Q : Ds → Mm → List MV → Prop} : WP 105 13 [q0] [(0, s0)] ds m Q = (Q ds m [(0, s0)]) := P_ri k105_13 rk105
set_option maxRecDepth 20000 in
theorem k106_0 : mjCode 106 0 = some (.iload_n 0, 1, 0, 0) := by decide +kernel
theorem p106_0 {l0 : Int} {q1 : MV} {ds : Ds} {m : Mm} {Q : Ds → Mm → List MV → Prop} : WP 106 0 [(0, l0), q1] [] ds m Q = (WP 106 1 [(0, l0), q1] [(0, l0)] ds m Q) := P_nx k106_0 rfl
set_option maxRecDepth 20000 in
theorem k106_1 : mjCode 106 1 = some (.bipush 6, 2, 0, 0) := by decide +kernel
theorem p106_1 {s0 : Int} {q0 q1 : MV} {ds : Ds} {m : Mm} {Q : Ds → Mm → List MV → Prop} : WP 106 1 [q0, q1] [(0, s0)] ds m Q = (WP 106 3 [q0, q1] [(0, 6), (0, s0)] ds m Q) := P_nx k106_1 rfl
set_option maxRecDepth 20000 in
theorem k106_3 : mjCode 106 3 = some (.irem, 1, 0, 0) := by decide +kernel
theorem p106_3 {s0 s1 : Int} {q0 q1 : MV} {ds : Ds} {m : Mm} {Q : Ds → Mm → List MV → Prop} : WP 106 3 [q0, q1] [(0, s0), (0, s1)] ds m Q = ((¬ s0 = 0 ∧ WP 106 4 [q0, q1] [(0, jrem s1 s0)] ds m Q)) := P_dv k106_3 rfl
set_option maxRecDepth 20000 in
theorem k106_4 : mjCode 106 4 = some (.istore_n 1, 1, 0, 0) := by decide +kernel
theorem p106_4 {l0 s0 : Int} {q1 : MV} {ds : Ds} {m : Mm} {Q : Ds → Mm → List MV → Prop} : WP 106 4 [(0, l0), q1] [(0, s0)] ds m Q = (WP 106 5 [(0, l0), (0, s0)] [] ds m Q) := P_nx k106_4 rfl
set_option maxRecDepth 20000 in
theorem k106_5 : mjCode 106 5 = some (.iload_n 1, 1, 0, 0) := by decide +kernel
theorem p106_5 {l1 : Int} {q0 : MV} {ds : Ds} {m : Mm} {Q : Ds → Mm → List MV → Prop} : WP 106 5 [q0, (0, l1)] [] ds m Q = (WP 106 6 [q0, (0, l1)] [(0, l1)] ds m Q) := P_nx k106_5 rfl
set_option maxRecDepth 20000 in
theorem k106_6 : mjCode 106 6 = some (.iconst 2, 1, 0, 0) := by decide +kernel
theorem p106_6 {s0 : Int} {q0 q1 : MV} {ds : Ds} {m : Mm} {Q : Ds → Mm → List MV → Prop} : WP 106 6 [q0, q1] [(0, s0)] ds m Q = (WP 106 7 [q0, q1] [(0, 2), (0, s0)] ds m Q) := P_nx k106_6 rfl
set_option maxRecDepth 20000 in
theorem k106_7 : mjCode 106 7 = some (.if_icmp .ge 7, 3, 14, 0) := by decide +kernel
theorem p106_7 {s0 s1 : Int} {q0 q1 : MV} {ds : Ds} {m : Mm} {Q : Ds → Mm → List MV → Prop} : WP 106 7 [q0, q1] [(0, s0), (0, s1)] ds m Q = (if s1 < s0 then WP 106 10 [q0, q1] [] ds m Q else WP 106 14 [q0, q1] [] ds m Q) := P_if k106_7 rfl
set_option maxRecDepth 20000 in
theorem k106_10 : mjCode 106 10 = some (.iload_n 1, 1, 0, 0) := by decide +kernel
theorem p106_10 {l1 : Int} {q0 : MV} {ds : Ds} {m : Mm} {Q : Ds → Mm → List MV → Prop} : WP 106 10 [q0, (0, l1)] [] ds m Q = (WP 106 11 [q0, (0, l1)] [(0, l1)] ds m Q) := P_nx k106_10 rfl
set_option maxRecDepth 20000 in
theorem k106_11 : mjCode 106 11 = some (.goto 6, 3, 17, 0) := by decide +kernel
theorem p106_11 {s0 : Int} {q0 q1 : MV} {ds : Ds} {m : Mm} {Q : Ds → Mm → List MV → Prop} : WP 106 11 [q0, q1] [(0, s0)] ds m Q = (WP 106 17 [q0, q1] [(0, s0)] ds m Q) := P_nx k106_11 rfl
set_option maxRecDepth 20000 in
theorem k106_14 : mjCode 106 14 = some (.iload_n 1, 1, 0, 0) := by decide +kernel
theorem p106_14 {l1 : Int} {q0 : MV} {ds : Ds} {m : Mm} {Q : Ds → Mm → List MV → Prop} : WP 106 14 [q0, (0, l1)] [] ds m Q = (WP 106 15 [q0, (0, l1)] [(0, l1)] ds m Q) := P_nx k106_14 rfl
set_option maxRecDepth 20000 in
theorem k106_15 : mjCode 106 15 = some (.iconst 2, 1, 0, 0) := by decide +kernel
theorem p106_15 {s0 : Int} {q0 q1 : MV} {ds : Ds} {m : Mm} {Q : Ds → Mm → List MV → Prop} : WP 106 15 [q0, q1] [(0, s0)] ds m Q = (WP 106 16 [q0, q1] [(0, 2), (0, s0)] ds m Q) := P_nx k106_15 rfl
set_option maxRecDepth 20000 in
theorem k106_16 : mjCode 106 16 = some (.isub, 1, 0, 0) := by decide +kernel
theorem p106_16 {s0 s1 : Int} {q0 q1 : MV} {ds : Ds} {m : Mm} {Q : Ds → Mm → List MV → Prop} : WP 106 16 [q0, q1] [(0, s0), (0, s1)] ds m Q = (WP 106 17 [q0, q1] [(0, w32 (s1 - s0))] ds m Q) := P_nx k106_16 rfl
set_option maxRecDepth 20000 in
theorem k106_17 : mjCode 106 17 = some (.ireturn, 1, 0, 0) := by decide +kernel
theorem p106_17 {s0 : Int} {q0 q1 : MV} {ds : Ds} {m : Mm} {Q : Ds → Mm → List MV → Prop} : WP 106 17 [q0, q1] [(0, s0)] ds m Q = (Q ds m [(0, s0)]) := P_ri k106_17 rk106
set_option maxRecDepth 20000 in
theorem k107_0 : mjCode 107 0 = some (.iload_n 0, 1, 0, 0) := by decide +kernel
theorem p107_0 {l0 : Int} {ds : Ds} {m : Mm} {Q : Ds → Mm → List MV → Prop} : WP 107 0 [(0, l0)] [] ds m Q = (WP 107 1 [(0, l0)] [(0, l0)] ds m Q) := P_nx k107_0 rfl
set_option maxRecDepth 20000 in
theorem k107_1 : mjCode 107 1 = some (.ifCond .lt 13, 3, 14, 0) := by decide +kernel
theorem p107_1 {s0 : Int} {q0 : MV} {ds : Ds} {m : Mm} {Q : Ds → Mm → List MV → Prop} : WP 107 1 [q0] [(0, s0)] ds m Q = (if s0 < 0 then WP 107 14 [q0] [] ds m Q else WP 107 4 [q0] [] ds m Q) := P_if k107_1 rfl
set_option maxRecDepth 20000 in
theorem k107_4 : mjCode 107 4 = some (.iload_n 0, 1, 0, 0) := by decide +kernel
theorem p107_4 {l0 : Int} {ds : Ds} {m : Mm} {Q : Ds → Mm → List MV → Prop} : WP 107 4 [(0, l0)] [] ds m Q = (WP 107 5 [(0, l0)] [(0, l0)] ds m Q) := P_nx k107_4 rfl
set_option maxRecDepth 20000 in
theorem k107_5 : mjCode 107 5 = some (.bipush 96, 2, 0, 0) := by decide +kernel
theorem p107_5 {s0 : Int} {q0 : MV} {ds : Ds} {m : Mm} {Q : Ds → Mm → List MV → Prop} : WP 107 5 [q0] [(0, s0)] ds m Q = (WP 107 7 [q0] [(0, 96), (0, s0)] ds m Q) := P_nx k107_5 rfl
set_option maxRecDepth 20000 in
theorem k107_7 : mjCode 107 7 = some (.if_icmp .ge 7, 3, 14, 0) := by decide +kernel
theorem p107_7 {s0 s1 : Int} {q0 : MV} {ds : Ds} {m : Mm} {Q : Ds → Mm → List MV → Prop} : WP 107 7 [q0] [(0, s0), (0, s1)] ds m Q = (if s1 < s0 then WP 107 10 [q0] [] ds m Q else WP 107 14 [q0] [] ds m Q) := P_if k107_7 rfl
set_option maxRecDepth 20000 in
theorem k107_10 : mjCode 107 10 = some (.iconst 1, 1, 0, 0) := by decide +kernel
theorem p107_10 {q0 : MV} {ds : Ds} {m : Mm} {Q : Ds → Mm → List MV → Prop} : WP 107 10 [q0] [] ds m Q = (WP 107 11 [q0] [(0, 1)] ds m Q) := P_nx k107_10 rfl
set_option maxRecDepth 20000 in
theorem k107_11 : mjCode 107 11 = some (.goto 4, 3, 15, 0) := by decide +kernel
theorem p107_11 {s0 : Int} {q0 : MV} {ds : Ds} {m : Mm} {Q : Ds → Mm → List MV → Prop} : WP 107 11 [q0] [(0, s0)] ds m Q = (WP 107 15 [q0] [(0, s0)] ds m Q) := P_nx k107_11 rfl
set_option maxRecDepth 20000 in
theorem k107_14 : mjCode 107 14 = some (.iconst 0, 1, 0, 0) := by decide +kernel
theorem p107_14 {q0 : MV} {ds : Ds} {m : Mm} {Q : Ds → Mm → List MV → Prop} : WP 107 14 [q0] [] ds m Q = (WP 107 15 [q0] [(0, 0)] ds m Q) := P_nx k107_14 rfl
set_option maxRecDepth 20000 in
theorem k107_15 : mjCode 107 15 = some (.ireturn, 1, 0, 0) := by decide +kernel
theorem p107_15 {s0 : Int} {q0 : MV} {ds : Ds} {m : Mm} {Q : Ds → Mm → List MV → Prop} : WP 107 15 [q0] [(0, s0)] ds m Q = (((s0 = 0 ∨ s0 = 1) ∧ Q ds m [(0, s0)])) := P_rb k107_15 rk107
set_option maxRecDepth 20000 in
theorem k108_0 : mjCode 108 0 = some (.iload_n 0, 1, 0, 0) := by decide +kernel
theorem p108_0 {l0 : Int} {ds : Ds} {m : Mm} {Q : Ds → Mm → List MV → Prop} : WP 108 0 [(0, l0)] [] ds m Q = (WP 108 1 [(0, l0)] [(0, l0)] ds m Q) := P_nx k108_0 rfl
set_option maxRecDepth 20000 in
theorem k108_1 : mjCode 108 1 = some (.ifCond .lt 12, 3, 13, 0) := by decide +kernel
theorem p108_1 {s0 : Int} {q0 : MV} {ds : Ds} {m : Mm} {Q : Ds → Mm → List MV → Prop} : WP 108 1 [q0] [(0, s0)] ds m Q = (if s0 < 0 then WP 108 13 [q0] [] ds m Q else WP 108 4 [q0] [] ds m Q) := P_if k108_1 rfl
set_option maxRecDepth 20000 in
theorem k108_4 : mjCode 108 4 = some (.iload_n 0, 1, 0, 0) := by decide +kernel
theorem p108_4 {l0 : Int} {ds : Ds} {m : Mm} {Q : Ds → Mm → List MV → Prop} : WP 108 4 [(0, l0)] [] ds m Q = (WP 108 5 [(0, l0)] [(0, l0)] ds m Q) := P_nx k108_4 rfl
set_option maxRecDepth 20000 in
theorem k108_5 : mjCode 108 5 = some (.iconst 4, 1, 0, 0) := by decide +kernel
theorem p108_5 {s0 : Int} {q0 : MV} {ds : Ds} {m : Mm} {Q : Ds → Mm → List MV → Prop} : WP 108 5 [q0] [(0, s0)] ds m Q = (WP 108 6 [q0] [(0, 4), (0, s0)] ds m Q) := P_nx k108_5 rfl
set_option maxRecDepth 20000 in
theorem k108_6 : mjCode 108 6 = some (.if_icmp .ge 7, 3, 13, 0) := by decide +kernel
theorem p108_6 {s0 s1 : Int} {q0 : MV} {ds : Ds} {m : Mm} {Q : Ds → Mm → List MV → Prop} : WP 108 6 [q0] [(0, s0), (0, s1)] ds m Q = (if s1 < s0 then WP 108 9 [q0] [] ds m Q else WP 108 13 [q0] [] ds m Q) := P_if k108_6 rfl
set_option maxRecDepth 20000 in
theorem k108_9 : mjCode 108 9 = some (.iconst 1, 1, 0, 0) := by decide +kernel
theorem p108_9 {q0 : MV} {ds : Ds} {m : Mm} {Q : Ds → Mm → List MV → Prop} : WP 108 9 [q0] [] ds m Q = (WP 108 10 [q0] [(0, 1)] ds m Q) := P_nx k108_9 rfl
set_option maxRecDepth 20000 in
theorem k108_10 : mjCode 108 10 = some (.goto 4, 3, 14, 0) := by decide +kernel
theorem p108_10 {s0 : Int} {q0 : MV} {ds : Ds} {m : Mm} {Q : Ds → Mm → List MV → Prop} : WP 108 10 [q0] [(0, s0)] ds m Q = (WP 108 14 [q0] [(0, s0)] ds m Q) := P_nx k108_10 rfl
set_option maxRecDepth 20000 in
theorem k108_13 : mjCode 108 13 = some (.iconst 0, 1, 0, 0) := by decide +kernel
theorem p108_13 {q0 : MV} {ds : Ds} {m : Mm} {Q : Ds → Mm → List MV → Prop} : WP 108 13 [q0] [] ds m Q = (WP 108 14 [q0] [(0, 0)] ds m Q) := P_nx k108_13 rfl
set_option maxRecDepth 20000 in
theorem k108_14 : mjCode 108 14 = some (.ireturn, 1, 0, 0) := by decide +kernel
theorem p108_14 {s0 : Int} {q0 : MV} {ds : Ds} {m : Mm} {Q : Ds → Mm → List MV → Prop} : WP 108 14 [q0] [(0, s0)] ds m Q = (((s0 = 0 ∨ s0 = 1) ∧ Q ds m [(0, s0)])) := P_rb k108_14 rk108
set_option maxRecDepth 20000 in
theorem k109_0 : mjCode 109 0 = some (.iload_n 0, 1, 0, 0) := by decide +kernel
theorem p109_0 {l0 : Int} {ds : Ds} {m : Mm} {Q : Ds → Mm → List MV → Prop} : WP 109 0 [(0, l0)] [] ds m Q = (WP 109 1 [(0, l0)] [(0, l0)] ds m Q) := P_nx k109_0 rfl
set_option maxRecDepth 20000 in
theorem k109_1 : mjCode 109 1 = some (.ifCond .lt 13, 3, 14, 0) := by decide +kernel
theorem p109_1 {s0 : Int} {q0 : MV} {ds : Ds} {m : Mm} {Q : Ds → Mm → List MV → Prop} : WP 109 1 [q0] [(0, s0)] ds m Q = (if s0 < 0 then WP 109 14 [q0] [] ds m Q else WP 109 4 [q0] [] ds m Q) := P_if k109_1 rfl
set_option maxRecDepth 20000 in
theorem k109_4 : mjCode 109 4 = some (.iload_n 0, 1, 0, 0) := by decide +kernel
theorem p109_4 {l0 : Int} {ds : Ds} {m : Mm} {Q : Ds → Mm → List MV → Prop} : WP 109 4 [(0, l0)] [] ds m Q = (WP 109 5 [(0, l0)] [(0, l0)] ds m Q) := P_nx k109_4 rfl
set_option maxRecDepth 20000 in
theorem k109_5 : mjCode 109 5 = some (.bipush 8, 2, 0, 0) := by decide +kernel
theorem p109_5 {s0 : Int} {q0 : MV} {ds : Ds} {m : Mm} {Q : Ds → Mm → List MV → Prop} : WP 109 5 [q0] [(0, s0)] ds m Q = (WP 109 7 [q0] [(0, 8), (0, s0)] ds m Q) := P_nx k109_5 rfl
set_option maxRecDepth 20000 in
theorem k109_7 : mjCode 109 7 = some (.if_icmp .ge 7, 3, 14, 0) := by decide +kernel
theorem p109_7 {s0 s1 : Int} {q0 : MV} {ds : Ds} {m : Mm} {Q : Ds → Mm → List MV → Prop} : WP 109 7 [q0] [(0, s0), (0, s1)] ds m Q = (if s1 < s0 then WP 109 10 [q0] [] ds m Q else WP 109 14 [q0] [] ds m Q) := P_if k109_7 rfl
set_option maxRecDepth 20000 in
theorem k109_10 : mjCode 109 10 = some (.iconst 1, 1, 0, 0) := by decide +kernel
theorem p109_10 {q0 : MV} {ds : Ds} {m : Mm} {Q : Ds → Mm → List MV → Prop} : WP 109 10 [q0] [] ds m Q = (WP 109 11 [q0] [(0, 1)] ds m Q) := P_nx k109_10 rfl
set_option maxRecDepth 20000 in
theorem k109_11 : mjCode 109 11 = some (.goto 4, 3, 15, 0) := by decide +kernel
theorem p109_11 {s0 : Int} {q0 : MV} {ds : Ds} {m : Mm} {Q : Ds → Mm → List MV → Prop} : WP 109 11 [q0] [(0, s0)] ds m Q = (WP 109 15 [q0] [(0, s0)] ds m Q) := P_nx k109_11 rfl
set_option maxRecDepth 20000 in
theorem k109_14 : mjCode 109 14 = some (.iconst 0, 1, 0, 0) := by decide +kernel
theorem p109_14 {q0 : MV} {ds : Ds} {m : Mm} {Q : Ds → Mm → List MV → Prop} : WP 109 14 [q0] [] ds m Q = (WP 109 15 [q0] [(0, 0)] ds m Q) := P_nx k109_14 rfl
set_option maxRecDepth 20000 in
theorem k109_15 : mjCode 109 15 = some (.ireturn, 1, 0, 0) := by decide +kernel
theorem p109_15 {s0 : Int} {q0 : MV} {ds : Ds} {m : Mm} {Q : Ds → Mm → List MV → Prop} : WP 109 15 [q0] [(0, s0)] ds m Q = (((s0 = 0 ∨ s0 = 1) ∧ Q ds m [(0, s0)])) := P_rb k109_15 rk109
set_option maxRecDepth 20000 in
theorem k110_0 : mjCode 110 0 = some (.iload_n 0, 1, 0, 0) := by decide +kernel
theorem p110_0 {l0 : Int} {ds : Ds} {m : Mm} {Q : Ds → Mm → List MV → Prop} : WP 110 0 [(0, l0)] [] ds m Q = (WP 110 1 [(0, l0)] [(0, l0)] ds m Q) := P_nx k110_0 rfl
set_option maxRecDepth 20000 in
theorem k110_1 : mjCode 110 1 = some (.iconst 2, 1, 0, 0) := by decide +kernel
theorem p110_1 {s0 : Int} {q0 : MV} {ds : Ds} {m : Mm} {Q : Ds → Mm → List MV → Prop} : WP 110 1 [q0] [(0, s0)] ds m Q = (WP 110 2 [q0] [(0, 2), (0, s0)] ds m Q) := P_nx k110_1 rfl
set_option maxRecDepth 20000 in
theorem k110_2 : mjCode 110 2 = some (.iadd, 1, 0, 0) := by decide +kernel
theorem p110_2 {s0 s1 : Int} {q0 : MV} {ds : Ds} {m : Mm} {Q : Ds → Mm → List MV → Prop} : WP 110 2 [q0] [(0, s0), (0, s1)] ds m Q = (WP 110 3 [q0] [(0, w32 (s1 + s0))] ds m Q) := P_nx k110_2 rfl
set_option maxRecDepth 20000 in
theorem k110_3 : mjCode 110 3 = some (.iconst 4, 1, 0, 0) := by decide +kernel
theorem p110_3 {s0 : Int} {q0 : MV} {ds : Ds} {m : Mm} {Q : Ds → Mm → List MV → Prop} : WP 110 3 [q0] [(0, s0)] ds m Q = (WP 110 4 [q0] [(0, 4), (0, s0)] ds m Q) := P_nx k110_3 rfl
set_option maxRecDepth 20000 in
theorem k110_4 : mjCode 110 4 = some (.irem, 1, 0, 0) := by decide +kernel
theorem p110_4 {s0 s1 : Int} {q0 : MV} {ds : Ds} {m : Mm} {Q : Ds → Mm → List MV → Prop} : WP 110 4 [q0] [(0, s0), (0, s1)] ds m Q = ((¬ s0 = 0 ∧ WP 110 5 [q0] [(0, jrem s1 s0)] ds m Q)) := P_dv k110_4 rfl
set_option maxRecDepth 20000 in
theorem k110_5 : mjCode 110 5 = some (.ireturn, 1, 0, 0) := by decide +kernel
theorem p110_5 {s0 : Int} {q0 : MV} {ds : Ds} {m : Mm} {Q : Ds → Mm → List MV → Prop} : WP 110 5 [q0] [(0, s0)] ds m Q = (Q ds m [(0, s0)]) := P_ri k110_5 rk110
set_option maxRecDepth 20000 in
theorem k111_0 : mjCode 111 0 = some (.iload_n 0, 1, 0, 0) := by decide +kernel
theorem p111_0 {l0 : Int} {q1 q2 q3 : MV} {ds : Ds} {m : Mm} {Q : Ds → Mm → List MV → Prop} : WP 111 0 [(0, l0), q1, q2, q3] [] ds m Q = (WP 111 1 [(0, l0), q1, q2, q3] [(0, l0)] ds m Q) := P_nx k111_0 rfl
set_option maxRecDepth 20000 in
theorem k111_1 : mjCode 111 1 = some (.bipush 12, 2, 0, 0) := by decide +kernel
theorem p111_1 {s0 : Int} {q0 q1 q2 q3 : MV} {ds : Ds} {m : Mm} {Q : Ds → Mm → List MV → Prop} : WP 111 1 [q0, q1, q2, q3] [(0, s0)] ds m Q = (WP 111 3 [q0, q1, q2, q3] [(0, 12), (0, s0)] ds m Q) := P_nx k111_1 rfl
set_option maxRecDepth 20000 in
theorem k111_3 : mjCode 111 3 = some (.irem, 1, 0, 0) := by decide +kernel
theorem p111_3 {s0 s1 : Int} {q0 q1 q2 q3 : MV} {ds : Ds} {m : Mm} {Q : Ds → Mm → List MV → Prop} : WP 111 3 [q0, q1, q2, q3] [(0, s0), (0, s1)] ds m Q = ((¬ s0 = 0 ∧ WP 111 4 [q0, q1, q2, q3] [(0, jrem s1 s0)] ds m Q)) := P_dv k111_3 rfl
set_option maxRecDepth 20000 in
theorem k111_4 : mjCode 111 4 = some (.istore_n 2, 1, 0, 0) := by decide +kernel
theorem p111_4 {l1 s0 : Int} {q0 q2 q3 : MV} {ds : Ds} {m : Mm} {Q : Ds → Mm → List MV → Prop} : WP 111 4 [q0, (0, l1), q2, q3] [(0, s0)] ds m Q = (WP 111 5 [q0, (0, l1), (0, s0), q3] [] ds m Q) := P_nx k111_4 rfl
set_option maxRecDepth 20000 in
theorem k111_5 : mjCode 111 5 = some (.iload_n 0, 1, 0, 0) := by decide +kernel
theorem p111_5 {l0 : Int} {q1 q2 q3 : MV} {ds : Ds} {m : Mm} {Q : Ds → Mm → List MV → Prop} : WP 111 5 [(0, l0), q1, q2, q3] [] ds m Q = (WP 111 6 [(0, l0), q1, q2, q3] [(0, l0)] ds m Q) := P_nx k111_5 rfl
set_option maxRecDepth 20000 in
theorem k111_6 : mjCode 111 6 = some (.bipush 12, 2, 0, 0) := by decide +kernel
theorem p111_6 {s0 : Int} {q0 q1 q2 q3 : MV} {ds : Ds} {m : Mm} {Q : Ds → Mm → List MV → Prop} : WP 111 6 [q0, q1, q2, q3] [(0, s0)] ds m Q = (WP 111 8 [q0, q1, q2, q3] [(0, 12), (0, s0)] ds m Q) := P_nx k111_6 rfl
set_option maxRecDepth 20000 in
theorem k111_8 : mjCode 111 8 = some (.idiv, 1, 0, 0) := by decide +kernel
theorem p111_8 {s0 s1 : Int} {q0 q1 q2 q3 : MV} {ds : Ds} {m : Mm} {Q : Ds → Mm → List MV → Prop} : WP 111 8 [q0, q1, q2, q3] [(0, s0), (0, s1)] ds m Q = ((¬ s0 = 0 ∧ WP 111 9 [q0, q1, q2, q3] [(0, jdiv s1 s0)] ds m Q)) := P_dv k111_8 rfl
set_option maxRecDepth 20000 in
theorem k111_9 : mjCode 111 9 = some (.istore_n 3, 1, 0, 0) := by decide +kernel
theorem p111_9 {l2 s0 : Int} {q0 q1 q3 : MV} {ds : Ds} {m : Mm} {Q : Ds → Mm → List MV → Prop} : WP 111 9 [q0, q1, (0, l2), q3] [(0, s0)] ds m Q = (WP 111 10 [q0, q1, (0, l2), (0, s0)] [] ds m Q) := P_nx k111_9 rfl
set_option maxRecDepth 20000 in
theorem k111_10 : mjCode 111 10 = some (.iload_n 1, 1, 0, 0) := by decide +kernel
theorem p111_10 {l1 : Int} {q0 q2 q3 : MV} {ds : Ds} {m : Mm} {Q : Ds → Mm → List MV → Prop} : WP 111 10 [q0, (0, l1), q2, q3] [] ds m Q = (WP 111 11 [q0, (0, l1), q2, q3] [(0, l1)] ds m Q) := P_nx k111_10 rfl
set_option maxRecDepth 20000 in
theorem k111_11 : mjCode 111 11 = some (.tableswitch 83 0 3 #[29, 42, 56, 71], 29, 0, 0) := by decide +kernel
theorem p111_11 {s0 : Int} {q0 q1 q2 q3 : MV} {ds : Ds} {m : Mm} {Q : Ds → Mm → List MV → Prop} : WP 111 11 [q0, q1, q2, q3] [(0, s0)] ds m Q = (if s0 = 0 then WP 111 40 [q0, q1, q2, q3] [] ds m Q else if s0 = 1 then WP 111 53 [q0, q1, q2, q3] [] ds m Q else if s0 = 2 then WP 111 67 [q0, q1, q2, q3] [] ds m Q else if s0 = 3 then WP 111 82 [q0, q1, q2, q3] [] ds m Q else WP 111 94 [q0, q1, q2, q3] [] ds m Q) := by
  by_cases h0 : s0 = 0
  · subst h0
    rw [if_pos rfl]
    exact P_nx k111_11 rfl
  rw [if_neg h0]
  by_cases h1 : s0 = 1
  · subst h1
    rw [if_pos rfl]
    exact P_nx k111_11 rfl
  rw [if_neg h1]
  by_cases h2 : s0 = 2
  · subst h2
    rw [if_pos rfl]
    exact P_nx k111_11 rfl
  rw [if_neg h2]
  by_cases h3 : s0 = 3
  · subst h3
    rw [if_pos rfl]
    exact P_nx k111_11 rfl
  rw [if_neg h3]
  exact P_nx k111_11 (by simp only [stpI]; rw [if_pos (by omega)]; rfl)
set_option maxRecDepth 20000 in
theorem k111_40 : mjCode 111 40 = some (.iload_n 3, 1, 0, 0) := by decide +kernel
theorem p111_40 {l3 : Int} {q0 q1 q2 : MV} {ds : Ds} {m : Mm} {Q : Ds → Mm → List MV → Prop} : WP 111 40 [q0, q1, q2, (0, l3)] [] ds m Q = (WP 111 41 [q0, q1, q2, (0, l3)] [(0, l3)] ds m Q) := P_nx k111_40 rfl
set_option maxRecDepth 20000 in
theorem k111_41 : mjCode 111 41 = some (.ifCond .le 10, 3, 51, 0) := by decide +kernel
theorem p111_41 {s0 : Int} {q0 q1 q2 q3 : MV} {ds : Ds} {m : Mm} {Q : Ds → Mm → List MV → Prop} : WP 111 41 [q0, q1, q2, q3] [(0, s0)] ds m Q = (if 0 < s0 then WP 111 44 [q0, q1, q2, q3] [] ds m Q else WP 111 51 [q0, q1, q2, q3] [] ds m Q) := P_if k111_41 rfl
set_option maxRecDepth 20000 in
theorem k111_44 : mjCode 111 44 = some (.iload_n 0, 1, 0, 0) := by decide +kernel
theorem p111_44 {l0 : Int} {q1 q2 q3 : MV} {ds : Ds} {m : Mm} {Q : Ds → Mm → List MV → Prop} : WP 111 44 [(0, l0), q1, q2, q3] [] ds m Q = (WP 111 45 [(0, l0), q1, q2, q3] [(0, l0)] ds m Q) := P_nx k111_44 rfl
set_option maxRecDepth 20000 in
theorem k111_45 : mjCode 111 45 = some (.bipush 12, 2, 0, 0) := by decide +kernel
theorem p111_45 {s0 : Int} {q0 q1 q2 q3 : MV} {ds : Ds} {m : Mm} {Q : Ds → Mm → List MV → Prop} : WP 111 45 [q0, q1, q2, q3] [(0, s0)] ds m Q = (WP 111 47 [q0, q1, q2, q3] [(0, 12), (0, s0)] ds m Q) := P_nx k111_45 rfl
set_option maxRecDepth 20000 in
theorem k111_47 : mjCode 111 47 = some (.isub, 1, 0, 0) := by decide +kernel
theorem p111_47 {s0 s1 : Int} {q0 q1 q2 q3 : MV} {ds : Ds} {m : Mm} {Q : Ds → Mm → List MV → Prop} : WP 111 47 [q0, q1, q2, q3] [(0, s0), (0, s1)] ds m Q = (WP 111 48 [q0, q1, q2, q3] [(0, w32 (s1 - s0))] ds m Q) := P_nx k111_47 rfl
set_option maxRecDepth 20000 in
theorem k111_48 : mjCode 111 48 = some (.goto 4, 3, 52, 0) := by decide +kernel
theorem p111_48 {s0 : Int} {q0 q1 q2 q3 : MV} {ds : Ds} {m : Mm} {Q : Ds → Mm → List MV → Prop} : WP 111 48 [q0, q1, q2, q3] [(0, s0)] ds m Q = (WP 111 52 [q0, q1, q2, q3] [(0, s0)] ds m Q) := P_nx k111_48 rfl
set_option maxRecDepth 20000 in
theorem k111_51 : mjCode 111 51 = some (.iconst (-1), 1, 0, 0) := by decide +kernel
theorem p111_51 {q0 q1 q2 q3 : MV} {ds : Ds} {m : Mm} {Q : Ds → Mm → List MV → Prop} : WP 111 51 [q0, q1, q2, q3] [] ds m Q = (WP 111 52 [q0, q1, q2, q3] [(0, (-1))] ds m Q) := P_nx k111_51 rfl
set_option maxRecDepth 20000 in
theorem k111_52 : mjCode 111 52 = some (.ireturn, 1, 0, 0) := by decide +kernel
theorem p111_52 {s0 : Int} {q0 q1 q2 q3 : MV} {ds : Ds} {m : Mm} {Q : Ds → Mm → List MV → Prop} : WP 111 52 [q0, q1, q2, q3] [(0, s0)] ds m Q = (Q ds m [(0, s0)]) := P_ri k111_52 rk111
set_option maxRecDepth 20000 in
theorem k111_53 : mjCode 111 53 = some (.iload_n 2, 1, 0, 0) := by decide +kernel
theorem p111_53 {l2 : Int} {q0 q1 q3 : MV} {ds : Ds} {m : Mm} {Q : Ds → Mm → List MV → Prop} : WP 111 53 [q0, q1, (0, l2), q3] [] ds m Q = (WP 111 54 [q0, q1, (0, l2), q3] [(0, l2)] ds m Q) := P_nx k111_53 rfl
set_option maxRecDepth 20000 in
theorem k111_54 : mjCode 111 54 = some (.bipush 11, 2, 0, 0) := by decide +kernel
theorem p111_54 {s0 : Int} {q0 q1 q2 q3 : MV} {ds : Ds} {m : Mm} {Q : Ds → Mm → List MV → Prop} : WP 111 54 [q0, q1, q2, q3] [(0, s0)] ds m Q = (WP 111 56 [q0, q1, q2, q3] [(0, 11), (0, s0)] ds m Q) := P_nx k111_54 rfl
set_option maxRecDepth 20000 in
theorem k111_56 : mjCode 111 56 = some (.if_icmp .ge 9, 3, 65, 0) := by decide +kernel
theorem p111_56 {s0 s1 : Int} {q0 q1 q2 q3 : MV} {ds : Ds} {m : Mm} {Q : Ds → Mm → List MV → Prop} : WP 111 56 [q0, q1, q2, q3] [(0, s0), (0, s1)] ds m Q = (if s1 < s0 then WP 111 59 [q0, q1, q2, q3] [] ds m Q else WP 111 65 [q0, q1, q2, q3] [] ds m Q) := P_if k111_56 rfl
set_option maxRecDepth 20000 in
theorem k111_59 : mjCode 111 59 = some (.iload_n 0, 1, 0, 0) := by decide +kernel
theorem p111_59 {l0 : Int} {q1 q2 q3 : MV} {ds : Ds} {m : Mm} {Q : Ds → Mm → List MV → Prop} : WP 111 59 [(0, l0), q1, q2, q3] [] ds m Q = (WP 111 60 [(0, l0), q1, q2, q3] [(0, l0)] ds m Q) := P_nx k111_59 rfl
set_option maxRecDepth 20000 in
theorem k111_60 : mjCode 111 60 = some (.iconst 1, 1, 0, 0) := by decide +kernel
theorem p111_60 {s0 : Int} {q0 q1 q2 q3 : MV} {ds : Ds} {m : Mm} {Q : Ds → Mm → List MV → Prop} : WP 111 60 [q0, q1, q2, q3] [(0, s0)] ds m Q = (WP 111 61 [q0, q1, q2, q3] [(0, 1), (0, s0)] ds m Q) := P_nx k111_60 rfl
set_option maxRecDepth 20000 in
theorem k111_61 : mjCode 111 61 = some (.iadd, 1, 0, 0) := by decide +kernel
theorem p111_61 {s0 s1 : Int} {q0 q1 q2 q3 : MV} {ds : Ds} {m : Mm} {Q : Ds → Mm → List MV → Prop} : WP 111 61 [q0, q1, q2, q3] [(0, s0), (0, s1)] ds m Q = (WP 111 62 [q0, q1, q2, q3] [(0, w32 (s1 + s0))] ds m Q) := P_nx k111_61 rfl
set_option maxRecDepth 20000 in
theorem k111_62 : mjCode 111 62 = some (.goto 4, 3, 66, 0) := by decide +kernel
theorem p111_62 {s0 : Int} {q0 q1 q2 q3 : MV} {ds : Ds} {m : Mm} {Q : Ds → Mm → List MV → Prop} : WP 111 62 [q0, q1, q2, q3] [(0, s0)] ds m Q = (WP 111 66 [q0, q1, q2, q3] [(0, s0)] ds m Q) := P_nx k111_62 rfl
set_option maxRecDepth 20000 in
theorem k111_65 : mjCode 111 65 = some (.iconst (-1), 1, 0, 0) := by decide +kernel
theorem p111_65 {q0 q1 q2 q3 : MV} {ds : Ds} {m : Mm} {Q : Ds → Mm → List MV → Prop} : WP 111 65 [q0, q1, q2, q3] [] ds m Q = (WP 111 66 [q0, q1, q2, q3] [(0, (-1))] ds m Q) := P_nx k111_65 rfl
set_option maxRecDepth 20000 in
theorem k111_66 : mjCode 111 66 = some (.ireturn, 1, 0, 0) := by decide +kernel
theorem p111_66 {s0 : Int} {q0 q1 q2 q3 : MV} {ds : Ds} {m : Mm} {Q : Ds → Mm → List MV → Prop} : WP 111 66 [q0, q1, q2, q3] [(0, s0)] ds m Q = (Q ds m [(0, s0)]) := P_ri k111_66 rk111
set_option maxRecDepth 20000 in
theorem k111_67 : mjCode 111 67 = some (.iload_n 3, 1, 0, 0) := by decide +kernel
theorem p111_67 {l3 : Int} {q0 q1 q2 : MV} {ds : Ds} {m : Mm} {Q : Ds → Mm → List MV → Prop} : WP 111 67 [q0, q1, q2, (0, l3)] [] ds m Q = (WP 111 68 [q0, q1, q2, (0, l3)] [(0, l3)] ds m Q) := P_nx k111_67 rfl
set_option maxRecDepth 20000 in
theorem k111_68 : mjCode 111 68 = some (.bipush 7, 2, 0, 0) := by decide +kernel
theorem p111_68 {s0 : Int} {q0 q1 q2 q3 : MV} {ds : Ds} {m : Mm} {Q : Ds → Mm → List MV → Prop} : WP 111 68 [q0, q1, q2, q3] [(0, s0)] ds m Q = (WP 111 70 [q0, q1, q2, q3] [(0, 7), (0, s0)] ds m Q) := P_nx k111_68 rfl
set_option maxRecDepth 20000 in
theorem k111_70 : mjCode 111 70 = some (.if_icmp .ge 10, 3, 80, 0) := by decide +kernel
theorem p111_70 {s0 s1 : Int} {q0 q1 q2 q3 : MV} {ds : Ds} {m : Mm} {Q : Ds → Mm → List MV → Prop} : WP 111 70 [q0, q1, q2, q3] [(0, s0), (0, s1)] ds m Q = (if s1 < s0 then WP 111 73 [q0, q1, q2, q3] [] ds m Q else WP 111 80 [q0, q1, q2, q3] [] ds m Q) := P_if k111_70 rfl
set_option maxRecDepth 20000 in
theorem k111_73 : mjCode 111 73 = some (.iload_n 0, 1, 0, 0) := by decide +kernel
theorem p111_73 {l0 : Int} {q1 q2 q3 : MV} {ds : Ds} {m : Mm} {Q : Ds → Mm → List MV → Prop} : WP 111 73 [(0, l0), q1, q2, q3] [] ds m Q = (WP 111 74 [(0, l0), q1, q2, q3] [(0, l0)] ds m Q) := P_nx k111_73 rfl
set_option maxRecDepth 20000 in
theorem k111_74 : mjCode 111 74 = some (.bipush 12, 2, 0, 0) := by decide +kernel
theorem p111_74 {s0 : Int} {q0 q1 q2 q3 : MV} {ds : Ds} {m : Mm} {Q : Ds → Mm → List MV → Prop} : WP 111 74 [q0, q1, q2, q3] [(0, s0)] ds m Q = (WP 111 76 [q0, q1, q2, q3] [(0, 12), (0, s0)] ds m Q) := P_nx k111_74 rfl
set_option maxRecDepth 20000 in
theorem k111_76 : mjCode 111 76 = some (.iadd, 1, 0, 0) := by decide +kernel
theorem p111_76 {s0 s1 : Int} {q0 q1 q2 q3 : MV} {ds : Ds} {m : Mm} {Q : Ds → Mm → List MV → Prop} : WP 111 76 [q0, q1, q2, q3] [(0, s0), (0, s1)] ds m Q = (WP 111 77 [q0, q1, q2, q3] [(0, w32 (s1 + s0))] ds m Q) := P_nx k111_76 rfl
set_option maxRecDepth 20000 in
theorem k111_77 : mjCode 111 77 = some (.goto 4, 3, 81, 0) := by decide +kernel
theorem p111_77 {s0 : Int} {q0 q1 q2 q3 : MV} {ds : Ds} {m : Mm} {Q : Ds → Mm → List MV → Prop} : WP 111 77 [q0, q1, q2, q3] [(0, s0)] ds m Q = (WP 111 81 [q0, q1, q2, q3] [(0, s0)] ds m Q) := P_nx k111_77 rfl
set_option maxRecDepth 20000 in
theorem k111_80 : mjCode 111 80 = some (.iconst (-1), 1, 0, 0) := by decide +kernel
theorem p111_80 {q0 q1 q2 q3 : MV} {ds : Ds} {m : Mm} {Q : Ds → Mm → List MV → Prop} : WP 111 80 [q0, q1, q2, q3] [] ds m Q = (WP 111 81 [q0, q1, q2, q3] [(0, (-1))] ds m Q) := P_nx k111_80 rfl
set_option maxRecDepth 20000 in
theorem k111_81 : mjCode 111 81 = some (.ireturn, 1, 0, 0) := by decide +kernel
theorem p111_81 {s0 : Int} {q0 q1 q2 q3 : MV} {ds : Ds} {m : Mm} {Q : Ds → Mm → List MV → Prop} : WP 111 81 [q0, q1, q2, q3] [(0, s0)] ds m Q = (Q ds m [(0, s0)]) := P_ri k111_81 rk111
set_option maxRecDepth 20000 in
theorem k111_82 : mjCode 111 82 = some (.iload_n 2, 1, 0, 0) := by decide +kernel
theorem p111_82 {l2 : Int} {q0 q1 q3 : MV} {ds : Ds} {m : Mm} {Q : Ds → Mm → List MV → Prop} : WP 111 82 [q0, q1, (0, l2), q3] [] ds m Q = (WP 111 83 [q0, q1, (0, l2), q3] [(0, l2)] ds m Q) := P_nx k111_82 rfl
set_option maxRecDepth 20000 in
theorem k111_83 : mjCode 111 83 = some (.ifCond .le 9, 3, 92, 0) := by decide +kernel
theorem p111_83 {s0 : Int} {q0 q1 q2 q3 : MV} {ds : Ds} {m : Mm} {Q : Ds → Mm → List MV → Prop} : WP 111 83 [q0, q1, q2, q3] [(0, s0)] ds m Q = (if 0 < s0 then WP 111 86 [q0, q1, q2, q3] [] ds m Q else WP 111 92 [q0, q1, q2, q3] [] ds m Q) := P_if k111_83 rfl
set_option maxRecDepth 20000 in
theorem k111_86 : mjCode 111 86 = some (.iload_n 0, 1, 0, 0) := by decide +kernel
theorem p111_86 {l0 : Int} {q1 q2 q3 : MV} {ds : Ds} {m : Mm} {Q : Ds → Mm → List MV → Prop} : WP 111 86 [(0, l0), q1, q2, q3] [] ds m Q = (WP 111 87 [(0, l0), q1, q2, q3] [(0, l0)] ds m Q) := P_nx k111_86 rfl
set_option maxRecDepth 20000 in
theorem k111_87 : mjCode 111 87 = some (.iconst 1, 1, 0, 0) := by decide +kernel
theorem p111_87 {s0 : Int} {q0 q1 q2 q3 : MV} {ds : Ds} {m : Mm} {Q : Ds → Mm → List MV → Prop} : WP 111 87 [q0, q1, q2, q3] [(0, s0)] ds m Q = (WP 111 88 [q0, q1, q2, q3] [(0, 1), (0, s0)] ds m Q) := P_nx k111_87 rfl
set_option maxRecDepth 20000 in
theorem k111_88 : mjCode 111 88 = some (.isub, 1, 0, 0) := by decide +kernel
theorem p111_88 {s0 s1 : Int} {q0 q1 q2 q3 : MV} {ds : Ds} {m : Mm} {Q : Ds → Mm → List MV → Prop} : WP 111 88 [q0, q1, q2, q3] [(0, s0), (0, s1)] ds m Q = (WP 111 89 [q0, q1, q2, q3] [(0, w32 (s1 - s0))] ds m Q) := P_nx k111_88 rfl
set_option maxRecDepth 20000 in
theorem k111_89 : mjCode 111 89 = some (.goto 4, 3, 93, 0) := by decide +kernel
theorem p111_89 {s0 : Int} {q0 q1 q2 q3 : MV} {ds : Ds} {m : Mm} {Q : Ds → Mm → List MV → Prop} : WP 111 89 [q0, q1, q2, q3] [(0, s0)] ds m Q = (WP 111 93 [q0, q1, q2, q3] [(0, s0)] ds m Q) := P_nx k111_89 rfl
set_option maxRecDepth 20000 in
theorem k111_92 : mjCode 111 92 = some (.iconst (-1), 1, 0, 0) := by decide +kernel
theorem p111_92 {q0 q1 q2 q3 : MV} {ds : Ds} {m : Mm} {Q : Ds → Mm → List MV → Prop} : WP 111 92 [q0, q1, q2, q3] [] ds m Q = (WP 111 93 [q0, q1, q2, q3] [(0, (-1))] ds m Q) := P_nx k111_92 rfl
set_option maxRecDepth 20000 in
theorem k111_93 : mjCode 111 93 = some (.ireturn, 1, 0, 0) := by decide +kernel
theorem p111_93 {s0 : Int} {q0 q1 q2 q3 : MV} {ds : Ds} {m : Mm} {Q : Ds → Mm → List MV → Prop} : WP 111 93 [q0, q1, q2, q3] [(0, s0)] ds m Q = (Q ds m [(0, s0)]) := P_ri k111_93 rk111
set_option maxRecDepth 20000 in
theorem k111_94 : mjCode 111 94 = some (.iconst (-1), 1, 0, 0) := by decide +kernel
theorem p111_94 {q0 q1 q2 q3 : MV} {ds : Ds} {m : Mm} {Q : Ds → Mm → List MV → Prop} : WP 111 94 [q0, q1, q2, q3] [] ds m Q = (WP 111 95 [q0, q1, q2, q3] [(0, (-1))] ds m Q) := P_nx k111_94 rfl
set_option maxRecDepth 20000 in
theorem k111_95 : mjCode 111 95 = some (.ireturn, 1, 0, 0) := by decide +kernel
theorem p111_95 {s0 : Int} {q0 q1 q2 q3 : MV} {ds : Ds} {m : Mm} {Q : Ds → Mm → List MV → Prop} : WP 111 95 [q0, q1, q2, q3] [(0, s0)] ds m Q = (Q ds m [(0, s0)]) := P_ri k111_95 rk111
set_option maxRecDepth 20000 in
theorem k112_0 : mjCode 112 0 = some (.iload_n 0, 1, 0, 0) := by decide +kernel
theorem p112_0 {l0 : Int} {ds : Ds} {m : Mm} {Q : Ds → Mm → List MV → Prop} : WP 112 0 [(0, l0)] [] ds m Q = (WP 112 1 [(0, l0)] [(0, l0)] ds m Q) := P_nx k112_0 rfl
set_option maxRecDepth 20000 in
theorem k112_1 : mjCode 112 1 = some (.iconst 5, 1, 0, 0) := by decide +kernel
theorem p112_1 {s0 : Int} {q0 : MV} {ds : Ds} {m : Mm} {Q : Ds → Mm → List MV → Prop} : WP 112 1 [q0] [(0, s0)] ds m Q = (WP 112 2 [q0] [(0, 5), (0, s0)] ds m Q) := P_nx k112_1 rfl
set_option maxRecDepth 20000 in
theorem k112_2 : mjCode 112 2 = some (.if_icmp .eq 19, 3, 21, 0) := by decide +kernel
theorem p112_2 {s0 s1 : Int} {q0 : MV} {ds : Ds} {m : Mm} {Q : Ds → Mm → List MV → Prop} : WP 112 2 [q0] [(0, s0), (0, s1)] ds m Q = (if s1 = s0 then WP 112 21 [q0] [] ds m Q else WP 112 5 [q0] [] ds m Q) := P_if k112_2 rfl
set_option maxRecDepth 20000 in
theorem k112_5 : mjCode 112 5 = some (.iload_n 0, 1, 0, 0) := by decide +kernel
theorem p112_5 {l0 : Int} {ds : Ds} {m : Mm} {Q : Ds → Mm → List MV → Prop} : WP 112 5 [(0, l0)] [] ds m Q = (WP 112 6 [(0, l0)] [(0, l0)] ds m Q) := P_nx k112_5 rfl
set_option maxRecDepth 20000 in
theorem k112_6 : mjCode 112 6 = some (.bipush 7, 2, 0, 0) := by decide +kernel
theorem p112_6 {s0 : Int} {q0 : MV} {ds : Ds} {m : Mm} {Q : Ds → Mm → List MV → Prop} : WP 112 6 [q0] [(0, s0)] ds m Q = (WP 112 8 [q0] [(0, 7), (0, s0)] ds m Q) := P_nx k112_6 rfl
set_option maxRecDepth 20000 in
theorem k112_8 : mjCode 112 8 = some (.if_icmp .eq 13, 3, 21, 0) := by decide +kernel
theorem p112_8 {s0 s1 : Int} {q0 : MV} {ds : Ds} {m : Mm} {Q : Ds → Mm → List MV → Prop} : WP 112 8 [q0] [(0, s0), (0, s1)] ds m Q = (if s1 = s0 then WP 112 21 [q0] [] ds m Q else WP 112 11 [q0] [] ds m Q) := P_if k112_8 rfl
set_option maxRecDepth 20000 in
theorem k112_11 : mjCode 112 11 = some (.iload_n 0, 1, 0, 0) := by decide +kernel
theorem p112_11 {l0 : Int} {ds : Ds} {m : Mm} {Q : Ds → Mm → List MV → Prop} : WP 112 11 [(0, l0)] [] ds m Q = (WP 112 12 [(0, l0)] [(0, l0)] ds m Q) := P_nx k112_11 rfl
set_option maxRecDepth 20000 in
theorem k112_12 : mjCode 112 12 = some (.bipush 8, 2, 0, 0) := by decide +kernel
theorem p112_12 {s0 : Int} {q0 : MV} {ds : Ds} {m : Mm} {Q : Ds → Mm → List MV → Prop} : WP 112 12 [q0] [(0, s0)] ds m Q = (WP 112 14 [q0] [(0, 8), (0, s0)] ds m Q) := P_nx k112_12 rfl
set_option maxRecDepth 20000 in
theorem k112_14 : mjCode 112 14 = some (.if_icmp .eq 7, 3, 21, 0) := by decide +kernel
theorem p112_14 {s0 s1 : Int} {q0 : MV} {ds : Ds} {m : Mm} {Q : Ds → Mm → List MV → Prop} : WP 112 14 [q0] [(0, s0), (0, s1)] ds m Q = (if s1 = s0 then WP 112 21 [q0] [] ds m Q else WP 112 17 [q0] [] ds m Q) := P_if k112_14 rfl
set_option maxRecDepth 20000 in
theorem k112_17 : mjCode 112 17 = some (.iconst 1, 1, 0, 0) := by decide +kernel
theorem p112_17 {q0 : MV} {ds : Ds} {m : Mm} {Q : Ds → Mm → List MV → Prop} : WP 112 17 [q0] [] ds m Q = (WP 112 18 [q0] [(0, 1)] ds m Q) := P_nx k112_17 rfl
set_option maxRecDepth 20000 in
theorem k112_18 : mjCode 112 18 = some (.goto 4, 3, 22, 0) := by decide +kernel
theorem p112_18 {s0 : Int} {q0 : MV} {ds : Ds} {m : Mm} {Q : Ds → Mm → List MV → Prop} : WP 112 18 [q0] [(0, s0)] ds m Q = (WP 112 22 [q0] [(0, s0)] ds m Q) := P_nx k112_18 rfl
set_option maxRecDepth 20000 in
theorem k112_21 : mjCode 112 21 = some (.iconst 0, 1, 0, 0) := by decide +kernel
theorem p112_21 {q0 : MV} {ds : Ds} {m : Mm} {Q : Ds → Mm → List MV → Prop} : WP 112 21 [q0] [] ds m Q = (WP 112 22 [q0] [(0, 0)] ds m Q) := P_nx k112_21 rfl
set_option maxRecDepth 20000 in
theorem k112_22 : mjCode 112 22 = some (.ireturn, 1, 0, 0) := by decide +kernel
theorem p112_22 {s0 : Int} {q0 : MV} {ds : Ds} {m : Mm} {Q : Ds → Mm → List MV → Prop} : WP 112 22 [q0] [(0, s0)] ds m Q = (((s0 = 0 ∨ s0 = 1) ∧ Q ds m [(0, s0)])) := P_rb k112_22 rk112
set_option maxRecDepth 20000 in
theorem k113_0 : mjCode 113 0 = some (.iload_n 0, 1, 0, 0) := by decide +kernel
theorem p113_0 {l0 : Int} {ds : Ds} {m : Mm} {Q : Ds → Mm → List MV → Prop} : WP 113 0 [(0, l0)] [] ds m Q = (WP 113 1 [(0, l0)] [(0, l0)] ds m Q) := P_nx k113_0 rfl
set_option maxRecDepth 20000 in
theorem k113_1 : mjCode 113 1 = some (.iconst 4, 1, 0, 0) := by decide +kernel
theorem p113_1 {s0 : Int} {q0 : MV} {ds : Ds} {m : Mm} {Q : Ds → Mm → List MV → Prop} : WP 113 1 [q0] [(0, s0)] ds m Q = (WP 113 2 [q0] [(0, 4), (0, s0)] ds m Q) := P_nx k113_1 rfl
set_option maxRecDepth 20000 in
theorem k113_2 : mjCode 113 2 = some (.if_icmp .eq 9, 3, 11, 0) := by decide +kernel
theorem p113_2 {s0 s1 : Int} {q0 : MV} {ds : Ds} {m : Mm} {Q : Ds → Mm → List MV → Prop} : WP 113 2 [q0] [(0, s0), (0, s1)] ds m Q = (if s1 = s0 then WP 113 11 [q0] [] ds m Q else WP 113 5 [q0] [] ds m Q) := P_if k113_2 rfl
set_option maxRecDepth 20000 in
theorem k113_5 : mjCode 113 5 = some (.iload_n 0, 1, 0, 0) := by decide +kernel
theorem p113_5 {l0 : Int} {ds : Ds} {m : Mm} {Q : Ds → Mm → List MV → Prop} : WP 113 5 [(0, l0)] [] ds m Q = (WP 113 6 [(0, l0)] [(0, l0)] ds m Q) := P_nx k113_5 rfl
set_option maxRecDepth 20000 in
theorem k113_6 : mjCode 113 6 = some (.bipush 6, 2, 0, 0) := by decide +kernel
theorem p113_6 {s0 : Int} {q0 : MV} {ds : Ds} {m : Mm} {Q : Ds → Mm → List MV → Prop} : WP 113 6 [q0] [(0, s0)] ds m Q = (WP 113 8 [q0] [(0, 6), (0, s0)] ds m Q) := P_nx k113_6 rfl
set_option maxRecDepth 20000 in
theorem k113_8 : mjCode 113 8 = some (.if_icmp .ne 7, 3, 15, 0) := by decide +kernel
theorem p113_8 {s0 s1 : Int} {q0 : MV} {ds : Ds} {m : Mm} {Q : Ds → Mm → List MV → Prop} : WP 113 8 [q0] [(0, s0), (0, s1)] ds m Q = (if s1 = s0 then WP 113 11 [q0] [] ds m Q else WP 113 15 [q0] [] ds m Q) := P_if k113_8 rfl
set_option maxRecDepth 20000 in
theorem k113_11 : mjCode 113 11 = some (.iconst 1, 1, 0, 0) := by decide +kernel
theorem p113_11 {q0 : MV} {ds : Ds} {m : Mm} {Q : Ds → Mm → List MV → Prop} : WP 113 11 [q0] [] ds m Q = (WP 113 12 [q0] [(0, 1)] ds m Q) := P_nx k113_11 rfl
set_option maxRecDepth 20000 in
theorem k113_12 : mjCode 113 12 = some (.goto 4, 3, 16, 0) := by decide +kernel
theorem p113_12 {s0 : Int} {q0 : MV} {ds : Ds} {m : Mm} {Q : Ds → Mm → List MV → Prop} : WP 113 12 [q0] [(0, s0)] ds m Q = (WP 113 16 [q0] [(0, s0)] ds m Q) := P_nx k113_12 rfl
set_option maxRecDepth 20000 in
theorem k113_15 : mjCode 113 15 = some (.iconst 0, 1, 0, 0) := by decide +kernel
theorem p113_15 {q0 : MV} {ds : Ds} {m : Mm} {Q : Ds → Mm → List MV → Prop} : WP 113 15 [q0] [] ds m Q = (WP 113 16 [q0] [(0, 0)] ds m Q) := P_nx k113_15 rfl
set_option maxRecDepth 20000 in
theorem k113_16 : mjCode 113 16 = some (.ireturn, 1, 0, 0) := by decide +kernel
theorem p113_16 {s0 : Int} {q0 : MV} {ds : Ds} {m : Mm} {Q : Ds → Mm → List MV → Prop} : WP 113 16 [q0] [(0, s0)] ds m Q = (((s0 = 0 ∨ s0 = 1) ∧ Q ds m [(0, s0)])) := P_rb k113_16 rk113
set_option maxRecDepth 20000 in
theorem k114_0 : mjCode 114 0 = some (.iload_n 0, 1, 0, 0) := by decide +kernel
theorem p114_0 {l0 : Int} {q1 q2 : MV} {ds : Ds} {m : Mm} {Q : Ds → Mm → List MV → Prop} : WP 114 0 [(0, l0), q1, q2] [] ds m Q = (WP 114 1 [(0, l0), q1, q2] [(0, l0)] ds m Q) := P_nx k114_0 rfl
set_option maxRecDepth 20000 in
theorem k114_1 : mjCode 114 1 = some (.invokestatic 321, 3, 113, 1) := by decide +kernel
theorem p114_1 {s0 : Int} {q0 q1 q2 : MV} {ds : Ds} {m : Mm} {Q : Ds → Mm → List MV → Prop} : WP 114 1 [q0, q1, q2] [(0, s0)] ds m Q = (WP 112 0 [(0, s0)] [] ds m (fun d2 m2 r2 => WP 114 4 [q0, q1, q2] (r2 ++ []) d2 m2 Q)) := P_cs k114_1 mx112 rfl rfl rfl rfl rfl rfl rfl
set_option maxRecDepth 20000 in
theorem k114_4 : mjCode 114 4 = some (.ifCond .ne 5, 3, 9, 0) := by decide +kernel
theorem p114_4 {s0 : Int} {q0 q1 q2 : MV} {ds : Ds} {m : Mm} {Q : Ds → Mm → List MV → Prop} : WP 114 4 [q0, q1, q2] [(0, s0)] ds m Q = (if s0 = 0 then WP 114 7 [q0, q1, q2] [] ds m Q else WP 114 9 [q0, q1, q2] [] ds m Q) := P_if k114_4 rfl
set_option maxRecDepth 20000 in
theorem k114_7 : mjCode 114 7 = some (.iconst 1, 1, 0, 0) := by decide +kernel
theorem p114_7 {q0 q1 q2 : MV} {ds : Ds} {m : Mm} {Q : Ds → Mm → List MV → Prop} : WP 114 7 [q0, q1, q2] [] ds m Q = (WP 114 8 [q0, q1, q2] [(0, 1)] ds m Q) := P_nx k114_7 rfl
set_option maxRecDepth 20000 in
theorem k114_8 : mjCode 114 8 = some (.ireturn, 1, 0, 0) := by decide +kernel
theorem p114_8 {s0 : Int} {q0 q1 q2 : MV} {ds : Ds} {m : Mm} {Q : Ds → Mm → List MV → Prop} : WP 114 8 [q0, q1, q2] [(0, s0)] ds m Q = (((s0 = 0 ∨ s0 = 1) ∧ Q ds m [(0, s0)])) := P_rb k114_8 rk114
set_option maxRecDepth 20000 in
theorem k114_9 : mjCode 114 9 = some (.iload_n 1, 1, 0, 0) := by decide +kernel
theorem p114_9 {l1 : Int} {q0 q2 : MV} {ds : Ds} {m : Mm} {Q : Ds → Mm → List MV → Prop} : WP 114 9 [q0, (0, l1), q2] [] ds m Q = (WP 114 10 [q0, (0, l1), q2] [(0, l1)] ds m Q) := P_nx k114_9 rfl
set_option maxRecDepth 20000 in
theorem k114_10 : mjCode 114 10 = some (.ifCond .lt 15, 3, 25, 0) := by decide +kernel
theorem p114_10 {s0 : Int} {q0 q1 q2 : MV} {ds : Ds} {m : Mm} {Q : Ds → Mm → List MV → Prop} : WP 114 10 [q0, q1, q2] [(0, s0)] ds m Q = (if s0 < 0 then WP 114 25 [q0, q1, q2] [] ds m Q else WP 114 13 [q0, q1, q2] [] ds m Q) := P_if k114_10 rfl
set_option maxRecDepth 20000 in
theorem k114_13 : mjCode 114 13 = some (.iload_n 1, 1, 0, 0) := by decide +kernel
theorem p114_13 {l1 : Int} {q0 q2 : MV} {ds : Ds} {m : Mm} {Q : Ds → Mm → List MV → Prop} : WP 114 13 [q0, (0, l1), q2] [] ds m Q = (WP 114 14 [q0, (0, l1), q2] [(0, l1)] ds m Q) := P_nx k114_13 rfl
set_option maxRecDepth 20000 in
theorem k114_14 : mjCode 114 14 = some (.iload_n 0, 1, 0, 0) := by decide +kernel
theorem p114_14 {l0 s0 : Int} {q1 q2 : MV} {ds : Ds} {m : Mm} {Q : Ds → Mm → List MV → Prop} : WP 114 14 [(0, l0), q1, q2] [(0, s0)] ds m Q = (WP 114 15 [(0, l0), q1, q2] [(0, l0), (0, s0)] ds m Q) := P_nx k114_14 rfl
set_option maxRecDepth 20000 in
theorem k114_15 : mjCode 114 15 = some (.invokestatic 279, 3, 117, 1) := by decide +kernel
theorem p114_15 {s0 s1 : Int} {q0 q1 q2 : MV} {ds : Ds} {m : Mm} {Q : Ds → Mm → List MV → Prop} : WP 114 15 [q0, q1, q2] [(0, s0), (0, s1)] ds m Q = (WP 116 0 [(0, s0)] [] ds m (fun d2 m2 r2 => WP 114 18 [q0, q1, q2] (r2 ++ [(0, s1)]) d2 m2 Q)) := P_cs k114_15 mx116 rfl rfl rfl rfl rfl rfl rfl
set_option maxRecDepth 20000 in
theorem k114_18 : mjCode 114 18 = some (.if_icmp .gt 7, 3, 25, 0) := by decide +kernel
theorem p114_18 {s0 s1 : Int} {q0 q1 q2 : MV} {ds : Ds} {m : Mm} {Q : Ds → Mm → List MV → Prop} : WP 114 18 [q0, q1, q2] [(0, s0), (0, s1)] ds m Q = (if s0 < s1 then WP 114 25 [q0, q1, q2] [] ds m Q else WP 114 21 [q0, q1, q2] [] ds m Q) := P_if k114_18 rfl
set_option maxRecDepth 20000 in
theorem k114_21 : mjCode 114 21 = some (.iconst 1, 1, 0, 0) := by decide +kernel
theorem p114_21 {q0 q1 q2 : MV} {ds : Ds} {m : Mm} {Q : Ds → Mm → List MV → Prop} : WP 114 21 [q0, q1, q2] [] ds m Q = (WP 114 22 [q0, q1, q2] [(0, 1)] ds m Q) := P_nx k114_21 rfl
set_option maxRecDepth 20000 in
theorem k114_22 : mjCode 114 22 = some (.goto 4, 3, 26, 0) := by decide +kernel
theorem p114_22 {s0 : Int} {q0 q1 q2 : MV} {ds : Ds} {m : Mm} {Q : Ds → Mm → List MV → Prop} : WP 114 22 [q0, q1, q2] [(0, s0)] ds m Q = (WP 114 26 [q0, q1, q2] [(0, s0)] ds m Q) := P_nx k114_22 rfl
set_option maxRecDepth 20000 in
theorem k114_25 : mjCode 114 25 = some (.iconst 0, 1, 0, 0) := by decide +kernel
theorem p114_25 {q0 q1 q2 : MV} {ds : Ds} {m : Mm} {Q : Ds → Mm → List MV → Prop} : WP 114 25 [q0, q1, q2] [] ds m Q = (WP 114 26 [q0, q1, q2] [(0, 0)] ds m Q) := P_nx k114_25 rfl
set_option maxRecDepth 20000 in
theorem k114_26 : mjCode 114 26 = some (.istore_n 2, 1, 0, 0) := by decide +kernel
theorem p114_26 {l1 s0 : Int} {q0 q2 : MV} {ds : Ds} {m : Mm} {Q : Ds → Mm → List MV → Prop} : WP 114 26 [q0, (0, l1), q2] [(0, s0)] ds m Q = (WP 114 27 [q0, (0, l1), (0, s0)] [] ds m Q) := P_nx k114_26 rfl
set_option maxRecDepth 20000 in
theorem k114_27 : mjCode 114 27 = some (.iload_n 2, 1, 0, 0) := by decide +kernel
theorem p114_27 {l2 : Int} {q0 q1 : MV} {ds : Ds} {m : Mm} {Q : Ds → Mm → List MV → Prop} : WP 114 27 [q0, q1, (0, l2)] [] ds m Q = (WP 114 28 [q0, q1, (0, l2)] [(0, l2)] ds m Q) := P_nx k114_27 rfl
set_option maxRecDepth 20000 in
theorem k114_28 : mjCode 114 28 = some (.ifCond .eq 21, 3, 49, 0) := by decide +kernel
theorem p114_28 {s0 : Int} {q0 q1 q2 : MV} {ds : Ds} {m : Mm} {Q : Ds → Mm → List MV → Prop} : WP 114 28 [q0, q1, q2] [(0, s0)] ds m Q = (if s0 = 0 then WP 114 49 [q0, q1, q2] [] ds m Q else WP 114 31 [q0, q1, q2] [] ds m Q) := P_if k114_28 rfl
set_option maxRecDepth 20000 in
theorem k114_31 : mjCode 114 31 = some (.iload_n 0, 1, 0, 0) := by decide +kernel
theorem p114_31 {l0 : Int} {q1 q2 : MV} {ds : Ds} {m : Mm} {Q : Ds → Mm → List MV → Prop} : WP 114 31 [(0, l0), q1, q2] [] ds m Q = (WP 114 32 [(0, l0), q1, q2] [(0, l0)] ds m Q) := P_nx k114_31 rfl
set_option maxRecDepth 20000 in
theorem k114_32 : mjCode 114 32 = some (.bipush 9, 2, 0, 0) := by decide +kernel
theorem p114_32 {s0 : Int} {q0 q1 q2 : MV} {ds : Ds} {m : Mm} {Q : Ds → Mm → List MV → Prop} : WP 114 32 [q0, q1, q2] [(0, s0)] ds m Q = (WP 114 34 [q0, q1, q2] [(0, 9), (0, s0)] ds m Q) := P_nx k114_32 rfl
set_option maxRecDepth 20000 in
theorem k114_34 : mjCode 114 34 = some (.if_icmp .ne 11, 3, 45, 0) := by decide +kernel
theorem p114_34 {s0 s1 : Int} {q0 q1 q2 : MV} {ds : Ds} {m : Mm} {Q : Ds → Mm → List MV → Prop} : WP 114 34 [q0, q1, q2] [(0, s0), (0, s1)] ds m Q = (if s1 = s0 then WP 114 37 [q0, q1, q2] [] ds m Q else WP 114 45 [q0, q1, q2] [] ds m Q) := P_if k114_34 rfl
set_option maxRecDepth 20000 in
theorem k114_37 : mjCode 114 37 = some (.iload_n 1, 1, 0, 0) := by decide +kernel
theorem p114_37 {l1 : Int} {q0 q2 : MV} {ds : Ds} {m : Mm} {Q : Ds → Mm → List MV → Prop} : WP 114 37 [q0, (0, l1), q2] [] ds m Q = (WP 114 38 [q0, (0, l1), q2] [(0, l1)] ds m Q) := P_nx k114_37 rfl
set_option maxRecDepth 20000 in
theorem k114_38 : mjCode 114 38 = some (.invokestatic 324, 3, 191, 1) := by decide +kernel
theorem p114_38 {s0 : Int} {q0 q1 q2 : MV} {ds : Ds} {m : Mm} {Q : Ds → Mm → List MV → Prop} : WP 114 38 [q0, q1, q2] [(0, s0)] ds m Q = (WP 190 0 [(0, s0)] [] ds m (fun d2 m2 r2 => WP 114 41 [q0, q1, q2] (r2 ++ []) d2 m2 Q)) := P_cs k114_38 mx190 rfl rfl rfl rfl rfl rfl rfl
set_option maxRecDepth 20000 in
theorem k114_41 : mjCode 114 41 = some (.iconst 2, 1, 0, 0) := by decide +kernel
theorem p114_41 {s0 : Int} {q0 q1 q2 : MV} {ds : Ds} {m : Mm} {Q : Ds → Mm → List MV → Prop} : WP 114 41 [q0, q1, q2] [(0, s0)] ds m Q = (WP 114 42 [q0, q1, q2] [(0, 2), (0, s0)] ds m Q) := P_nx k114_41 rfl
set_option maxRecDepth 20000 in
theorem k114_42 : mjCode 114 42 = some (.if_icmp .ne 7, 3, 49, 0) := by decide +kernel
theorem p114_42 {s0 s1 : Int} {q0 q1 q2 : MV} {ds : Ds} {m : Mm} {Q : Ds → Mm → List MV → Prop} : WP 114 42 [q0, q1, q2] [(0, s0), (0, s1)] ds m Q = (if s1 = s0 then WP 114 45 [q0, q1, q2] [] ds m Q else WP 114 49 [q0, q1, q2] [] ds m Q) := P_if k114_42 rfl
set_option maxRecDepth 20000 in
theorem k114_45 : mjCode 114 45 = some (.iconst 1, 1, 0, 0) := by decide +kernel
theorem p114_45 {q0 q1 q2 : MV} {ds : Ds} {m : Mm} {Q : Ds → Mm → List MV → Prop} : WP 114 45 [q0, q1, q2] [] ds m Q = (WP 114 46 [q0, q1, q2] [(0, 1)] ds m Q) := P_nx k114_45 rfl
set_option maxRecDepth 20000 in
theorem k114_46 : mjCode 114 46 = some (.goto 4, 3, 50, 0) := by decide +kernel
theorem p114_46 {s0 : Int} {q0 q1 q2 : MV} {ds : Ds} {m : Mm} {Q : Ds → Mm → List MV → Prop} : WP 114 46 [q0, q1, q2] [(0, s0)] ds m Q = (WP 114 50 [q0, q1, q2] [(0, s0)] ds m Q) := P_nx k114_46 rfl
set_option maxRecDepth 20000 in
theorem k114_49 : mjCode 114 49 = some (.iconst 0, 1, 0, 0) := by decide +kernel
theorem p114_49 {q0 q1 q2 : MV} {ds : Ds} {m : Mm} {Q : Ds → Mm → List MV → Prop} : WP 114 49 [q0, q1, q2] [] ds m Q = (WP 114 50 [q0, q1, q2] [(0, 0)] ds m Q) := P_nx k114_49 rfl
set_option maxRecDepth 20000 in
theorem k114_50 : mjCode 114 50 = some (.ireturn, 1, 0, 0) := by decide +kernel
theorem p114_50 {s0 : Int} {q0 q1 q2 : MV} {ds : Ds} {m : Mm} {Q : Ds → Mm → List MV → Prop} : WP 114 50 [q0, q1, q2] [(0, s0)] ds m Q = (((s0 = 0 ∨ s0 = 1) ∧ Q ds m [(0, s0)])) := P_rb k114_50 rk114
set_option maxRecDepth 20000 in
theorem k115_0 : mjCode 115 0 = some (.iload_n 0, 1, 0, 0) := by decide +kernel
theorem p115_0 {l0 : Int} {q1 : MV} {ds : Ds} {m : Mm} {Q : Ds → Mm → List MV → Prop} : WP 115 0 [(0, l0), q1] [] ds m Q = (WP 115 1 [(0, l0), q1] [(0, l0)] ds m Q) := P_nx k115_0 rfl
set_option maxRecDepth 20000 in
theorem k115_1 : mjCode 115 1 = some (.invokestatic 329, 3, 114, 1) := by decide +kernel
theorem p115_1 {s0 : Int} {q0 q1 : MV} {ds : Ds} {m : Mm} {Q : Ds → Mm → List MV → Prop} : WP 115 1 [q0, q1] [(0, s0)] ds m Q = (WP 113 0 [(0, s0)] [] ds m (fun d2 m2 r2 => WP 115 4 [q0, q1] (r2 ++ []) d2 m2 Q)) := P_cs k115_1 mx113 rfl rfl rfl rfl rfl rfl rfl
set_option maxRecDepth 20000 in
theorem k115_4 : mjCode 115 4 = some (.ifCond .ne 5, 3, 9, 0) := by decide +kernel
theorem p115_4 {s0 : Int} {q0 q1 : MV} {ds : Ds} {m : Mm} {Q : Ds → Mm → List MV → Prop} : WP 115 4 [q0, q1] [(0, s0)] ds m Q = (if s0 = 0 then WP 115 7 [q0, q1] [] ds m Q else WP 115 9 [q0, q1] [] ds m Q) := P_if k115_4 rfl
set_option maxRecDepth 20000 in
theorem k115_7 : mjCode 115 7 = some (.iconst 1, 1, 0, 0) := by decide +kernel
theorem p115_7 {q0 q1 : MV} {ds : Ds} {m : Mm} {Q : Ds → Mm → List MV → Prop} : WP 115 7 [q0, q1] [] ds m Q = (WP 115 8 [q0, q1] [(0, 1)] ds m Q) := P_nx k115_7 rfl
set_option maxRecDepth 20000 in
theorem k115_8 : mjCode 115 8 = some (.ireturn, 1, 0, 0) := by decide +kernel
theorem p115_8 {s0 : Int} {q0 q1 : MV} {ds : Ds} {m : Mm} {Q : Ds → Mm → List MV → Prop} : WP 115 8 [q0, q1] [(0, s0)] ds m Q = (((s0 = 0 ∨ s0 = 1) ∧ Q ds m [(0, s0)])) := P_rb k115_8 rk115
set_option maxRecDepth 20000 in
theorem k115_9 : mjCode 115 9 = some (.iload_n 1, 1, 0, 0) := by decide +kernel
theorem p115_9 {l1 : Int} {q0 : MV} {ds : Ds} {m : Mm} {Q : Ds → Mm → List MV → Prop} : WP 115 9 [q0, (0, l1)] [] ds m Q = (WP 115 10 [q0, (0, l1)] [(0, l1)] ds m Q) := P_nx k115_9 rfl
set_option maxRecDepth 20000 in
theorem k115_10 : mjCode 115 10 = some (.iconst 1, 1, 0, 0) := by decide +kernel
theorem p115_10 {s0 : Int} {q0 q1 : MV} {ds : Ds} {m : Mm} {Q : Ds → Mm → List MV → Prop} : WP 115 10 [q0, q1] [(0, s0)] ds m Q = (WP 115 11 [q0, q1] [(0, 1), (0, s0)] ds m Q) := P_nx k115_10 rfl
set_option maxRecDepth 20000 in
theorem k115_11 : mjCode 115 11 = some (.if_icmp .lt 23, 3, 34, 0) := by decide +kernel
theorem p115_11 {s0 s1 : Int} {q0 q1 : MV} {ds : Ds} {m : Mm} {Q : Ds → Mm → List MV → Prop} : WP 115 11 [q0, q1] [(0, s0), (0, s1)] ds m Q = (if s1 < s0 then WP 115 34 [q0, q1] [] ds m Q else WP 115 14 [q0, q1] [] ds m Q) := P_if k115_11 rfl
set_option maxRecDepth 20000 in
theorem k115_14 : mjCode 115 14 = some (.iload_n 1, 1, 0, 0) := by decide +kernel
theorem p115_14 {l1 : Int} {q0 : MV} {ds : Ds} {m : Mm} {Q : Ds → Mm → List MV → Prop} : WP 115 14 [q0, (0, l1)] [] ds m Q = (WP 115 15 [q0, (0, l1)] [(0, l1)] ds m Q) := P_nx k115_14 rfl
set_option maxRecDepth 20000 in
theorem k115_15 : mjCode 115 15 = some (.iload_n 0, 1, 0, 0) := by decide +kernel
theorem p115_15 {l0 s0 : Int} {q1 : MV} {ds : Ds} {m : Mm} {Q : Ds → Mm → List MV → Prop} : WP 115 15 [(0, l0), q1] [(0, s0)] ds m Q = (WP 115 16 [(0, l0), q1] [(0, l0), (0, s0)] ds m Q) := P_nx k115_15 rfl
set_option maxRecDepth 20000 in
theorem k115_16 : mjCode 115 16 = some (.iconst 4, 1, 0, 0) := by decide +kernel
theorem p115_16 {s0 s1 : Int} {q0 q1 : MV} {ds : Ds} {m : Mm} {Q : Ds → Mm → List MV → Prop} : WP 115 16 [q0, q1] [(0, s0), (0, s1)] ds m Q = (WP 115 17 [q0, q1] [(0, 4), (0, s0), (0, s1)] ds m Q) := P_nx k115_16 rfl
set_option maxRecDepth 20000 in
theorem k115_17 : mjCode 115 17 = some (.if_icmp .ne 8, 3, 25, 0) := by decide +kernel
theorem p115_17 {s0 s1 s2 : Int} {q0 q1 : MV} {ds : Ds} {m : Mm} {Q : Ds → Mm → List MV → Prop} : WP 115 17 [q0, q1] [(0, s0), (0, s1), (0, s2)] ds m Q = (if s1 = s0 then WP 115 20 [q0, q1] [(0, s2)] ds m Q else WP 115 25 [q0, q1] [(0, s2)] ds m Q) := P_if k115_17 rfl
set_option maxRecDepth 20000 in
theorem k115_20 : mjCode 115 20 = some (.bipush 60, 2, 0, 0) := by decide +kernel
theorem p115_20 {s0 : Int} {q0 q1 : MV} {ds : Ds} {m : Mm} {Q : Ds → Mm → List MV → Prop} : WP 115 20 [q0, q1] [(0, s0)] ds m Q = (WP 115 22 [q0, q1] [(0, 60), (0, s0)] ds m Q) := P_nx k115_20 rfl
set_option maxRecDepth 20000 in
theorem k115_22 : mjCode 115 22 = some (.goto 5, 3, 27, 0) := by decide +kernel
theorem p115_22 {s0 s1 : Int} {q0 q1 : MV} {ds : Ds} {m : Mm} {Q : Ds → Mm → List MV → Prop} : WP 115 22 [q0, q1] [(0, s0), (0, s1)] ds m Q = (WP 115 27 [q0, q1] [(0, s0), (0, s1)] ds m Q) := P_nx k115_22 rfl
set_option maxRecDepth 20000 in
theorem k115_25 : mjCode 115 25 = some (.bipush 9, 2, 0, 0) := by decide +kernel
theorem p115_25 {s0 : Int} {q0 q1 : MV} {ds : Ds} {m : Mm} {Q : Ds → Mm → List MV → Prop} : WP 115 25 [q0, q1] [(0, s0)] ds m Q = (WP 115 27 [q0, q1] [(0, 9), (0, s0)] ds m Q) := P_nx k115_25 rfl
set_option maxRecDepth 20000 in
theorem k115_27 : mjCode 115 27 = some (.if_icmp .gt 7, 3, 34, 0) := by decide +kernel
theorem p115_27 {s0 s1 : Int} {q0 q1 : MV} {ds : Ds} {m : Mm} {Q : Ds → Mm → List MV → Prop} : WP 115 27 [q0, q1] [(0, s0), (0, s1)] ds m Q = (if s0 < s1 then WP 115 34 [q0, q1] [] ds m Q else WP 115 30 [q0, q1] [] ds m Q) := P_if k115_27 rfl
set_option maxRecDepth 20000 in
theorem k115_30 : mjCode 115 30 = some (.iconst 1, 1, 0, 0) := by decide +kernel
theorem p115_30 {q0 q1 : MV} {ds : Ds} {m : Mm} {Q : Ds → Mm → List MV → Prop} : WP 115 30 [q0, q1] [] ds m Q = (WP 115 31 [q0, q1] [(0, 1)] ds m Q) := P_nx k115_30 rfl
set_option maxRecDepth 20000 in
theorem k115_31 : mjCode 115 31 = some (.goto 4, 3, 35, 0) := by decide +kernel
theorem p115_31 {s0 : Int} {q0 q1 : MV} {ds : Ds} {m : Mm} {Q : Ds → Mm → List MV → Prop} : WP 115 31 [q0, q1] [(0, s0)] ds m Q = (WP 115 35 [q0, q1] [(0, s0)] ds m Q) := P_nx k115_31 rfl
set_option maxRecDepth 20000 in
theorem k115_34 : mjCode 115 34 = some (.iconst 0, 1, 0, 0) := by decide +kernel
theorem p115_34 {q0 q1 : MV} {ds : Ds} {m : Mm} {Q : Ds → Mm → List MV → Prop} : WP 115 34 [q0, q1] [] ds m Q = (WP 115 35 [q0, q1] [(0, 0)] ds m Q) := P_nx k115_34 rfl
set_option maxRecDepth 20000 in
theorem k115_35 : mjCode 115 35 = some (.ireturn, 1, 0, 0) := by decide +kernel
theorem p115_35 {s0 : Int} {q0 q1 : MV} {ds : Ds} {m : Mm} {Q : Ds → Mm → List MV → Prop} : WP 115 35 [q0, q1] [(0, s0)] ds m Q = (((s0 = 0 ∨ s0 = 1) ∧ Q ds m [(0, s0)])) := P_rb k115_35 rk115
set_option maxRecDepth 20000 in
theorem k116_0 : mjCode 116 0 = some (.iload_n 0, 1, 0, 0) := by decide +kernel
theorem p116_0 {l0 : Int} {ds : Ds} {m : Mm} {Q : Ds → Mm → List MV → Prop} : WP 116 0 [(0, l0)] [] ds m Q = (WP 116 1 [(0, l0)] [(0, l0)] ds m Q) := P_nx k116_0 rfl
set_option maxRecDepth 20000 in
theorem k116_1 : mjCode 116 1 = some (.invokestatic 321, 3, 113, 1) := by decide +kernel
theorem p116_1 {s0 : Int} {q0 : MV} {ds : Ds} {m : Mm} {Q : Ds → Mm → List MV → Prop} : WP 116 1 [q0] [(0, s0)] ds m Q = (WP 112 0 [(0, s0)] [] ds m (fun d2 m2 r2 => WP 116 4 [q0] (r2 ++ []) d2 m2 Q)) := P_cs k116_1 mx112 rfl rfl rfl rfl rfl rfl rfl
set_option maxRecDepth 20000 in
theorem k116_4 : mjCode 116 4 = some (.ifCond .ne 5, 3, 9, 0) := by decide +kernel
theorem p116_4 {s0 : Int} {q0 : MV} {ds : Ds} {m : Mm} {Q : Ds → Mm → List MV → Prop} : WP 116 4 [q0] [(0, s0)] ds m Q = (if s0 = 0 then WP 116 7 [q0] [] ds m Q else WP 116 9 [q0] [] ds m Q) := P_if k116_4 rfl
set_option maxRecDepth 20000 in
theorem k116_7 : mjCode 116 7 = some (.iconst 0, 1, 0, 0) := by decide +kernel
theorem p116_7 {q0 : MV} {ds : Ds} {m : Mm} {Q : Ds → Mm → List MV → Prop} : WP 116 7 [q0] [] ds m Q = (WP 116 8 [q0] [(0, 0)] ds m Q) := P_nx k116_7 rfl
set_option maxRecDepth 20000 in
theorem k116_8 : mjCode 116 8 = some (.ireturn, 1, 0, 0) := by decide +kernel
theorem p116_8 {s0 : Int} {q0 : MV} {ds : Ds} {m : Mm} {Q : Ds → Mm → List MV → Prop} : WP 116 8 [q0] [(0, s0)] ds m Q = (Q ds m [(0, s0)]) := P_ri k116_8 rk116
set_option maxRecDepth 20000 in
theorem k116_9 : mjCode 116 9 = some (.iload_n 0, 1, 0, 0) := by decide +kernel
theorem p116_9 {l0 : Int} {ds : Ds} {m : Mm} {Q : Ds → Mm → List MV → Prop} : WP 116 9 [(0, l0)] [] ds m Q = (WP 116 10 [(0, l0)] [(0, l0)] ds m Q) := P_nx k116_9 rfl
set_option maxRecDepth 20000 in
theorem k116_10 : mjCode 116 10 = some (.iconst 1, 1, 0, 0) := by decide +kernel
theorem p116_10 {s0 : Int} {q0 : MV} {ds : Ds} {m : Mm} {Q : Ds → Mm → List MV → Prop} : WP 116 10 [q0] [(0, s0)] ds m Q = (WP 116 11 [q0] [(0, 1), (0, s0)] ds m Q) := P_nx k116_10 rfl
set_option maxRecDepth 20000 in
theorem k116_11 : mjCode 116 11 = some (.if_icmp .ne 5, 3, 16, 0) := by decide +kernel
theorem p116_11 {s0 s1 : Int} {q0 : MV} {ds : Ds} {m : Mm} {Q : Ds → Mm → List MV → Prop} : WP 116 11 [q0] [(0, s0), (0, s1)] ds m Q = (if s1 = s0 then WP 116 14 [q0] [] ds m Q else WP 116 16 [q0] [] ds m Q) := P_if k116_11 rfl
set_option maxRecDepth 20000 in
theorem k116_14 : mjCode 116 14 = some (.iconst 1, 1, 0, 0) := by decide +kernel
theorem p116_14 {q0 : MV} {ds : Ds} {m : Mm} {Q : Ds → Mm → List MV → Prop} : WP 116 14 [q0] [] ds m Q = (WP 116 15 [q0] [(0, 1)] ds m Q) := P_nx k116_14 rfl
set_option maxRecDepth 20000 in
theorem k116_15 : mjCode 116 15 = some (.ireturn, 1, 0, 0) := by decide +kernel
theorem p116_15 {s0 : Int} {q0 : MV} {ds : Ds} {m : Mm} {Q : Ds → Mm → List MV → Prop} : WP 116 15 [q0] [(0, s0)] ds m Q = (Q ds m [(0, s0)]) := P_ri k116_15 rk116
set_option maxRecDepth 20000 in
theorem k116_16 : mjCode 116 16 = some (.iload_n 0, 1, 0, 0) := by decide +kernel
theorem p116_16 {l0 : Int} {ds : Ds} {m : Mm} {Q : Ds → Mm → List MV → Prop} : WP 116 16 [(0, l0)] [] ds m Q = (WP 116 17 [(0, l0)] [(0, l0)] ds m Q) := P_nx k116_16 rfl
set_option maxRecDepth 20000 in
theorem k116_17 : mjCode 116 17 = some (.bipush 9, 2, 0, 0) := by decide +kernel
theorem p116_17 {s0 : Int} {q0 : MV} {ds : Ds} {m : Mm} {Q : Ds → Mm → List MV → Prop} : WP 116 17 [q0] [(0, s0)] ds m Q = (WP 116 19 [q0] [(0, 9), (0, s0)] ds m Q) := P_nx k116_17 rfl
set_option maxRecDepth 20000 in
theorem k116_19 : mjCode 116 19 = some (.if_icmp .ne 8, 3, 27, 0) := by decide +kernel
theorem p116_19 {s0 s1 : Int} {q0 : MV} {ds : Ds} {m : Mm} {Q : Ds → Mm → List MV → Prop} : WP 116 19 [q0] [(0, s0), (0, s1)] ds m Q = (if s1 = s0 then WP 116 22 [q0] [] ds m Q else WP 116 27 [q0] [] ds m Q) := P_if k116_19 rfl
set_option maxRecDepth 20000 in
theorem k116_22 : mjCode 116 22 = some (.bipush 15, 2, 0, 0) := by decide +kernel
theorem p116_22 {q0 : MV} {ds : Ds} {m : Mm} {Q : Ds → Mm → List MV → Prop} : WP 116 22 [q0] [] ds m Q = (WP 116 24 [q0] [(0, 15)] ds m Q) := P_nx k116_22 rfl
set_option maxRecDepth 20000 in
theorem k116_24 : mjCode 116 24 = some (.goto 4, 3, 28, 0) := by decide +kernel
theorem p116_24 {s0 : Int} {q0 : MV} {ds : Ds} {m : Mm} {Q : Ds → Mm → List MV → Prop} : WP 116 24 [q0] [(0, s0)] ds m Q = (WP 116 28 [q0] [(0, s0)] ds m Q) := P_nx k116_24 rfl
set_option maxRecDepth 20000 in
theorem k116_27 : mjCode 116 27 = some (.iconst 3, 1, 0, 0) := by decide +kernel
theorem p116_27 {q0 : MV} {ds : Ds} {m : Mm} {Q : Ds → Mm → List MV → Prop} : WP 116 27 [q0] [] ds m Q = (WP 116 28 [q0] [(0, 3)] ds m Q) := P_nx k116_27 rfl
set_option maxRecDepth 20000 in
theorem k116_28 : mjCode 116 28 = some (.ireturn, 1, 0, 0) := by decide +kernel
theorem p116_28 {s0 : Int} {q0 : MV} {ds : Ds} {m : Mm} {Q : Ds → Mm → List MV → Prop} : WP 116 28 [q0] [(0, s0)] ds m Q = (Q ds m [(0, s0)]) := P_ri k116_28 rk116
set_option maxRecDepth 20000 in
theorem k117_0 : mjCode 117 0 = some (.iload_n 0, 1, 0, 0) := by decide +kernel
theorem p117_0 {l0 : Int} {ds : Ds} {m : Mm} {Q : Ds → Mm → List MV → Prop} : WP 117 0 [(0, l0)] [] ds m Q = (WP 117 1 [(0, l0)] [(0, l0)] ds m Q) := P_nx k117_0 rfl
set_option maxRecDepth 20000 in
theorem k117_1 : mjCode 117 1 = some (.invokestatic 329, 3, 114, 1) := by decide +kernel
theorem p117_1 {s0 : Int} {q0 : MV} {ds : Ds} {m : Mm} {Q : Ds → Mm → List MV → Prop} : WP 117 1 [q0] [(0, s0)] ds m Q = (WP 113 0 [(0, s0)] [] ds m (fun d2 m2 r2 => WP 117 4 [q0] (r2 ++ []) d2 m2 Q)) := P_cs k117_1 mx113 rfl rfl rfl rfl rfl rfl rfl
set_option maxRecDepth 20000 in
theorem k117_4 : mjCode 117 4 = some (.ifCond .eq 7, 3, 11, 0) := by decide +kernel
theorem p117_4 {s0 : Int} {q0 : MV} {ds : Ds} {m : Mm} {Q : Ds → Mm → List MV → Prop} : WP 117 4 [q0] [(0, s0)] ds m Q = (if s0 = 0 then WP 117 11 [q0] [] ds m Q else WP 117 7 [q0] [] ds m Q) := P_if k117_4 rfl
set_option maxRecDepth 20000 in
theorem k117_7 : mjCode 117 7 = some (.iconst 1, 1, 0, 0) := by decide +kernel
theorem p117_7 {q0 : MV} {ds : Ds} {m : Mm} {Q : Ds → Mm → List MV → Prop} : WP 117 7 [q0] [] ds m Q = (WP 117 8 [q0] [(0, 1)] ds m Q) := P_nx k117_7 rfl
set_option maxRecDepth 20000 in
theorem k117_8 : mjCode 117 8 = some (.goto 4, 3, 12, 0) := by decide +kernel
theorem p117_8 {s0 : Int} {q0 : MV} {ds : Ds} {m : Mm} {Q : Ds → Mm → List MV → Prop} : WP 117 8 [q0] [(0, s0)] ds m Q = (WP 117 12 [q0] [(0, s0)] ds m Q) := P_nx k117_8 rfl
set_option maxRecDepth 20000 in
theorem k117_11 : mjCode 117 11 = some (.iconst 0, 1, 0, 0) := by decide +kernel
theorem p117_11 {q0 : MV} {ds : Ds} {m : Mm} {Q : Ds → Mm → List MV → Prop} : WP 117 11 [q0] [] ds m Q = (WP 117 12 [q0] [(0, 0)] ds m Q) := P_nx k117_11 rfl
set_option maxRecDepth 20000 in
theorem k117_12 : mjCode 117 12 = some (.ireturn, 1, 0, 0) := by decide +kernel
theorem p117_12 {s0 : Int} {q0 : MV} {ds : Ds} {m : Mm} {Q : Ds → Mm → List MV → Prop} : WP 117 12 [q0] [(0, s0)] ds m Q = (Q ds m [(0, s0)]) := P_ri k117_12 rk117
set_option maxRecDepth 20000 in
theorem k118_0 : mjCode 118 0 = some (.iload_n 0, 1, 0, 0) := by decide +kernel
theorem p118_0 {l0 : Int} {ds : Ds} {m : Mm} {Q : Ds → Mm → List MV → Prop} : WP 118 0 [(0, l0)] [] ds m Q = (WP 118 1 [(0, l0)] [(0, l0)] ds m Q) := P_nx k118_0 rfl
set_option maxRecDepth 20000 in
theorem k118_1 : mjCode 118 1 = some (.bipush 8, 2, 0, 0) := by decide +kernel
theorem p118_1 {s0 : Int} {q0 : MV} {ds : Ds} {m : Mm} {Q : Ds → Mm → List MV → Prop} : WP 118 1 [q0] [(0, s0)] ds m Q = (WP 118 3 [q0] [(0, 8), (0, s0)] ds m Q) := P_nx k118_1 rfl
set_option maxRecDepth 20000 in
theorem k118_3 : mjCode 118 3 = some (.if_icmp .ne 5, 3, 8, 0) := by decide +kernel
theorem p118_3 {s0 s1 : Int} {q0 : MV} {ds : Ds} {m : Mm} {Q : Ds → Mm → List MV → Prop} : WP 118 3 [q0] [(0, s0), (0, s1)] ds m Q = (if s1 = s0 then WP 118 6 [q0] [] ds m Q else WP 118 8 [q0] [] ds m Q) := P_if k118_3 rfl
set_option maxRecDepth 20000 in
theorem k118_6 : mjCode 118 6 = some (.iconst (-1), 1, 0, 0) := by decide +kernel
theorem p118_6 {q0 : MV} {ds : Ds} {m : Mm} {Q : Ds → Mm → List MV → Prop} : WP 118 6 [q0] [] ds m Q = (WP 118 7 [q0] [(0, (-1))] ds m Q) := P_nx k118_6 rfl
set_option maxRecDepth 20000 in
theorem k118_7 : mjCode 118 7 = some (.ireturn, 1, 0, 0) := by decide +kernel
theorem p118_7 {s0 : Int} {q0 : MV} {ds : Ds} {m : Mm} {Q : Ds → Mm → List MV → Prop} : WP 118 7 [q0] [(0, s0)] ds m Q = (Q ds m [(0, s0)]) := P_ri k118_7 rk118
set_option maxRecDepth 20000 in
theorem k118_8 : mjCode 118 8 = some (.iload_n 0, 1, 0, 0) := by decide +kernel
theorem p118_8 {l0 : Int} {ds : Ds} {m : Mm} {Q : Ds → Mm → List MV → Prop} : WP 118 8 [(0, l0)] [] ds m Q = (WP 118 9 [(0, l0)] [(0, l0)] ds m Q) := P_nx k118_8 rfl
set_option maxRecDepth 20000 in
theorem k118_9 : mjCode 118 9 = some (.invokestatic 329, 3, 114, 1) := by decide +kernel
theorem p118_9 {s0 : Int} {q0 : MV} {ds : Ds} {m : Mm} {Q : Ds → Mm → List MV → Prop} : WP 118 9 [q0] [(0, s0)] ds m Q = (WP 113 0 [(0, s0)] [] ds m (fun d2 m2 r2 => WP 118 12 [q0] (r2 ++ []) d2 m2 Q)) := P_cs k118_9 mx113 rfl rfl rfl rfl rfl rfl rfl
set_option maxRecDepth 20000 in
theorem k118_12 : mjCode 118 12 = some (.ifCond .ne 5, 3, 17, 0) := by decide +kernel
theorem p118_12 {s0 : Int} {q0 : MV} {ds : Ds} {m : Mm} {Q : Ds → Mm → List MV → Prop} : WP 118 12 [q0] [(0, s0)] ds m Q = (if s0 = 0 then WP 118 15 [q0] [] ds m Q else WP 118 17 [q0] [] ds m Q) := P_if k118_12 rfl
set_option maxRecDepth 20000 in
theorem k118_15 : mjCode 118 15 = some (.iconst 0, 1, 0, 0) := by decide +kernel
theorem p118_15 {q0 : MV} {ds : Ds} {m : Mm} {Q : Ds → Mm → List MV → Prop} : WP 118 15 [q0] [] ds m Q = (WP 118 16 [q0] [(0, 0)] ds m Q) := P_nx k118_15 rfl
set_option maxRecDepth 20000 in
theorem k118_16 : mjCode 118 16 = some (.ireturn, 1, 0, 0) := by decide +kernel
theorem p118_16 {s0 : Int} {q0 : MV} {ds : Ds} {m : Mm} {Q : Ds → Mm → List MV → Prop} : WP 118 16 [q0] [(0, s0)] ds m Q = (Q ds m [(0, s0)]) := P_ri k118_16 rk118
set_option maxRecDepth 20000 in
theorem k118_17 : mjCode 118 17 = some (.iload_n 0, 1, 0, 0) := by decide +kernel
theorem p118_17 {l0 : Int} {ds : Ds} {m : Mm} {Q : Ds → Mm → List MV → Prop} : WP 118 17 [(0, l0)] [] ds m Q = (WP 118 18 [(0, l0)] [(0, l0)] ds m Q) := P_nx k118_17 rfl
set_option maxRecDepth 20000 in
theorem k118_18 : mjCode 118 18 = some (.iconst 4, 1, 0, 0) := by decide +kernel
theorem p118_18 {s0 : Int} {q0 : MV} {ds : Ds} {m : Mm} {Q : Ds → Mm → List MV → Prop} : WP 118 18 [q0] [(0, s0)] ds m Q = (WP 118 19 [q0] [(0, 4), (0, s0)] ds m Q) := P_nx k118_18 rfl
set_option maxRecDepth 20000 in
theorem k118_19 : mjCode 118 19 = some (.if_icmp .ne 8, 3, 27, 0) := by decide +kernel
theorem p118_19 {s0 s1 : Int} {q0 : MV} {ds : Ds} {m : Mm} {Q : Ds → Mm → List MV → Prop} : WP 118 19 [q0] [(0, s0), (0, s1)] ds m Q = (if s1 = s0 then WP 118 22 [q0] [] ds m Q else WP 118 27 [q0] [] ds m Q) := P_if k118_19 rfl
set_option maxRecDepth 20000 in
theorem k118_22 : mjCode 118 22 = some (.bipush 9, 2, 0, 0) := by decide +kernel
theorem p118_22 {q0 : MV} {ds : Ds} {m : Mm} {Q : Ds → Mm → List MV → Prop} : WP 118 22 [q0] [] ds m Q = (WP 118 24 [q0] [(0, 9)] ds m Q) := P_nx k118_22 rfl
set_option maxRecDepth 20000 in
theorem k118_24 : mjCode 118 24 = some (.goto 4, 3, 28, 0) := by decide +kernel
theorem p118_24 {s0 : Int} {q0 : MV} {ds : Ds} {m : Mm} {Q : Ds → Mm → List MV → Prop} : WP 118 24 [q0] [(0, s0)] ds m Q = (WP 118 28 [q0] [(0, s0)] ds m Q) := P_nx k118_24 rfl
set_option maxRecDepth 20000 in
theorem k118_27 : mjCode 118 27 = some (.iconst 3, 1, 0, 0) := by decide +kernel
theorem p118_27 {q0 : MV} {ds : Ds} {m : Mm} {Q : Ds → Mm → List MV → Prop} : WP 118 27 [q0] [] ds m Q = (WP 118 28 [q0] [(0, 3)] ds m Q) := P_nx k118_27 rfl
set_option maxRecDepth 20000 in
theorem k118_28 : mjCode 118 28 = some (.ireturn, 1, 0, 0) := by decide +kernel
theorem p118_28 {s0 : Int} {q0 : MV} {ds : Ds} {m : Mm} {Q : Ds → Mm → List MV → Prop} : WP 118 28 [q0] [(0, s0)] ds m Q = (Q ds m [(0, s0)]) := P_ri k118_28 rk118
set_option maxRecDepth 20000 in
theorem k119_0 : mjCode 119 0 = some (.aload_n 0, 1, 0, 0) := by decide +kernel
theorem p119_0 {l0 : Int} {ds : Ds} {m : Mm} {Q : Ds → Mm → List MV → Prop} : WP 119 0 [(2, l0)] [] ds m Q = (WP 119 1 [(2, l0)] [(2, l0)] ds m Q) := P_nx k119_0 rfl
set_option maxRecDepth 20000 in
theorem k119_1 : mjCode 119 1 = some (.invokespecial 1, 3, 0, 1) := by decide +kernel
theorem p119_1 {s0 : Int} {q0 : MV} {ds : Ds} {m : Mm} {Q : Ds → Mm → List MV → Prop} : WP 119 1 [q0] [(2, s0)] ds m Q = (((0 ≤ s0 ∧ ([].map cat).sum ≤ 8) ∧ WP 119 4 [q0] [] ds m Q)) := P_gd k119_1 rfl
set_option maxRecDepth 20000 in
theorem k119_4 : mjCode 119 4 = some (.aload_n 0, 1, 0, 0) := by decide +kernel
theorem p119_4 {l0 : Int} {ds : Ds} {m : Mm} {Q : Ds → Mm → List MV → Prop} : WP 119 4 [(2, l0)] [] ds m Q = (WP 119 5 [(2, l0)] [(2, l0)] ds m Q) := P_nx k119_4 rfl
set_option maxRecDepth 20000 in
theorem k119_5 : mjCode 119 5 = some (.bipush 8, 2, 0, 0) := by decide +kernel
theorem p119_5 {s0 : Int} {q0 : MV} {ds : Ds} {m : Mm} {Q : Ds → Mm → List MV → Prop} : WP 119 5 [q0] [(2, s0)] ds m Q = (WP 119 7 [q0] [(0, 8), (2, s0)] ds m Q) := P_nx k119_5 rfl
set_option maxRecDepth 20000 in
theorem k119_7 : mjCode 119 7 = some (.newarray .int, 2, 10, 0) := by decide +kernel
theorem p119_7 {s0 s1 : Int} {q0 : MV} {ds : Ds} {m : Mm} {Q : Ds → Mm → List MV → Prop} : WP 119 7 [q0] [(0, s0), (2, s1)] ds m Q = (((0 ≤ s0 ∧ s0 ≤ 30000) ∧ WP 119 9 [q0] [(2, (ds.length : Int)), (2, s1)] (ds ++ [(10, s0.toNat)]) (al m (ds.length : Int) (dfl 10)) Q)) := P_gd k119_7 rfl
set_option maxRecDepth 20000 in
theorem k119_9 : mjCode 119 9 = some (.putfield 7, 3, 7, 0) := by decide +kernel
theorem p119_9 {s0 s1 : Int} {q0 : MV} {ds : Ds} {m : Mm} {Q : Ds → Mm → List MV → Prop} : WP 119 9 [q0] [(2, s0), (2, s1)] ds m Q = ((dk ds s1 = 7 ∧ WP 119 12 [q0] [] ds (up m s1 0 s0) Q)) := P_pf k119_9 rfl
set_option maxRecDepth 20000 in
theorem k119_12 : mjCode 119 12 = some (.aload_n 0, 1, 0, 0) := by decide +kernel
theorem p119_12 {l0 : Int} {ds : Ds} {m : Mm} {Q : Ds → Mm → List MV → Prop} : WP 119 12 [(2, l0)] [] ds m Q = (WP 119 13 [(2, l0)] [(2, l0)] ds m Q) := P_nx k119_12 rfl
set_option maxRecDepth 20000 in
theorem k119_13 : mjCode 119 13 = some (.bipush 96, 2, 0, 0) := by decide +kernel
theorem p119_13 {s0 : Int} {q0 : MV} {ds : Ds} {m : Mm} {Q : Ds → Mm → List MV → Prop} : WP 119 13 [q0] [(2, s0)] ds m Q = (WP 119 15 [q0] [(0, 96), (2, s0)] ds m Q) := P_nx k119_13 rfl
set_option maxRecDepth 20000 in
theorem k119_15 : mjCode 119 15 = some (.newarray .int, 2, 10, 0) := by decide +kernel
theorem p119_15 {s0 s1 : Int} {q0 : MV} {ds : Ds} {m : Mm} {Q : Ds → Mm → List MV → Prop} : WP 119 15 [q0] [(0, s0), (2, s1)] ds m Q = (((0 ≤ s0 ∧ s0 ≤ 30000) ∧ WP 119 17 [q0] [(2, (ds.length : Int)), (2, s1)] (ds ++ [(10, s0.toNat)]) (al m (ds.length : Int) (dfl 10)) Q)) := P_gd k119_15 rfl
set_option maxRecDepth 20000 in
theorem k119_17 : mjCode 119 17 = some (.putfield 13, 3, 7, 1) := by decide +kernel
theorem p119_17 {s0 s1 : Int} {q0 : MV} {ds : Ds} {m : Mm} {Q : Ds → Mm → List MV → Prop} : WP 119 17 [q0] [(2, s0), (2, s1)] ds m Q = ((dk ds s1 = 7 ∧ WP 119 20 [q0] [] ds (up m s1 1 s0) Q)) := P_pf k119_17 rfl
set_option maxRecDepth 20000 in
theorem k119_20 : mjCode 119 20 = some (.aload_n 0, 1, 0, 0) := by decide +kernel
theorem p119_20 {l0 : Int} {ds : Ds} {m : Mm} {Q : Ds → Mm → List MV → Prop} : WP 119 20 [(2, l0)] [] ds m Q = (WP 119 21 [(2, l0)] [(2, l0)] ds m Q) := P_nx k119_20 rfl
set_option maxRecDepth 20000 in
theorem k119_21 : mjCode 119 21 = some (.bipush 96, 2, 0, 0) := by decide +kernel
theorem p119_21 {s0 : Int} {q0 : MV} {ds : Ds} {m : Mm} {Q : Ds → Mm → List MV → Prop} : WP 119 21 [q0] [(2, s0)] ds m Q = (WP 119 23 [q0] [(0, 96), (2, s0)] ds m Q) := P_nx k119_21 rfl
set_option maxRecDepth 20000 in
theorem k119_23 : mjCode 119 23 = some (.newarray .int, 2, 10, 0) := by decide +kernel
theorem p119_23 {s0 s1 : Int} {q0 : MV} {ds : Ds} {m : Mm} {Q : Ds → Mm → List MV → Prop} : WP 119 23 [q0] [(0, s0), (2, s1)] ds m Q = (((0 ≤ s0 ∧ s0 ≤ 30000) ∧ WP 119 25 [q0] [(2, (ds.length : Int)), (2, s1)] (ds ++ [(10, s0.toNat)]) (al m (ds.length : Int) (dfl 10)) Q)) := P_gd k119_23 rfl
set_option maxRecDepth 20000 in
theorem k119_25 : mjCode 119 25 = some (.putfield 16, 3, 7, 2) := by decide +kernel
theorem p119_25 {s0 s1 : Int} {q0 : MV} {ds : Ds} {m : Mm} {Q : Ds → Mm → List MV → Prop} : WP 119 25 [q0] [(2, s0), (2, s1)] ds m Q = ((dk ds s1 = 7 ∧ WP 119 28 [q0] [] ds (up m s1 2 s0) Q)) := P_pf k119_25 rfl
set_option maxRecDepth 20000 in
theorem k119_28 : mjCode 119 28 = some (.aload_n 0, 1, 0, 0) := by decide +kernel
theorem p119_28 {l0 : Int} {ds : Ds} {m : Mm} {Q : Ds → Mm → List MV → Prop} : WP 119 28 [(2, l0)] [] ds m Q = (WP 119 29 [(2, l0)] [(2, l0)] ds m Q) := P_nx k119_28 rfl
set_option maxRecDepth 20000 in
theorem k119_29 : mjCode 119 29 = some (.bipush 96, 2, 0, 0) := by decide +kernel
theorem p119_29 {s0 : Int} {q0 : MV} {ds : Ds} {m : Mm} {Q : Ds → Mm → List MV → Prop} : WP 119 29 [q0] [(2, s0)] ds m Q = (WP 119 31 [q0] [(0, 96), (2, s0)] ds m Q) := P_nx k119_29 rfl
set_option maxRecDepth 20000 in
theorem k119_31 : mjCode 119 31 = some (.newarray .int, 2, 10, 0) := by decide +kernel
theorem p119_31 {s0 s1 : Int} {q0 : MV} {ds : Ds} {m : Mm} {Q : Ds → Mm → List MV → Prop} : WP 119 31 [q0] [(0, s0), (2, s1)] ds m Q = (((0 ≤ s0 ∧ s0 ≤ 30000) ∧ WP 119 33 [q0] [(2, (ds.length : Int)), (2, s1)] (ds ++ [(10, s0.toNat)]) (al m (ds.length : Int) (dfl 10)) Q)) := P_gd k119_31 rfl
set_option maxRecDepth 20000 in
theorem k119_33 : mjCode 119 33 = some (.putfield 19, 3, 7, 3) := by decide +kernel
theorem p119_33 {s0 s1 : Int} {q0 : MV} {ds : Ds} {m : Mm} {Q : Ds → Mm → List MV → Prop} : WP 119 33 [q0] [(2, s0), (2, s1)] ds m Q = ((dk ds s1 = 7 ∧ WP 119 36 [q0] [] ds (up m s1 3 s0) Q)) := P_pf k119_33 rfl
set_option maxRecDepth 20000 in
theorem k119_36 : mjCode 119 36 = some (.aload_n 0, 1, 0, 0) := by decide +kernel
theorem p119_36 {l0 : Int} {ds : Ds} {m : Mm} {Q : Ds → Mm → List MV → Prop} : WP 119 36 [(2, l0)] [] ds m Q = (WP 119 37 [(2, l0)] [(2, l0)] ds m Q) := P_nx k119_36 rfl
set_option maxRecDepth 20000 in
theorem k119_37 : mjCode 119 37 = some (.bipush 96, 2, 0, 0) := by decide +kernel
theorem p119_37 {s0 : Int} {q0 : MV} {ds : Ds} {m : Mm} {Q : Ds → Mm → List MV → Prop} : WP 119 37 [q0] [(2, s0)] ds m Q = (WP 119 39 [q0] [(0, 96), (2, s0)] ds m Q) := P_nx k119_37 rfl
set_option maxRecDepth 20000 in
theorem k119_39 : mjCode 119 39 = some (.newarray .int, 2, 10, 0) := by decide +kernel
theorem p119_39 {s0 s1 : Int} {q0 : MV} {ds : Ds} {m : Mm} {Q : Ds → Mm → List MV → Prop} : WP 119 39 [q0] [(0, s0), (2, s1)] ds m Q = (((0 ≤ s0 ∧ s0 ≤ 30000) ∧ WP 119 41 [q0] [(2, (ds.length : Int)), (2, s1)] (ds ++ [(10, s0.toNat)]) (al m (ds.length : Int) (dfl 10)) Q)) := P_gd k119_39 rfl
set_option maxRecDepth 20000 in
theorem k119_41 : mjCode 119 41 = some (.putfield 22, 3, 7, 4) := by decide +kernel
theorem p119_41 {s0 s1 : Int} {q0 : MV} {ds : Ds} {m : Mm} {Q : Ds → Mm → List MV → Prop} : WP 119 41 [q0] [(2, s0), (2, s1)] ds m Q = ((dk ds s1 = 7 ∧ WP 119 44 [q0] [] ds (up m s1 4 s0) Q)) := P_pf k119_41 rfl
set_option maxRecDepth 20000 in
theorem k119_44 : mjCode 119 44 = some (.aload_n 0, 1, 0, 0) := by decide +kernel
theorem p119_44 {l0 : Int} {ds : Ds} {m : Mm} {Q : Ds → Mm → List MV → Prop} : WP 119 44 [(2, l0)] [] ds m Q = (WP 119 45 [(2, l0)] [(2, l0)] ds m Q) := P_nx k119_44 rfl
set_option maxRecDepth 20000 in
theorem k119_45 : mjCode 119 45 = some (.bipush 96, 2, 0, 0) := by decide +kernel
theorem p119_45 {s0 : Int} {q0 : MV} {ds : Ds} {m : Mm} {Q : Ds → Mm → List MV → Prop} : WP 119 45 [q0] [(2, s0)] ds m Q = (WP 119 47 [q0] [(0, 96), (2, s0)] ds m Q) := P_nx k119_45 rfl
set_option maxRecDepth 20000 in
theorem k119_47 : mjCode 119 47 = some (.newarray .boolean, 2, 11, 0) := by decide +kernel
theorem p119_47 {s0 s1 : Int} {q0 : MV} {ds : Ds} {m : Mm} {Q : Ds → Mm → List MV → Prop} : WP 119 47 [q0] [(0, s0), (2, s1)] ds m Q = (((0 ≤ s0 ∧ s0 ≤ 30000) ∧ WP 119 49 [q0] [(2, (ds.length : Int)), (2, s1)] (ds ++ [(11, s0.toNat)]) (al m (ds.length : Int) (dfl 11)) Q)) := P_gd k119_47 rfl
set_option maxRecDepth 20000 in
theorem k119_49 : mjCode 119 49 = some (.putfield 25, 3, 7, 5) := by decide +kernel
theorem p119_49 {s0 s1 : Int} {q0 : MV} {ds : Ds} {m : Mm} {Q : Ds → Mm → List MV → Prop} : WP 119 49 [q0] [(2, s0), (2, s1)] ds m Q = ((dk ds s1 = 7 ∧ WP 119 52 [q0] [] ds (up m s1 5 s0) Q)) := P_pf k119_49 rfl
set_option maxRecDepth 20000 in
theorem k119_52 : mjCode 119 52 = some (.aload_n 0, 1, 0, 0) := by decide +kernel
theorem p119_52 {l0 : Int} {ds : Ds} {m : Mm} {Q : Ds → Mm → List MV → Prop} : WP 119 52 [(2, l0)] [] ds m Q = (WP 119 53 [(2, l0)] [(2, l0)] ds m Q) := P_nx k119_52 rfl
set_option maxRecDepth 20000 in
theorem k119_53 : mjCode 119 53 = some (.iconst 4, 1, 0, 0) := by decide +kernel
theorem p119_53 {s0 : Int} {q0 : MV} {ds : Ds} {m : Mm} {Q : Ds → Mm → List MV → Prop} : WP 119 53 [q0] [(2, s0)] ds m Q = (WP 119 54 [q0] [(0, 4), (2, s0)] ds m Q) := P_nx k119_53 rfl
set_option maxRecDepth 20000 in
theorem k119_54 : mjCode 119 54 = some (.newarray .int, 2, 10, 0) := by decide +kernel
theorem p119_54 {s0 s1 : Int} {q0 : MV} {ds : Ds} {m : Mm} {Q : Ds → Mm → List MV → Prop} : WP 119 54 [q0] [(0, s0), (2, s1)] ds m Q = (((0 ≤ s0 ∧ s0 ≤ 30000) ∧ WP 119 56 [q0] [(2, (ds.length : Int)), (2, s1)] (ds ++ [(10, s0.toNat)]) (al m (ds.length : Int) (dfl 10)) Q)) := P_gd k119_54 rfl
set_option maxRecDepth 20000 in
theorem k119_56 : mjCode 119 56 = some (.putfield 29, 3, 7, 7) := by decide +kernel
theorem p119_56 {s0 s1 : Int} {q0 : MV} {ds : Ds} {m : Mm} {Q : Ds → Mm → List MV → Prop} : WP 119 56 [q0] [(2, s0), (2, s1)] ds m Q = ((dk ds s1 = 7 ∧ WP 119 59 [q0] [] ds (up m s1 7 s0) Q)) := P_pf k119_56 rfl
set_option maxRecDepth 20000 in
theorem k119_59 : mjCode 119 59 = some (.aload_n 0, 1, 0, 0) := by decide +kernel
theorem p119_59 {l0 : Int} {ds : Ds} {m : Mm} {Q : Ds → Mm → List MV → Prop} : WP 119 59 [(2, l0)] [] ds m Q = (WP 119 60 [(2, l0)] [(2, l0)] ds m Q) := P_nx k119_59 rfl
set_option maxRecDepth 20000 in
theorem k119_60 : mjCode 119 60 = some (.iconst 4, 1, 0, 0) := by decide +kernel
theorem p119_60 {s0 : Int} {q0 : MV} {ds : Ds} {m : Mm} {Q : Ds → Mm → List MV → Prop} : WP 119 60 [q0] [(2, s0)] ds m Q = (WP 119 61 [q0] [(0, 4), (2, s0)] ds m Q) := P_nx k119_60 rfl
set_option maxRecDepth 20000 in
theorem k119_61 : mjCode 119 61 = some (.newarray .int, 2, 10, 0) := by decide +kernel
theorem p119_61 {s0 s1 : Int} {q0 : MV} {ds : Ds} {m : Mm} {Q : Ds → Mm → List MV → Prop} : WP 119 61 [q0] [(0, s0), (2, s1)] ds m Q = (((0 ≤ s0 ∧ s0 ≤ 30000) ∧ WP 119 63 [q0] [(2, (ds.length : Int)), (2, s1)] (ds ++ [(10, s0.toNat)]) (al m (ds.length : Int) (dfl 10)) Q)) := P_gd k119_61 rfl
set_option maxRecDepth 20000 in
theorem k119_63 : mjCode 119 63 = some (.putfield 32, 3, 7, 8) := by decide +kernel
theorem p119_63 {s0 s1 : Int} {q0 : MV} {ds : Ds} {m : Mm} {Q : Ds → Mm → List MV → Prop} : WP 119 63 [q0] [(2, s0), (2, s1)] ds m Q = ((dk ds s1 = 7 ∧ WP 119 66 [q0] [] ds (up m s1 8 s0) Q)) := P_pf k119_63 rfl
set_option maxRecDepth 20000 in
theorem k119_66 : mjCode 119 66 = some (.aload_n 0, 1, 0, 0) := by decide +kernel
theorem p119_66 {l0 : Int} {ds : Ds} {m : Mm} {Q : Ds → Mm → List MV → Prop} : WP 119 66 [(2, l0)] [] ds m Q = (WP 119 67 [(2, l0)] [(2, l0)] ds m Q) := P_nx k119_66 rfl
set_option maxRecDepth 20000 in
theorem k119_67 : mjCode 119 67 = some (.iconst 4, 1, 0, 0) := by decide +kernel
theorem p119_67 {s0 : Int} {q0 : MV} {ds : Ds} {m : Mm} {Q : Ds → Mm → List MV → Prop} : WP 119 67 [q0] [(2, s0)] ds m Q = (WP 119 68 [q0] [(0, 4), (2, s0)] ds m Q) := P_nx k119_67 rfl
set_option maxRecDepth 20000 in
theorem k119_68 : mjCode 119 68 = some (.newarray .int, 2, 10, 0) := by decide +kernel
theorem p119_68 {s0 s1 : Int} {q0 : MV} {ds : Ds} {m : Mm} {Q : Ds → Mm → List MV → Prop} : WP 119 68 [q0] [(0, s0), (2, s1)] ds m Q = (((0 ≤ s0 ∧ s0 ≤ 30000) ∧ WP 119 70 [q0] [(2, (ds.length : Int)), (2, s1)] (ds ++ [(10, s0.toNat)]) (al m (ds.length : Int) (dfl 10)) Q)) := P_gd k119_68 rfl
set_option maxRecDepth 20000 in
theorem k119_70 : mjCode 119 70 = some (.putfield 35, 3, 7, 9) := by decide +kernel
theorem p119_70 {s0 s1 : Int} {q0 : MV} {ds : Ds} {m : Mm} {Q : Ds → Mm → List MV → Prop} : WP 119 70 [q0] [(2, s0), (2, s1)] ds m Q = ((dk ds s1 = 7 ∧ WP 119 73 [q0] [] ds (up m s1 9 s0) Q)) := P_pf k119_70 rfl
set_option maxRecDepth 20000 in
theorem k119_73 : mjCode 119 73 = some (.aload_n 0, 1, 0, 0) := by decide +kernel
theorem p119_73 {l0 : Int} {ds : Ds} {m : Mm} {Q : Ds → Mm → List MV → Prop} : WP 119 73 [(2, l0)] [] ds m Q = (WP 119 74 [(2, l0)] [(2, l0)] ds m Q) := P_nx k119_73 rfl
set_option maxRecDepth 20000 in
theorem k119_74 : mjCode 119 74 = some (.bipush 8, 2, 0, 0) := by decide +kernel
theorem p119_74 {s0 : Int} {q0 : MV} {ds : Ds} {m : Mm} {Q : Ds → Mm → List MV → Prop} : WP 119 74 [q0] [(2, s0)] ds m Q = (WP 119 76 [q0] [(0, 8), (2, s0)] ds m Q) := P_nx k119_74 rfl
set_option maxRecDepth 20000 in
theorem k119_76 : mjCode 119 76 = some (.newarray .int, 2, 10, 0) := by decide +kernel
theorem p119_76 {s0 s1 : Int} {q0 : MV} {ds : Ds} {m : Mm} {Q : Ds → Mm → List MV → Prop} : WP 119 76 [q0] [(0, s0), (2, s1)] ds m Q = (((0 ≤ s0 ∧ s0 ≤ 30000) ∧ WP 119 78 [q0] [(2, (ds.length : Int)), (2, s1)] (ds ++ [(10, s0.toNat)]) (al m (ds.length : Int) (dfl 10)) Q)) := P_gd k119_76 rfl
set_option maxRecDepth 20000 in
theorem k119_78 : mjCode 119 78 = some (.dup, 1, 0, 0) := by decide +kernel
theorem p119_78 {s0 s1 : Int} {q0 : MV} {ds : Ds} {m : Mm} {Q : Ds → Mm → List MV → Prop} : WP 119 78 [q0] [(2, s0), (2, s1)] ds m Q = (WP 119 79 [q0] [(2, s0), (2, s0), (2, s1)] ds m Q) := P_nx k119_78 rfl
set_option maxRecDepth 20000 in
theorem k119_79 : mjCode 119 79 = some (.iconst 0, 1, 0, 0) := by decide +kernel
theorem p119_79 {s0 s1 s2 : Int} {q0 : MV} {ds : Ds} {m : Mm} {Q : Ds → Mm → List MV → Prop} : WP 119 79 [q0] [(2, s0), (2, s1), (2, s2)] ds m Q = (WP 119 80 [q0] [(0, 0), (2, s0), (2, s1), (2, s2)] ds m Q) := P_nx k119_79 rfl
set_option maxRecDepth 20000 in
theorem k119_80 : mjCode 119 80 = some (.iconst (-1), 1, 0, 0) := by decide +kernel
theorem p119_80 {s0 s1 s2 s3 : Int} {q0 : MV} {ds : Ds} {m : Mm} {Q : Ds → Mm → List MV → Prop} : WP 119 80 [q0] [(0, s0), (2, s1), (2, s2), (2, s3)] ds m Q = (WP 119 81 [q0] [(0, (-1)), (0, s0), (2, s1), (2, s2), (2, s3)] ds m Q) := P_nx k119_80 rfl
set_option maxRecDepth 20000 in
theorem k119_81 : mjCode 119 81 = some (.iastore, 1, 0, 0) := by decide +kernel
theorem p119_81 {s0 s1 s2 s3 s4 : Int} {q0 : MV} {ds : Ds} {m : Mm} {Q : Ds → Mm → List MV → Prop} : WP 119 81 [q0] [(0, s0), (0, s1), (2, s2), (2, s3), (2, s4)] ds m Q = ((dk ds s2 = 10 ∧ 0 ≤ s1 ∧ s1 < dl ds s2 ∧ WP 119 82 [q0] [(2, s3), (2, s4)] ds (up m s2 s1 s0) Q)) := P_s3 k119_81 rfl
set_option maxRecDepth 20000 in
theorem k119_82 : mjCode 119 82 = some (.dup, 1, 0, 0) := by decide +kernel
theorem p119_82 {s0 s1 : Int} {q0 : MV} {ds : Ds} {m : Mm} {Q : Ds → Mm → List MV → Prop} : WP 119 82 [q0] [(2, s0), (2, s1)] ds m Q = (WP 119 83 [q0] [(2, s0), (2, s0), (2, s1)] ds m Q) := P_nx k119_82 rfl
set_option maxRecDepth 20000 in
theorem k119_83 : mjCode 119 83 = some (.iconst 1, 1, 0, 0) := by decide +kernel
theorem p119_83 {s0 s1 s2 : Int} {q0 : MV} {ds : Ds} {m : Mm} {Q : Ds → Mm → List MV → Prop} : WP 119 83 [q0] [(2, s0), (2, s1), (2, s2)] ds m Q = (WP 119 84 [q0] [(0, 1), (2, s0), (2, s1), (2, s2)] ds m Q) := P_nx k119_83 rfl
set_option maxRecDepth 20000 in
theorem k119_84 : mjCode 119 84 = some (.iconst (-1), 1, 0, 0) := by decide +kernel
theorem p119_84 {s0 s1 s2 s3 : Int} {q0 : MV} {ds : Ds} {m : Mm} {Q : Ds → Mm → List MV → Prop} : WP 119 84 [q0] [(0, s0), (2, s1), (2, s2), (2, s3)] ds m Q = (WP 119 85 [q0] [(0, (-1)), (0, s0), (2, s1), (2, s2), (2, s3)] ds m Q) := P_nx k119_84 rfl
set_option maxRecDepth 20000 in
theorem k119_85 : mjCode 119 85 = some (.iastore, 1, 0, 0) := by decide +kernel
theorem p119_85 {s0 s1 s2 s3 s4 : Int} {q0 : MV} {ds : Ds} {m : Mm} {Q : Ds → Mm → List MV → Prop} : WP 119 85 [q0] [(0, s0), (0, s1), (2, s2), (2, s3), (2, s4)] ds m Q = ((dk ds s2 = 10 ∧ 0 ≤ s1 ∧ s1 < dl ds s2 ∧ WP 119 86 [q0] [(2, s3), (2, s4)] ds (up m s2 s1 s0) Q)) := P_s3 k119_85 rfl
set_option maxRecDepth 20000 in
theorem k119_86 : mjCode 119 86 = some (.dup, 1, 0, 0) := by decide +kernel
theorem p119_86 {s0 s1 : Int} {q0 : MV} {ds : Ds} {m : Mm} {Q : Ds → Mm → List MV → Prop} : WP 119 86 [q0] [(2, s0), (2, s1)] ds m Q = (WP 119 87 [q0] [(2, s0), (2, s0), (2, s1)] ds m Q) := P_nx k119_86 rfl
set_option maxRecDepth 20000 in
theorem k119_87 : mjCode 119 87 = some (.iconst 2, 1, 0, 0) := by decide +kernel
theorem p119_87 {s0 s1 s2 : Int} {q0 : MV} {ds : Ds} {m : Mm} {Q : Ds → Mm → List MV → Prop} : WP 119 87 [q0] [(2, s0), (2, s1), (2, s2)] ds m Q = (WP 119 88 [q0] [(0, 2), (2, s0), (2, s1), (2, s2)] ds m Q) := P_nx k119_87 rfl
set_option maxRecDepth 20000 in
theorem k119_88 : mjCode 119 88 = some (.iconst (-1), 1, 0, 0) := by decide +kernel
theorem p119_88 {s0 s1 s2 s3 : Int} {q0 : MV} {ds : Ds} {m : Mm} {Q : Ds → Mm → List MV → Prop} : WP 119 88 [q0] [(0, s0), (2, s1), (2, s2), (2, s3)] ds m Q = (WP 119 89 [q0] [(0, (-1)), (0, s0), (2, s1), (2, s2), (2, s3)] ds m Q) := P_nx k119_88 rfl
set_option maxRecDepth 20000 in
theorem k119_89 : mjCode 119 89 = some (.iastore, 1, 0, 0) := by decide +kernel
theorem p119_89 {s0 s1 s2 s3 s4 : Int} {q0 : MV} {ds : Ds} {m : Mm} {Q : Ds → Mm → List MV → Prop} : WP 119 89 [q0] [(0, s0), (0, s1), (2, s2), (2, s3), (2, s4)] ds m Q = ((dk ds s2 = 10 ∧ 0 ≤ s1 ∧ s1 < dl ds s2 ∧ WP 119 90 [q0] [(2, s3), (2, s4)] ds (up m s2 s1 s0) Q)) := P_s3 k119_89 rfl
set_option maxRecDepth 20000 in
theorem k119_90 : mjCode 119 90 = some (.dup, 1, 0, 0) := by decide +kernel
theorem p119_90 {s0 s1 : Int} {q0 : MV} {ds : Ds} {m : Mm} {Q : Ds → Mm → List MV → Prop} : WP 119 90 [q0] [(2, s0), (2, s1)] ds m Q = (WP 119 91 [q0] [(2, s0), (2, s0), (2, s1)] ds m Q) := P_nx k119_90 rfl
set_option maxRecDepth 20000 in
theorem k119_91 : mjCode 119 91 = some (.iconst 3, 1, 0, 0) := by decide +kernel
theorem p119_91 {s0 s1 s2 : Int} {q0 : MV} {ds : Ds} {m : Mm} {Q : Ds → Mm → List MV → Prop} : WP 119 91 [q0] [(2, s0), (2, s1), (2, s2)] ds m Q = (WP 119 92 [q0] [(0, 3), (2, s0), (2, s1), (2, s2)] ds m Q) := P_nx k119_91 rfl
set_option maxRecDepth 20000 in
theorem k119_92 : mjCode 119 92 = some (.iconst (-1), 1, 0, 0) := by decide +kernel
theorem p119_92 {s0 s1 s2 s3 : Int} {q0 : MV} {ds : Ds} {m : Mm} {Q : Ds → Mm → List MV → Prop} : WP 119 92 [q0] [(0, s0), (2, s1), (2, s2), (2, s3)] ds m Q = (WP 119 93 [q0] [(0, (-1)), (0, s0), (2, s1), (2, s2), (2, s3)] ds m Q) := P_nx k119_92 rfl
set_option maxRecDepth 20000 in
theorem k119_93 : mjCode 119 93 = some (.iastore, 1, 0, 0) := by decide +kernel
theorem p119_93 {s0 s1 s2 s3 s4 : Int} {q0 : MV} {ds : Ds} {m : Mm} {Q : Ds → Mm → List MV → Prop} : WP 119 93 [q0] [(0, s0), (0, s1), (2, s2), (2, s3), (2, s4)] ds m Q = ((dk ds s2 = 10 ∧ 0 ≤ s1 ∧ s1 < dl ds s2 ∧ WP 119 94 [q0] [(2, s3), (2, s4)] ds (up m s2 s1 s0) Q)) := P_s3 k119_93 rfl
set_option maxRecDepth 20000 in
theorem k119_94 : mjCode 119 94 = some (.dup, 1, 0, 0) := by decide +kernel
theorem p119_94 {s0 s1 : Int} {q0 : MV} {ds : Ds} {m : Mm} {Q : Ds → Mm → List MV → Prop} : WP 119 94 [q0] [(2, s0), (2, s1)] ds m Q = (WP 119 95 [q0] [(2, s0), (2, s0), (2, s1)] ds m Q) := P_nx k119_94 rfl
set_option maxRecDepth 20000 in
theorem k119_95 : mjCode 119 95 = some (.iconst 4, 1, 0, 0) := by decide +kernel
theorem p119_95 {s0 s1 s2 : Int} {q0 : MV} {ds : Ds} {m : Mm} {Q : Ds → Mm → List MV → Prop} : WP 119 95 [q0] [(2, s0), (2, s1), (2, s2)] ds m Q = (WP 119 96 [q0] [(0, 4), (2, s0), (2, s1), (2, s2)] ds m Q) := P_nx k119_95 rfl
set_option maxRecDepth 20000 in
theorem k119_96 : mjCode 119 96 = some (.iconst (-1), 1, 0, 0) := by decide +kernel
theorem p119_96 {s0 s1 s2 s3 : Int} {q0 : MV} {ds : Ds} {m : Mm} {Q : Ds → Mm → List MV → Prop} : WP 119 96 [q0] [(0, s0), (2, s1), (2, s2), (2, s3)] ds m Q = (WP 119 97 [q0] [(0, (-1)), (0, s0), (2, s1), (2, s2), (2, s3)] ds m Q) := P_nx k119_96 rfl
set_option maxRecDepth 20000 in
theorem k119_97 : mjCode 119 97 = some (.iastore, 1, 0, 0) := by decide +kernel
theorem p119_97 {s0 s1 s2 s3 s4 : Int} {q0 : MV} {ds : Ds} {m : Mm} {Q : Ds → Mm → List MV → Prop} : WP 119 97 [q0] [(0, s0), (0, s1), (2, s2), (2, s3), (2, s4)] ds m Q = ((dk ds s2 = 10 ∧ 0 ≤ s1 ∧ s1 < dl ds s2 ∧ WP 119 98 [q0] [(2, s3), (2, s4)] ds (up m s2 s1 s0) Q)) := P_s3 k119_97 rfl
set_option maxRecDepth 20000 in
theorem k119_98 : mjCode 119 98 = some (.dup, 1, 0, 0) := by decide +kernel
theorem p119_98 {s0 s1 : Int} {q0 : MV} {ds : Ds} {m : Mm} {Q : Ds → Mm → List MV → Prop} : WP 119 98 [q0] [(2, s0), (2, s1)] ds m Q = (WP 119 99 [q0] [(2, s0), (2, s0), (2, s1)] ds m Q) := P_nx k119_98 rfl
set_option maxRecDepth 20000 in
theorem k119_99 : mjCode 119 99 = some (.iconst 5, 1, 0, 0) := by decide +kernel
theorem p119_99 {s0 s1 s2 : Int} {q0 : MV} {ds : Ds} {m : Mm} {Q : Ds → Mm → List MV → Prop} : WP 119 99 [q0] [(2, s0), (2, s1), (2, s2)] ds m Q = (WP 119 100 [q0] [(0, 5), (2, s0), (2, s1), (2, s2)] ds m Q) := P_nx k119_99 rfl
set_option maxRecDepth 20000 in
theorem k119_100 : mjCode 119 100 = some (.iconst (-1), 1, 0, 0) := by decide +kernel
theorem p119_100 {s0 s1 s2 s3 : Int} {q0 : MV} {ds : Ds} {m : Mm} {Q : Ds → Mm → List MV → Prop} : WP 119 100 [q0] [(0, s0), (2, s1), (2, s2), (2, s3)] ds m Q = (WP 119 101 [q0] [(0, (-1)), (0, s0), (2, s1), (2, s2), (2, s3)] ds m Q) := P_nx k119_100 rfl
set_option maxRecDepth 20000 in
theorem k119_101 : mjCode 119 101 = some (.iastore, 1, 0, 0) := by decide +kernel
theorem p119_101 {s0 s1 s2 s3 s4 : Int} {q0 : MV} {ds : Ds} {m : Mm} {Q : Ds → Mm → List MV → Prop} : WP 119 101 [q0] [(0, s0), (0, s1), (2, s2), (2, s3), (2, s4)] ds m Q = ((dk ds s2 = 10 ∧ 0 ≤ s1 ∧ s1 < dl ds s2 ∧ WP 119 102 [q0] [(2, s3), (2, s4)] ds (up m s2 s1 s0) Q)) := P_s3 k119_101 rfl
set_option maxRecDepth 20000 in
theorem k119_102 : mjCode 119 102 = some (.dup, 1, 0, 0) := by decide +kernel
theorem p119_102 {s0 s1 : Int} {q0 : MV} {ds : Ds} {m : Mm} {Q : Ds → Mm → List MV → Prop} : WP 119 102 [q0] [(2, s0), (2, s1)] ds m Q = (WP 119 103 [q0] [(2, s0), (2, s0), (2, s1)] ds m Q) := P_nx k119_102 rfl
set_option maxRecDepth 20000 in
theorem k119_103 : mjCode 119 103 = some (.bipush 6, 2, 0, 0) := by decide +kernel
theorem p119_103 {s0 s1 s2 : Int} {q0 : MV} {ds : Ds} {m : Mm} {Q : Ds → Mm → List MV → Prop} : WP 119 103 [q0] [(2, s0), (2, s1), (2, s2)] ds m Q = (WP 119 105 [q0] [(0, 6), (2, s0), (2, s1), (2, s2)] ds m Q) := P_nx k119_103 rfl
set_option maxRecDepth 20000 in
theorem k119_105 : mjCode 119 105 = some (.iconst (-1), 1, 0, 0) := by decide +kernel
theorem p119_105 {s0 s1 s2 s3 : Int} {q0 : MV} {ds : Ds} {m : Mm} {Q : Ds → Mm → List MV → Prop} : WP 119 105 [q0] [(0, s0), (2, s1), (2, s2), (2, s3)] ds m Q = (WP 119 106 [q0] [(0, (-1)), (0, s0), (2, s1), (2, s2), (2, s3)] ds m Q) := P_nx k119_105 rfl
set_option maxRecDepth 20000 in
theorem k119_106 : mjCode 119 106 = some (.iastore, 1, 0, 0) := by decide +kernel
theorem p119_106 {s0 s1 s2 s3 s4 : Int} {q0 : MV} {ds : Ds} {m : Mm} {Q : Ds → Mm → List MV → Prop} : WP 119 106 [q0] [(0, s0), (0, s1), (2, s2), (2, s3), (2, s4)] ds m Q = ((dk ds s2 = 10 ∧ 0 ≤ s1 ∧ s1 < dl ds s2 ∧ WP 119 107 [q0] [(2, s3), (2, s4)] ds (up m s2 s1 s0) Q)) := P_s3 k119_106 rfl
set_option maxRecDepth 20000 in
theorem k119_107 : mjCode 119 107 = some (.dup, 1, 0, 0) := by decide +kernel
theorem p119_107 {s0 s1 : Int} {q0 : MV} {ds : Ds} {m : Mm} {Q : Ds → Mm → List MV → Prop} : WP 119 107 [q0] [(2, s0), (2, s1)] ds m Q = (WP 119 108 [q0] [(2, s0), (2, s0), (2, s1)] ds m Q) := P_nx k119_107 rfl
set_option maxRecDepth 20000 in
theorem k119_108 : mjCode 119 108 = some (.bipush 7, 2, 0, 0) := by decide +kernel
theorem p119_108 {s0 s1 s2 : Int} {q0 : MV} {ds : Ds} {m : Mm} {Q : Ds → Mm → List MV → Prop} : WP 119 108 [q0] [(2, s0), (2, s1), (2, s2)] ds m Q = (WP 119 110 [q0] [(0, 7), (2, s0), (2, s1), (2, s2)] ds m Q) := P_nx k119_108 rfl
set_option maxRecDepth 20000 in
theorem k119_110 : mjCode 119 110 = some (.iconst (-1), 1, 0, 0) := by decide +kernel
theorem p119_110 {s0 s1 s2 s3 : Int} {q0 : MV} {ds : Ds} {m : Mm} {Q : Ds → Mm → List MV → Prop} : WP 119 110 [q0] [(0, s0), (2, s1), (2, s2), (2, s3)] ds m Q = (WP 119 111 [q0] [(0, (-1)), (0, s0), (2, s1), (2, s2), (2, s3)] ds m Q) := P_nx k119_110 rfl
set_option maxRecDepth 20000 in
theorem k119_111 : mjCode 119 111 = some (.iastore, 1, 0, 0) := by decide +kernel
theorem p119_111 {s0 s1 s2 s3 s4 : Int} {q0 : MV} {ds : Ds} {m : Mm} {Q : Ds → Mm → List MV → Prop} : WP 119 111 [q0] [(0, s0), (0, s1), (2, s2), (2, s3), (2, s4)] ds m Q = ((dk ds s2 = 10 ∧ 0 ≤ s1 ∧ s1 < dl ds s2 ∧ WP 119 112 [q0] [(2, s3), (2, s4)] ds (up m s2 s1 s0) Q)) := P_s3 k119_111 rfl
set_option maxRecDepth 20000 in
theorem k119_112 : mjCode 119 112 = some (.putfield 38, 3, 7, 11) := by decide +kernel
theorem p119_112 {s0 s1 : Int} {q0 : MV} {ds : Ds} {m : Mm} {Q : Ds → Mm → List MV → Prop} : WP 119 112 [q0] [(2, s0), (2, s1)] ds m Q = ((dk ds s1 = 7 ∧ WP 119 115 [q0] [] ds (up m s1 11 s0) Q)) := P_pf k119_112 rfl
set_option maxRecDepth 20000 in
theorem k119_115 : mjCode 119 115 = some (.aload_n 0, 1, 0, 0) := by decide +kernel
theorem p119_115 {l0 : Int} {ds : Ds} {m : Mm} {Q : Ds → Mm → List MV → Prop} : WP 119 115 [(2, l0)] [] ds m Q = (WP 119 116 [(2, l0)] [(2, l0)] ds m Q) := P_nx k119_115 rfl
set_option maxRecDepth 20000 in
theorem k119_116 : mjCode 119 116 = some (.bipush 8, 2, 0, 0) := by decide +kernel
theorem p119_116 {s0 : Int} {q0 : MV} {ds : Ds} {m : Mm} {Q : Ds → Mm → List MV → Prop} : WP 119 116 [q0] [(2, s0)] ds m Q = (WP 119 118 [q0] [(0, 8), (2, s0)] ds m Q) := P_nx k119_116 rfl
set_option maxRecDepth 20000 in
theorem k119_118 : mjCode 119 118 = some (.newarray .int, 2, 10, 0) := by decide +kernel
theorem p119_118 {s0 s1 : Int} {q0 : MV} {ds : Ds} {m : Mm} {Q : Ds → Mm → List MV → Prop} : WP 119 118 [q0] [(0, s0), (2, s1)] ds m Q = (((0 ≤ s0 ∧ s0 ≤ 30000) ∧ WP 119 120 [q0] [(2, (ds.length : Int)), (2, s1)] (ds ++ [(10, s0.toNat)]) (al m (ds.length : Int) (dfl 10)) Q)) := P_gd k119_118 rfl
set_option maxRecDepth 20000 in
theorem k119_120 : mjCode 119 120 = some (.putfield 41, 3, 7, 12) := by decide +kernel
theorem p119_120 {s0 s1 : Int} {q0 : MV} {ds : Ds} {m : Mm} {Q : Ds → Mm → List MV → Prop} : WP 119 120 [q0] [(2, s0), (2, s1)] ds m Q = ((dk ds s1 = 7 ∧ WP 119 123 [q0] [] ds (up m s1 12 s0) Q)) := P_pf k119_120 rfl
set_option maxRecDepth 20000 in
theorem k119_123 : mjCode 119 123 = some (.aload_n 0, 1, 0, 0) := by decide +kernel
theorem p119_123 {l0 : Int} {ds : Ds} {m : Mm} {Q : Ds → Mm → List MV → Prop} : WP 119 123 [(2, l0)] [] ds m Q = (WP 119 124 [(2, l0)] [(2, l0)] ds m Q) := P_nx k119_123 rfl
set_option maxRecDepth 20000 in
theorem k119_124 : mjCode 119 124 = some (.sipush 800, 3, 0, 0) := by decide +kernel
theorem p119_124 {s0 : Int} {q0 : MV} {ds : Ds} {m : Mm} {Q : Ds → Mm → List MV → Prop} : WP 119 124 [q0] [(2, s0)] ds m Q = (WP 119 127 [q0] [(0, 800), (2, s0)] ds m Q) := P_nx k119_124 rfl
set_option maxRecDepth 20000 in
theorem k119_127 : mjCode 119 127 = some (.newarray .long, 2, 12, 0) := by decide +kernel
theorem p119_127 {s0 s1 : Int} {q0 : MV} {ds : Ds} {m : Mm} {Q : Ds → Mm → List MV → Prop} : WP 119 127 [q0] [(0, s0), (2, s1)] ds m Q = (((0 ≤ s0 ∧ s0 ≤ 30000) ∧ WP 119 129 [q0] [(2, (ds.length : Int)), (2, s1)] (ds ++ [(12, s0.toNat)]) (al m (ds.length : Int) (dfl 12)) Q)) := P_gd k119_127 rfl
set_option maxRecDepth 20000 in
theorem k119_129 : mjCode 119 129 = some (.putfield 44, 3, 7, 13) := by decide +kernel
theorem p119_129 {s0 s1 : Int} {q0 : MV} {ds : Ds} {m : Mm} {Q : Ds → Mm → List MV → Prop} : WP 119 129 [q0] [(2, s0), (2, s1)] ds m Q = ((dk ds s1 = 7 ∧ WP 119 132 [q0] [] ds (up m s1 13 s0) Q)) := P_pf k119_129 rfl
set_option maxRecDepth 20000 in
theorem k119_132 : mjCode 119 132 = some (.aload_n 0, 1, 0, 0) := by decide +kernel
theorem p119_132 {l0 : Int} {ds : Ds} {m : Mm} {Q : Ds → Mm → List MV → Prop} : WP 119 132 [(2, l0)] [] ds m Q = (WP 119 133 [(2, l0)] [(2, l0)] ds m Q) := P_nx k119_132 rfl
set_option maxRecDepth 20000 in
theorem k119_133 : mjCode 119 133 = some (.bipush 100, 2, 0, 0) := by decide +kernel
theorem p119_133 {s0 : Int} {q0 : MV} {ds : Ds} {m : Mm} {Q : Ds → Mm → List MV → Prop} : WP 119 133 [q0] [(2, s0)] ds m Q = (WP 119 135 [q0] [(0, 100), (2, s0)] ds m Q) := P_nx k119_133 rfl
set_option maxRecDepth 20000 in
theorem k119_135 : mjCode 119 135 = some (.newarray .long, 2, 12, 0) := by decide +kernel
theorem p119_135 {s0 s1 : Int} {q0 : MV} {ds : Ds} {m : Mm} {Q : Ds → Mm → List MV → Prop} : WP 119 135 [q0] [(0, s0), (2, s1)] ds m Q = (((0 ≤ s0 ∧ s0 ≤ 30000) ∧ WP 119 137 [q0] [(2, (ds.length : Int)), (2, s1)] (ds ++ [(12, s0.toNat)]) (al m (ds.length : Int) (dfl 12)) Q)) := P_gd k119_135 rfl
set_option maxRecDepth 20000 in
theorem k119_137 : mjCode 119 137 = some (.putfield 48, 3, 7, 14) := by decide +kernel
theorem p119_137 {s0 s1 : Int} {q0 : MV} {ds : Ds} {m : Mm} {Q : Ds → Mm → List MV → Prop} : WP 119 137 [q0] [(2, s0), (2, s1)] ds m Q = ((dk ds s1 = 7 ∧ WP 119 140 [q0] [] ds (up m s1 14 s0) Q)) := P_pf k119_137 rfl
set_option maxRecDepth 20000 in
theorem k119_140 : mjCode 119 140 = some (.aload_n 0, 1, 0, 0) := by decide +kernel
theorem p119_140 {l0 : Int} {ds : Ds} {m : Mm} {Q : Ds → Mm → List MV → Prop} : WP 119 140 [(2, l0)] [] ds m Q = (WP 119 141 [(2, l0)] [(2, l0)] ds m Q) := P_nx k119_140 rfl
set_option maxRecDepth 20000 in
theorem k119_141 : mjCode 119 141 = some (.sipush 4320, 3, 0, 0) := by decide +kernel
theorem p119_141 {s0 : Int} {q0 : MV} {ds : Ds} {m : Mm} {Q : Ds → Mm → List MV → Prop} : WP 119 141 [q0] [(2, s0)] ds m Q = (WP 119 144 [q0] [(0, 4320), (2, s0)] ds m Q) := P_nx k119_141 rfl
set_option maxRecDepth 20000 in
theorem k119_144 : mjCode 119 144 = some (.newarray .int, 2, 10, 0) := by decide +kernel
theorem p119_144 {s0 s1 : Int} {q0 : MV} {ds : Ds} {m : Mm} {Q : Ds → Mm → List MV → Prop} : WP 119 144 [q0] [(0, s0), (2, s1)] ds m Q = (((0 ≤ s0 ∧ s0 ≤ 30000) ∧ WP 119 146 [q0] [(2, (ds.length : Int)), (2, s1)] (ds ++ [(10, s0.toNat)]) (al m (ds.length : Int) (dfl 10)) Q)) := P_gd k119_144 rfl
set_option maxRecDepth 20000 in
theorem k119_146 : mjCode 119 146 = some (.putfield 51, 3, 7, 15) := by decide +kernel
theorem p119_146 {s0 s1 : Int} {q0 : MV} {ds : Ds} {m : Mm} {Q : Ds → Mm → List MV → Prop} : WP 119 146 [q0] [(2, s0), (2, s1)] ds m Q = ((dk ds s1 = 7 ∧ WP 119 149 [q0] [] ds (up m s1 15 s0) Q)) := P_pf k119_146 rfl
set_option maxRecDepth 20000 in
theorem k119_149 : mjCode 119 149 = some (.aload_n 0, 1, 0, 0) := by decide +kernel
theorem p119_149 {l0 : Int} {ds : Ds} {m : Mm} {Q : Ds → Mm → List MV → Prop} : WP 119 149 [(2, l0)] [] ds m Q = (WP 119 150 [(2, l0)] [(2, l0)] ds m Q) := P_nx k119_149 rfl
set_option maxRecDepth 20000 in
theorem k119_150 : mjCode 119 150 = some (.bipush 117, 2, 0, 0) := by decide +kernel
theorem p119_150 {s0 : Int} {q0 : MV} {ds : Ds} {m : Mm} {Q : Ds → Mm → List MV → Prop} : WP 119 150 [q0] [(2, s0)] ds m Q = (WP 119 152 [q0] [(0, 117), (2, s0)] ds m Q) := P_nx k119_150 rfl
set_option maxRecDepth 20000 in
theorem k119_152 : mjCode 119 152 = some (.newarray .int, 2, 10, 0) := by decide +kernel
theorem p119_152 {s0 s1 : Int} {q0 : MV} {ds : Ds} {m : Mm} {Q : Ds → Mm → List MV → Prop} : WP 119 152 [q0] [(0, s0), (2, s1)] ds m Q = (((0 ≤ s0 ∧ s0 ≤ 30000) ∧ WP 119 154 [q0] [(2, (ds.length : Int)), (2, s1)] (ds ++ [(10, s0.toNat)]) (al m (ds.length : Int) (dfl 10)) Q)) := P_gd k119_152 rfl
set_option maxRecDepth 20000 in
theorem k119_154 : mjCode 119 154 = some (.putfield 54, 3, 7, 16) := by decide +kernel
theorem p119_154 {s0 s1 : Int} {q0 : MV} {ds : Ds} {m : Mm} {Q : Ds → Mm → List MV → Prop} : WP 119 154 [q0] [(2, s0), (2, s1)] ds m Q = ((dk ds s1 = 7 ∧ WP 119 157 [q0] [] ds (up m s1 16 s0) Q)) := P_pf k119_154 rfl
set_option maxRecDepth 20000 in
theorem k119_157 : mjCode 119 157 = some (.aload_n 0, 1, 0, 0) := by decide +kernel
theorem p119_157 {l0 : Int} {ds : Ds} {m : Mm} {Q : Ds → Mm → List MV → Prop} : WP 119 157 [(2, l0)] [] ds m Q = (WP 119 158 [(2, l0)] [(2, l0)] ds m Q) := P_nx k119_157 rfl
set_option maxRecDepth 20000 in
theorem k119_158 : mjCode 119 158 = some (.sipush 2000, 3, 0, 0) := by decide +kernel
theorem p119_158 {s0 : Int} {q0 : MV} {ds : Ds} {m : Mm} {Q : Ds → Mm → List MV → Prop} : WP 119 158 [q0] [(2, s0)] ds m Q = (WP 119 161 [q0] [(0, 2000), (2, s0)] ds m Q) := P_nx k119_158 rfl
set_option maxRecDepth 20000 in
theorem k119_161 : mjCode 119 161 = some (.newarray .int, 2, 10, 0) := by decide +kernel
theorem p119_161 {s0 s1 : Int} {q0 : MV} {ds : Ds} {m : Mm} {Q : Ds → Mm → List MV → Prop} : WP 119 161 [q0] [(0, s0), (2, s1)] ds m Q = (((0 ≤ s0 ∧ s0 ≤ 30000) ∧ WP 119 163 [q0] [(2, (ds.length : Int)), (2, s1)] (ds ++ [(10, s0.toNat)]) (al m (ds.length : Int) (dfl 10)) Q)) := P_gd k119_161 rfl
set_option maxRecDepth 20000 in
theorem k119_163 : mjCode 119 163 = some (.putfield 57, 3, 7, 17) := by decide +kernel
theorem p119_163 {s0 s1 : Int} {q0 : MV} {ds : Ds} {m : Mm} {Q : Ds → Mm → List MV → Prop} : WP 119 163 [q0] [(2, s0), (2, s1)] ds m Q = ((dk ds s1 = 7 ∧ WP 119 166 [q0] [] ds (up m s1 17 s0) Q)) := P_pf k119_163 rfl
set_option maxRecDepth 20000 in
theorem k119_166 : mjCode 119 166 = some (.aload_n 0, 1, 0, 0) := by decide +kernel
theorem p119_166 {l0 : Int} {ds : Ds} {m : Mm} {Q : Ds → Mm → List MV → Prop} : WP 119 166 [(2, l0)] [] ds m Q = (WP 119 167 [(2, l0)] [(2, l0)] ds m Q) := P_nx k119_166 rfl
set_option maxRecDepth 20000 in
theorem k119_167 : mjCode 119 167 = some (.sipush 2000, 3, 0, 0) := by decide +kernel
theorem p119_167 {s0 : Int} {q0 : MV} {ds : Ds} {m : Mm} {Q : Ds → Mm → List MV → Prop} : WP 119 167 [q0] [(2, s0)] ds m Q = (WP 119 170 [q0] [(0, 2000), (2, s0)] ds m Q) := P_nx k119_167 rfl
set_option maxRecDepth 20000 in
theorem k119_170 : mjCode 119 170 = some (.newarray .int, 2, 10, 0) := by decide +kernel
theorem p119_170 {s0 s1 : Int} {q0 : MV} {ds : Ds} {m : Mm} {Q : Ds → Mm → List MV → Prop} : WP 119 170 [q0] [(0, s0), (2, s1)] ds m Q = (((0 ≤ s0 ∧ s0 ≤ 30000) ∧ WP 119 172 [q0] [(2, (ds.length : Int)), (2, s1)] (ds ++ [(10, s0.toNat)]) (al m (ds.length : Int) (dfl 10)) Q)) := P_gd k119_170 rfl
set_option maxRecDepth 20000 in
theorem k119_172 : mjCode 119 172 = some (.putfield 60, 3, 7, 18) := by decide +kernel
theorem p119_172 {s0 s1 : Int} {q0 : MV} {ds : Ds} {m : Mm} {Q : Ds → Mm → List MV → Prop} : WP 119 172 [q0] [(2, s0), (2, s1)] ds m Q = ((dk ds s1 = 7 ∧ WP 119 175 [q0] [] ds (up m s1 18 s0) Q)) := P_pf k119_172 rfl
set_option maxRecDepth 20000 in
theorem k119_175 : mjCode 119 175 = some (.aload_n 0, 1, 0, 0) := by decide +kernel
theorem p119_175 {l0 : Int} {ds : Ds} {m : Mm} {Q : Ds → Mm → List MV → Prop} : WP 119 175 [(2, l0)] [] ds m Q = (WP 119 176 [(2, l0)] [(2, l0)] ds m Q) := P_nx k119_175 rfl
set_option maxRecDepth 20000 in
theorem k119_176 : mjCode 119 176 = some (.sipush 2000, 3, 0, 0) := by decide +kernel
theorem p119_176 {s0 : Int} {q0 : MV} {ds : Ds} {m : Mm} {Q : Ds → Mm → List MV → Prop} : WP 119 176 [q0] [(2, s0)] ds m Q = (WP 119 179 [q0] [(0, 2000), (2, s0)] ds m Q) := P_nx k119_176 rfl
set_option maxRecDepth 20000 in
theorem k119_179 : mjCode 119 179 = some (.newarray .int, 2, 10, 0) := by decide +kernel
theorem p119_179 {s0 s1 : Int} {q0 : MV} {ds : Ds} {m : Mm} {Q : Ds → Mm → List MV → Prop} : WP 119 179 [q0] [(0, s0), (2, s1)] ds m Q = (((0 ≤ s0 ∧ s0 ≤ 30000) ∧ WP 119 181 [q0] [(2, (ds.length : Int)), (2, s1)] (ds ++ [(10, s0.toNat)]) (al m (ds.length : Int) (dfl 10)) Q)) := P_gd k119_179 rfl
set_option maxRecDepth 20000 in
theorem k119_181 : mjCode 119 181 = some (.putfield 63, 3, 7, 19) := by decide +kernel
theorem p119_181 {s0 s1 : Int} {q0 : MV} {ds : Ds} {m : Mm} {Q : Ds → Mm → List MV → Prop} : WP 119 181 [q0] [(2, s0), (2, s1)] ds m Q = ((dk ds s1 = 7 ∧ WP 119 184 [q0] [] ds (up m s1 19 s0) Q)) := P_pf k119_181 rfl
set_option maxRecDepth 20000 in
theorem k119_184 : mjCode 119 184 = some (.aload_n 0, 1, 0, 0) := by decide +kernel
theorem p119_184 {l0 : Int} {ds : Ds} {m : Mm} {Q : Ds → Mm → List MV → Prop} : WP 119 184 [(2, l0)] [] ds m Q = (WP 119 185 [(2, l0)] [(2, l0)] ds m Q) := P_nx k119_184 rfl
set_option maxRecDepth 20000 in
theorem k119_185 : mjCode 119 185 = some (.sipush 2000, 3, 0, 0) := by decide +kernel
theorem p119_185 {s0 : Int} {q0 : MV} {ds : Ds} {m : Mm} {Q : Ds → Mm → List MV → Prop} : WP 119 185 [q0] [(2, s0)] ds m Q = (WP 119 188 [q0] [(0, 2000), (2, s0)] ds m Q) := P_nx k119_185 rfl
set_option maxRecDepth 20000 in
theorem k119_188 : mjCode 119 188 = some (.newarray .boolean, 2, 11, 0) := by decide +kernel
theorem p119_188 {s0 s1 : Int} {q0 : MV} {ds : Ds} {m : Mm} {Q : Ds → Mm → List MV → Prop} : WP 119 188 [q0] [(0, s0), (2, s1)] ds m Q = (((0 ≤ s0 ∧ s0 ≤ 30000) ∧ WP 119 190 [q0] [(2, (ds.length : Int)), (2, s1)] (ds ++ [(11, s0.toNat)]) (al m (ds.length : Int) (dfl 11)) Q)) := P_gd k119_188 rfl
set_option maxRecDepth 20000 in
theorem k119_190 : mjCode 119 190 = some (.putfield 66, 3, 7, 20) := by decide +kernel
theorem p119_190 {s0 s1 : Int} {q0 : MV} {ds : Ds} {m : Mm} {Q : Ds → Mm → List MV → Prop} : WP 119 190 [q0] [(2, s0), (2, s1)] ds m Q = ((dk ds s1 = 7 ∧ WP 119 193 [q0] [] ds (up m s1 20 s0) Q)) := P_pf k119_190 rfl
set_option maxRecDepth 20000 in
theorem k119_193 : mjCode 119 193 = some (.aload_n 0, 1, 0, 0) := by decide +kernel
theorem p119_193 {l0 : Int} {ds : Ds} {m : Mm} {Q : Ds → Mm → List MV → Prop} : WP 119 193 [(2, l0)] [] ds m Q = (WP 119 194 [(2, l0)] [(2, l0)] ds m Q) := P_nx k119_193 rfl
set_option maxRecDepth 20000 in
theorem k119_194 : mjCode 119 194 = some (.sipush 2000, 3, 0, 0) := by decide +kernel
theorem p119_194 {s0 : Int} {q0 : MV} {ds : Ds} {m : Mm} {Q : Ds → Mm → List MV → Prop} : WP 119 194 [q0] [(2, s0)] ds m Q = (WP 119 197 [q0] [(0, 2000), (2, s0)] ds m Q) := P_nx k119_194 rfl
set_option maxRecDepth 20000 in
theorem k119_197 : mjCode 119 197 = some (.newarray .int, 2, 10, 0) := by decide +kernel
theorem p119_197 {s0 s1 : Int} {q0 : MV} {ds : Ds} {m : Mm} {Q : Ds → Mm → List MV → Prop} : WP 119 197 [q0] [(0, s0), (2, s1)] ds m Q = (((0 ≤ s0 ∧ s0 ≤ 30000) ∧ WP 119 199 [q0] [(2, (ds.length : Int)), (2, s1)] (ds ++ [(10, s0.toNat)]) (al m (ds.length : Int) (dfl 10)) Q)) := P_gd k119_197 rfl
set_option maxRecDepth 20000 in
theorem k119_199 : mjCode 119 199 = some (.putfield 69, 3, 7, 21) := by decide +kernel
theorem p119_199 {s0 s1 : Int} {q0 : MV} {ds : Ds} {m : Mm} {Q : Ds → Mm → List MV → Prop} : WP 119 199 [q0] [(2, s0), (2, s1)] ds m Q = ((dk ds s1 = 7 ∧ WP 119 202 [q0] [] ds (up m s1 21 s0) Q)) := P_pf k119_199 rfl
set_option maxRecDepth 20000 in
theorem k119_202 : mjCode 119 202 = some (.aload_n 0, 1, 0, 0) := by decide +kernel
theorem p119_202 {l0 : Int} {ds : Ds} {m : Mm} {Q : Ds → Mm → List MV → Prop} : WP 119 202 [(2, l0)] [] ds m Q = (WP 119 203 [(2, l0)] [(2, l0)] ds m Q) := P_nx k119_202 rfl
set_option maxRecDepth 20000 in
theorem k119_203 : mjCode 119 203 = some (.sipush 520, 3, 0, 0) := by decide +kernel
theorem p119_203 {s0 : Int} {q0 : MV} {ds : Ds} {m : Mm} {Q : Ds → Mm → List MV → Prop} : WP 119 203 [q0] [(2, s0)] ds m Q = (WP 119 206 [q0] [(0, 520), (2, s0)] ds m Q) := P_nx k119_203 rfl
set_option maxRecDepth 20000 in
theorem k119_206 : mjCode 119 206 = some (.newarray .int, 2, 10, 0) := by decide +kernel
theorem p119_206 {s0 s1 : Int} {q0 : MV} {ds : Ds} {m : Mm} {Q : Ds → Mm → List MV → Prop} : WP 119 206 [q0] [(0, s0), (2, s1)] ds m Q = (((0 ≤ s0 ∧ s0 ≤ 30000) ∧ WP 119 208 [q0] [(2, (ds.length : Int)), (2, s1)] (ds ++ [(10, s0.toNat)]) (al m (ds.length : Int) (dfl 10)) Q)) := P_gd k119_206 rfl
set_option maxRecDepth 20000 in
theorem k119_208 : mjCode 119 208 = some (.putfield 72, 3, 7, 22) := by decide +kernel
theorem p119_208 {s0 s1 : Int} {q0 : MV} {ds : Ds} {m : Mm} {Q : Ds → Mm → List MV → Prop} : WP 119 208 [q0] [(2, s0), (2, s1)] ds m Q = ((dk ds s1 = 7 ∧ WP 119 211 [q0] [] ds (up m s1 22 s0) Q)) := P_pf k119_208 rfl
set_option maxRecDepth 20000 in
theorem k119_211 : mjCode 119 211 = some (.aload_n 0, 1, 0, 0) := by decide +kernel
theorem p119_211 {l0 : Int} {ds : Ds} {m : Mm} {Q : Ds → Mm → List MV → Prop} : WP 119 211 [(2, l0)] [] ds m Q = (WP 119 212 [(2, l0)] [(2, l0)] ds m Q) := P_nx k119_211 rfl
set_option maxRecDepth 20000 in
theorem k119_212 : mjCode 119 212 = some (.sipush 520, 3, 0, 0) := by decide +kernel
theorem p119_212 {s0 : Int} {q0 : MV} {ds : Ds} {m : Mm} {Q : Ds → Mm → List MV → Prop} : WP 119 212 [q0] [(2, s0)] ds m Q = (WP 119 215 [q0] [(0, 520), (2, s0)] ds m Q) := P_nx k119_212 rfl
set_option maxRecDepth 20000 in
theorem k119_215 : mjCode 119 215 = some (.newarray .int, 2, 10, 0) := by decide +kernel
theorem p119_215 {s0 s1 : Int} {q0 : MV} {ds : Ds} {m : Mm} {Q : Ds → Mm → List MV → Prop} : WP 119 215 [q0] [(0, s0), (2, s1)] ds m Q = (((0 ≤ s0 ∧ s0 ≤ 30000) ∧ WP 119 217 [q0] [(2, (ds.length : Int)), (2, s1)] (ds ++ [(10, s0.toNat)]) (al m (ds.length : Int) (dfl 10)) Q)) := P_gd k119_215 rfl
set_option maxRecDepth 20000 in
theorem k119_217 : mjCode 119 217 = some (.putfield 75, 3, 7, 23) := by decide +kernel
theorem p119_217 {s0 s1 : Int} {q0 : MV} {ds : Ds} {m : Mm} {Q : Ds → Mm → List MV → Prop} : WP 119 217 [q0] [(2, s0), (2, s1)] ds m Q = ((dk ds s1 = 7 ∧ WP 119 220 [q0] [] ds (up m s1 23 s0) Q)) := P_pf k119_217 rfl
set_option maxRecDepth 20000 in
theorem k119_220 : mjCode 119 220 = some (.aload_n 0, 1, 0, 0) := by decide +kernel
theorem p119_220 {l0 : Int} {ds : Ds} {m : Mm} {Q : Ds → Mm → List MV → Prop} : WP 119 220 [(2, l0)] [] ds m Q = (WP 119 221 [(2, l0)] [(2, l0)] ds m Q) := P_nx k119_220 rfl
set_option maxRecDepth 20000 in
theorem k119_221 : mjCode 119 221 = some (.bipush 96, 2, 0, 0) := by decide +kernel
theorem p119_221 {s0 : Int} {q0 : MV} {ds : Ds} {m : Mm} {Q : Ds → Mm → List MV → Prop} : WP 119 221 [q0] [(2, s0)] ds m Q = (WP 119 223 [q0] [(0, 96), (2, s0)] ds m Q) := P_nx k119_221 rfl
set_option maxRecDepth 20000 in
theorem k119_223 : mjCode 119 223 = some (.newarray .int, 2, 10, 0) := by decide +kernel
theorem p119_223 {s0 s1 : Int} {q0 : MV} {ds : Ds} {m : Mm} {Q : Ds → Mm → List MV → Prop} : WP 119 223 [q0] [(0, s0), (2, s1)] ds m Q = (((0 ≤ s0 ∧ s0 ≤ 30000) ∧ WP 119 225 [q0] [(2, (ds.length : Int)), (2, s1)] (ds ++ [(10, s0.toNat)]) (al m (ds.length : Int) (dfl 10)) Q)) := P_gd k119_223 rfl
set_option maxRecDepth 20000 in
theorem k119_225 : mjCode 119 225 = some (.putfield 78, 3, 7, 27) := by decide +kernel
theorem p119_225 {s0 s1 : Int} {q0 : MV} {ds : Ds} {m : Mm} {Q : Ds → Mm → List MV → Prop} : WP 119 225 [q0] [(2, s0), (2, s1)] ds m Q = ((dk ds s1 = 7 ∧ WP 119 228 [q0] [] ds (up m s1 27 s0) Q)) := P_pf k119_225 rfl
set_option maxRecDepth 20000 in
theorem k119_228 : mjCode 119 228 = some (.aload_n 0, 1, 0, 0) := by decide +kernel
theorem p119_228 {l0 : Int} {ds : Ds} {m : Mm} {Q : Ds → Mm → List MV → Prop} : WP 119 228 [(2, l0)] [] ds m Q = (WP 119 229 [(2, l0)] [(2, l0)] ds m Q) := P_nx k119_228 rfl
set_option maxRecDepth 20000 in
theorem k119_229 : mjCode 119 229 = some (.bipush 96, 2, 0, 0) := by decide +kernel
theorem p119_229 {s0 : Int} {q0 : MV} {ds : Ds} {m : Mm} {Q : Ds → Mm → List MV → Prop} : WP 119 229 [q0] [(2, s0)] ds m Q = (WP 119 231 [q0] [(0, 96), (2, s0)] ds m Q) := P_nx k119_229 rfl
set_option maxRecDepth 20000 in
theorem k119_231 : mjCode 119 231 = some (.newarray .boolean, 2, 11, 0) := by decide +kernel
theorem p119_231 {s0 s1 : Int} {q0 : MV} {ds : Ds} {m : Mm} {Q : Ds → Mm → List MV → Prop} : WP 119 231 [q0] [(0, s0), (2, s1)] ds m Q = (((0 ≤ s0 ∧ s0 ≤ 30000) ∧ WP 119 233 [q0] [(2, (ds.length : Int)), (2, s1)] (ds ++ [(11, s0.toNat)]) (al m (ds.length : Int) (dfl 11)) Q)) := P_gd k119_231 rfl
set_option maxRecDepth 20000 in
theorem k119_233 : mjCode 119 233 = some (.putfield 81, 3, 7, 28) := by decide +kernel
theorem p119_233 {s0 s1 : Int} {q0 : MV} {ds : Ds} {m : Mm} {Q : Ds → Mm → List MV → Prop} : WP 119 233 [q0] [(2, s0), (2, s1)] ds m Q = ((dk ds s1 = 7 ∧ WP 119 236 [q0] [] ds (up m s1 28 s0) Q)) := P_pf k119_233 rfl
set_option maxRecDepth 20000 in
theorem k119_236 : mjCode 119 236 = some (.aload_n 0, 1, 0, 0) := by decide +kernel
theorem p119_236 {l0 : Int} {ds : Ds} {m : Mm} {Q : Ds → Mm → List MV → Prop} : WP 119 236 [(2, l0)] [] ds m Q = (WP 119 237 [(2, l0)] [(2, l0)] ds m Q) := P_nx k119_236 rfl
set_option maxRecDepth 20000 in
theorem k119_237 : mjCode 119 237 = some (.bipush 96, 2, 0, 0) := by decide +kernel
theorem p119_237 {s0 : Int} {q0 : MV} {ds : Ds} {m : Mm} {Q : Ds → Mm → List MV → Prop} : WP 119 237 [q0] [(2, s0)] ds m Q = (WP 119 239 [q0] [(0, 96), (2, s0)] ds m Q) := P_nx k119_237 rfl
set_option maxRecDepth 20000 in
theorem k119_239 : mjCode 119 239 = some (.newarray .int, 2, 10, 0) := by decide +kernel
theorem p119_239 {s0 s1 : Int} {q0 : MV} {ds : Ds} {m : Mm} {Q : Ds → Mm → List MV → Prop} : WP 119 239 [q0] [(0, s0), (2, s1)] ds m Q = (((0 ≤ s0 ∧ s0 ≤ 30000) ∧ WP 119 241 [q0] [(2, (ds.length : Int)), (2, s1)] (ds ++ [(10, s0.toNat)]) (al m (ds.length : Int) (dfl 10)) Q)) := P_gd k119_239 rfl
set_option maxRecDepth 20000 in
theorem k119_241 : mjCode 119 241 = some (.putfield 84, 3, 7, 29) := by decide +kernel
theorem p119_241 {s0 s1 : Int} {q0 : MV} {ds : Ds} {m : Mm} {Q : Ds → Mm → List MV → Prop} : WP 119 241 [q0] [(2, s0), (2, s1)] ds m Q = ((dk ds s1 = 7 ∧ WP 119 244 [q0] [] ds (up m s1 29 s0) Q)) := P_pf k119_241 rfl
set_option maxRecDepth 20000 in
theorem k119_244 : mjCode 119 244 = some (.aload_n 0, 1, 0, 0) := by decide +kernel
theorem p119_244 {l0 : Int} {ds : Ds} {m : Mm} {Q : Ds → Mm → List MV → Prop} : WP 119 244 [(2, l0)] [] ds m Q = (WP 119 245 [(2, l0)] [(2, l0)] ds m Q) := P_nx k119_244 rfl
set_option maxRecDepth 20000 in
theorem k119_245 : mjCode 119 245 = some (.bipush 96, 2, 0, 0) := by decide +kernel
theorem p119_245 {s0 : Int} {q0 : MV} {ds : Ds} {m : Mm} {Q : Ds → Mm → List MV → Prop} : WP 119 245 [q0] [(2, s0)] ds m Q = (WP 119 247 [q0] [(0, 96), (2, s0)] ds m Q) := P_nx k119_245 rfl
set_option maxRecDepth 20000 in
theorem k119_247 : mjCode 119 247 = some (.newarray .int, 2, 10, 0) := by decide +kernel
theorem p119_247 {s0 s1 : Int} {q0 : MV} {ds : Ds} {m : Mm} {Q : Ds → Mm → List MV → Prop} : WP 119 247 [q0] [(0, s0), (2, s1)] ds m Q = (((0 ≤ s0 ∧ s0 ≤ 30000) ∧ WP 119 249 [q0] [(2, (ds.length : Int)), (2, s1)] (ds ++ [(10, s0.toNat)]) (al m (ds.length : Int) (dfl 10)) Q)) := P_gd k119_247 rfl
set_option maxRecDepth 20000 in
theorem k119_249 : mjCode 119 249 = some (.putfield 87, 3, 7, 31) := by decide +kernel
theorem p119_249 {s0 s1 : Int} {q0 : MV} {ds : Ds} {m : Mm} {Q : Ds → Mm → List MV → Prop} : WP 119 249 [q0] [(2, s0), (2, s1)] ds m Q = ((dk ds s1 = 7 ∧ WP 119 252 [q0] [] ds (up m s1 31 s0) Q)) := P_pf k119_249 rfl
set_option maxRecDepth 20000 in
theorem k119_252 : mjCode 119 252 = some (.aload_n 0, 1, 0, 0) := by decide +kernel
theorem p119_252 {l0 : Int} {ds : Ds} {m : Mm} {Q : Ds → Mm → List MV → Prop} : WP 119 252 [(2, l0)] [] ds m Q = (WP 119 253 [(2, l0)] [(2, l0)] ds m Q) := P_nx k119_252 rfl
set_option maxRecDepth 20000 in
theorem k119_253 : mjCode 119 253 = some (.bipush 96, 2, 0, 0) := by decide +kernel
theorem p119_253 {s0 : Int} {q0 : MV} {ds : Ds} {m : Mm} {Q : Ds → Mm → List MV → Prop} : WP 119 253 [q0] [(2, s0)] ds m Q = (WP 119 255 [q0] [(0, 96), (2, s0)] ds m Q) := P_nx k119_253 rfl
set_option maxRecDepth 20000 in
theorem k119_255 : mjCode 119 255 = some (.newarray .int, 2, 10, 0) := by decide +kernel
theorem p119_255 {s0 s1 : Int} {q0 : MV} {ds : Ds} {m : Mm} {Q : Ds → Mm → List MV → Prop} : WP 119 255 [q0] [(0, s0), (2, s1)] ds m Q = (((0 ≤ s0 ∧ s0 ≤ 30000) ∧ WP 119 257 [q0] [(2, (ds.length : Int)), (2, s1)] (ds ++ [(10, s0.toNat)]) (al m (ds.length : Int) (dfl 10)) Q)) := P_gd k119_255 rfl
set_option maxRecDepth 20000 in
theorem k119_257 : mjCode 119 257 = some (.putfield 90, 3, 7, 32) := by decide +kernel
theorem p119_257 {s0 s1 : Int} {q0 : MV} {ds : Ds} {m : Mm} {Q : Ds → Mm → List MV → Prop} : WP 119 257 [q0] [(2, s0), (2, s1)] ds m Q = ((dk ds s1 = 7 ∧ WP 119 260 [q0] [] ds (up m s1 32 s0) Q)) := P_pf k119_257 rfl
set_option maxRecDepth 20000 in
theorem k119_260 : mjCode 119 260 = some (.aload_n 0, 1, 0, 0) := by decide +kernel
theorem p119_260 {l0 : Int} {ds : Ds} {m : Mm} {Q : Ds → Mm → List MV → Prop} : WP 119 260 [(2, l0)] [] ds m Q = (WP 119 261 [(2, l0)] [(2, l0)] ds m Q) := P_nx k119_260 rfl
set_option maxRecDepth 20000 in
theorem k119_261 : mjCode 119 261 = some (.bipush 96, 2, 0, 0) := by decide +kernel
theorem p119_261 {s0 : Int} {q0 : MV} {ds : Ds} {m : Mm} {Q : Ds → Mm → List MV → Prop} : WP 119 261 [q0] [(2, s0)] ds m Q = (WP 119 263 [q0] [(0, 96), (2, s0)] ds m Q) := P_nx k119_261 rfl
set_option maxRecDepth 20000 in
theorem k119_263 : mjCode 119 263 = some (.newarray .int, 2, 10, 0) := by decide +kernel
theorem p119_263 {s0 s1 : Int} {q0 : MV} {ds : Ds} {m : Mm} {Q : Ds → Mm → List MV → Prop} : WP 119 263 [q0] [(0, s0), (2, s1)] ds m Q = (((0 ≤ s0 ∧ s0 ≤ 30000) ∧ WP 119 265 [q0] [(2, (ds.length : Int)), (2, s1)] (ds ++ [(10, s0.toNat)]) (al m (ds.length : Int) (dfl 10)) Q)) := P_gd k119_263 rfl
set_option maxRecDepth 20000 in
theorem k119_265 : mjCode 119 265 = some (.putfield 93, 3, 7, 33) := by decide +kernel
theorem p119_265 {s0 s1 : Int} {q0 : MV} {ds : Ds} {m : Mm} {Q : Ds → Mm → List MV → Prop} : WP 119 265 [q0] [(2, s0), (2, s1)] ds m Q = ((dk ds s1 = 7 ∧ WP 119 268 [q0] [] ds (up m s1 33 s0) Q)) := P_pf k119_265 rfl
set_option maxRecDepth 20000 in
theorem k119_268 : mjCode 119 268 = some (.aload_n 0, 1, 0, 0) := by decide +kernel
theorem p119_268 {l0 : Int} {ds : Ds} {m : Mm} {Q : Ds → Mm → List MV → Prop} : WP 119 268 [(2, l0)] [] ds m Q = (WP 119 269 [(2, l0)] [(2, l0)] ds m Q) := P_nx k119_268 rfl
set_option maxRecDepth 20000 in
theorem k119_269 : mjCode 119 269 = some (.bipush 96, 2, 0, 0) := by decide +kernel
theorem p119_269 {s0 : Int} {q0 : MV} {ds : Ds} {m : Mm} {Q : Ds → Mm → List MV → Prop} : WP 119 269 [q0] [(2, s0)] ds m Q = (WP 119 271 [q0] [(0, 96), (2, s0)] ds m Q) := P_nx k119_269 rfl
set_option maxRecDepth 20000 in
theorem k119_271 : mjCode 119 271 = some (.newarray .int, 2, 10, 0) := by decide +kernel
theorem p119_271 {s0 s1 : Int} {q0 : MV} {ds : Ds} {m : Mm} {Q : Ds → Mm → List MV → Prop} : WP 119 271 [q0] [(0, s0), (2, s1)] ds m Q = (((0 ≤ s0 ∧ s0 ≤ 30000) ∧ WP 119 273 [q0] [(2, (ds.length : Int)), (2, s1)] (ds ++ [(10, s0.toNat)]) (al m (ds.length : Int) (dfl 10)) Q)) := P_gd k119_271 rfl
set_option maxRecDepth 20000 in
theorem k119_273 : mjCode 119 273 = some (.putfield 96, 3, 7, 34) := by decide +kernel
theorem p119_273 {s0 s1 : Int} {q0 : MV} {ds : Ds} {m : Mm} {Q : Ds → Mm → List MV → Prop} : WP 119 273 [q0] [(2, s0), (2, s1)] ds m Q = ((dk ds s1 = 7 ∧ WP 119 276 [q0] [] ds (up m s1 34 s0) Q)) := P_pf k119_273 rfl
set_option maxRecDepth 20000 in
theorem k119_276 : mjCode 119 276 = some (.aload_n 0, 1, 0, 0) := by decide +kernel
theorem p119_276 {l0 : Int} {ds : Ds} {m : Mm} {Q : Ds → Mm → List MV → Prop} : WP 119 276 [(2, l0)] [] ds m Q = (WP 119 277 [(2, l0)] [(2, l0)] ds m Q) := P_nx k119_276 rfl
set_option maxRecDepth 20000 in
theorem k119_277 : mjCode 119 277 = some (.bipush 96, 2, 0, 0) := by decide +kernel
theorem p119_277 {s0 : Int} {q0 : MV} {ds : Ds} {m : Mm} {Q : Ds → Mm → List MV → Prop} : WP 119 277 [q0] [(2, s0)] ds m Q = (WP 119 279 [q0] [(0, 96), (2, s0)] ds m Q) := P_nx k119_277 rfl
set_option maxRecDepth 20000 in
theorem k119_279 : mjCode 119 279 = some (.newarray .boolean, 2, 11, 0) := by decide +kernel
theorem p119_279 {s0 s1 : Int} {q0 : MV} {ds : Ds} {m : Mm} {Q : Ds → Mm → List MV → Prop} : WP 119 279 [q0] [(0, s0), (2, s1)] ds m Q = (((0 ≤ s0 ∧ s0 ≤ 30000) ∧ WP 119 281 [q0] [(2, (ds.length : Int)), (2, s1)] (ds ++ [(11, s0.toNat)]) (al m (ds.length : Int) (dfl 11)) Q)) := P_gd k119_279 rfl
set_option maxRecDepth 20000 in
theorem k119_281 : mjCode 119 281 = some (.putfield 99, 3, 7, 35) := by decide +kernel
theorem p119_281 {s0 s1 : Int} {q0 : MV} {ds : Ds} {m : Mm} {Q : Ds → Mm → List MV → Prop} : WP 119 281 [q0] [(2, s0), (2, s1)] ds m Q = ((dk ds s1 = 7 ∧ WP 119 284 [q0] [] ds (up m s1 35 s0) Q)) := P_pf k119_281 rfl
set_option maxRecDepth 20000 in
theorem k119_284 : mjCode 119 284 = some (.aload_n 0, 1, 0, 0) := by decide +kernel
theorem p119_284 {l0 : Int} {ds : Ds} {m : Mm} {Q : Ds → Mm → List MV → Prop} : WP 119 284 [(2, l0)] [] ds m Q = (WP 119 285 [(2, l0)] [(2, l0)] ds m Q) := P_nx k119_284 rfl
set_option maxRecDepth 20000 in
theorem k119_285 : mjCode 119 285 = some (.bipush 18, 2, 0, 0) := by decide +kernel
theorem p119_285 {s0 : Int} {q0 : MV} {ds : Ds} {m : Mm} {Q : Ds → Mm → List MV → Prop} : WP 119 285 [q0] [(2, s0)] ds m Q = (WP 119 287 [q0] [(0, 18), (2, s0)] ds m Q) := P_nx k119_285 rfl
set_option maxRecDepth 20000 in
theorem k119_287 : mjCode 119 287 = some (.newarray .int, 2, 10, 0) := by decide +kernel
theorem p119_287 {s0 s1 : Int} {q0 : MV} {ds : Ds} {m : Mm} {Q : Ds → Mm → List MV → Prop} : WP 119 287 [q0] [(0, s0), (2, s1)] ds m Q = (((0 ≤ s0 ∧ s0 ≤ 30000) ∧ WP 119 289 [q0] [(2, (ds.length : Int)), (2, s1)] (ds ++ [(10, s0.toNat)]) (al m (ds.length : Int) (dfl 10)) Q)) := P_gd k119_287 rfl
set_option maxRecDepth 20000 in
theorem k119_289 : mjCode 119 289 = some (.putfield 102, 3, 7, 36) := by decide +kernel
theorem p119_289 {s0 s1 : Int} {q0 : MV} {ds : Ds} {m : Mm} {Q : Ds → Mm → List MV → Prop} : WP 119 289 [q0] [(2, s0), (2, s1)] ds m Q = ((dk ds s1 = 7 ∧ WP 119 292 [q0] [] ds (up m s1 36 s0) Q)) := P_pf k119_289 rfl
set_option maxRecDepth 20000 in
theorem k119_292 : mjCode 119 292 = some (.aload_n 0, 1, 0, 0) := by decide +kernel
theorem p119_292 {l0 : Int} {ds : Ds} {m : Mm} {Q : Ds → Mm → List MV → Prop} : WP 119 292 [(2, l0)] [] ds m Q = (WP 119 293 [(2, l0)] [(2, l0)] ds m Q) := P_nx k119_292 rfl
set_option maxRecDepth 20000 in
theorem k119_293 : mjCode 119 293 = some (.sipush 18000, 3, 0, 0) := by decide +kernel
theorem p119_293 {s0 : Int} {q0 : MV} {ds : Ds} {m : Mm} {Q : Ds → Mm → List MV → Prop} : WP 119 293 [q0] [(2, s0)] ds m Q = (WP 119 296 [q0] [(0, 18000), (2, s0)] ds m Q) := P_nx k119_293 rfl
set_option maxRecDepth 20000 in
theorem k119_296 : mjCode 119 296 = some (.newarray .int, 2, 10, 0) := by decide +kernel
theorem p119_296 {s0 s1 : Int} {q0 : MV} {ds : Ds} {m : Mm} {Q : Ds → Mm → List MV → Prop} : WP 119 296 [q0] [(0, s0), (2, s1)] ds m Q = (((0 ≤ s0 ∧ s0 ≤ 30000) ∧ WP 119 298 [q0] [(2, (ds.length : Int)), (2, s1)] (ds ++ [(10, s0.toNat)]) (al m (ds.length : Int) (dfl 10)) Q)) := P_gd k119_296 rfl
set_option maxRecDepth 20000 in
theorem k119_298 : mjCode 119 298 = some (.putfield 105, 3, 7, 37) := by decide +kernel
theorem p119_298 {s0 s1 : Int} {q0 : MV} {ds : Ds} {m : Mm} {Q : Ds → Mm → List MV → Prop} : WP 119 298 [q0] [(2, s0), (2, s1)] ds m Q = ((dk ds s1 = 7 ∧ WP 119 301 [q0] [] ds (up m s1 37 s0) Q)) := P_pf k119_298 rfl
set_option maxRecDepth 20000 in
theorem k119_301 : mjCode 119 301 = some (.aload_n 0, 1, 0, 0) := by decide +kernel
theorem p119_301 {l0 : Int} {ds : Ds} {m : Mm} {Q : Ds → Mm → List MV → Prop} : WP 119 301 [(2, l0)] [] ds m Q = (WP 119 302 [(2, l0)] [(2, l0)] ds m Q) := P_nx k119_301 rfl
set_option maxRecDepth 20000 in
theorem k119_302 : mjCode 119 302 = some (.sipush 288, 3, 0, 0) := by decide +kernel
theorem p119_302 {s0 : Int} {q0 : MV} {ds : Ds} {m : Mm} {Q : Ds → Mm → List MV → Prop} : WP 119 302 [q0] [(2, s0)] ds m Q = (WP 119 305 [q0] [(0, 288), (2, s0)] ds m Q) := P_nx k119_302 rfl
set_option maxRecDepth 20000 in
theorem k119_305 : mjCode 119 305 = some (.newarray .int, 2, 10, 0) := by decide +kernel
theorem p119_305 {s0 s1 : Int} {q0 : MV} {ds : Ds} {m : Mm} {Q : Ds → Mm → List MV → Prop} : WP 119 305 [q0] [(0, s0), (2, s1)] ds m Q = (((0 ≤ s0 ∧ s0 ≤ 30000) ∧ WP 119 307 [q0] [(2, (ds.length : Int)), (2, s1)] (ds ++ [(10, s0.toNat)]) (al m (ds.length : Int) (dfl 10)) Q)) := P_gd k119_305 rfl
set_option maxRecDepth 20000 in
theorem k119_307 : mjCode 119 307 = some (.putfield 108, 3, 7, 38) := by decide +kernel
theorem p119_307 {s0 s1 : Int} {q0 : MV} {ds : Ds} {m : Mm} {Q : Ds → Mm → List MV → Prop} : WP 119 307 [q0] [(2, s0), (2, s1)] ds m Q = ((dk ds s1 = 7 ∧ WP 119 310 [q0] [] ds (up m s1 38 s0) Q)) := P_pf k119_307 rfl
set_option maxRecDepth 20000 in
theorem k119_310 : mjCode 119 310 = some (.aload_n 0, 1, 0, 0) := by decide +kernel
theorem p119_310 {l0 : Int} {ds : Ds} {m : Mm} {Q : Ds → Mm → List MV → Prop} : WP 119 310 [(2, l0)] [] ds m Q = (WP 119 311 [(2, l0)] [(2, l0)] ds m Q) := P_nx k119_310 rfl
set_option maxRecDepth 20000 in
theorem k119_311 : mjCode 119 311 = some (.sipush 288, 3, 0, 0) := by decide +kernel
theorem p119_311 {s0 : Int} {q0 : MV} {ds : Ds} {m : Mm} {Q : Ds → Mm → List MV → Prop} : WP 119 311 [q0] [(2, s0)] ds m Q = (WP 119 314 [q0] [(0, 288), (2, s0)] ds m Q) := P_nx k119_311 rfl
set_option maxRecDepth 20000 in
theorem k119_314 : mjCode 119 314 = some (.newarray .int, 2, 10, 0) := by decide +kernel
theorem p119_314 {s0 s1 : Int} {q0 : MV} {ds : Ds} {m : Mm} {Q : Ds → Mm → List MV → Prop} : WP 119 314 [q0] [(0, s0), (2, s1)] ds m Q = (((0 ≤ s0 ∧ s0 ≤ 30000) ∧ WP 119 316 [q0] [(2, (ds.length : Int)), (2, s1)] (ds ++ [(10, s0.toNat)]) (al m (ds.length : Int) (dfl 10)) Q)) := P_gd k119_314 rfl
set_option maxRecDepth 20000 in
theorem k119_316 : mjCode 119 316 = some (.putfield 111, 3, 7, 39) := by decide +kernel
theorem p119_316 {s0 s1 : Int} {q0 : MV} {ds : Ds} {m : Mm} {Q : Ds → Mm → List MV → Prop} : WP 119 316 [q0] [(2, s0), (2, s1)] ds m Q = ((dk ds s1 = 7 ∧ WP 119 319 [q0] [] ds (up m s1 39 s0) Q)) := P_pf k119_316 rfl
set_option maxRecDepth 20000 in
theorem k119_319 : mjCode 119 319 = some (.aload_n 0, 1, 0, 0) := by decide +kernel
theorem p119_319 {l0 : Int} {ds : Ds} {m : Mm} {Q : Ds → Mm → List MV → Prop} : WP 119 319 [(2, l0)] [] ds m Q = (WP 119 320 [(2, l0)] [(2, l0)] ds m Q) := P_nx k119_319 rfl
set_option maxRecDepth 20000 in
theorem k119_320 : mjCode 119 320 = some (.sipush 288, 3, 0, 0) := by decide +kernel
theorem p119_320 {s0 : Int} {q0 : MV} {ds : Ds} {m : Mm} {Q : Ds → Mm → List MV → Prop} : WP 119 320 [q0] [(2, s0)] ds m Q = (WP 119 323 [q0] [(0, 288), (2, s0)] ds m Q) := P_nx k119_320 rfl
set_option maxRecDepth 20000 in
theorem k119_323 : mjCode 119 323 = some (.newarray .int, 2, 10, 0) := by decide +kernel
theorem p119_323 {s0 s1 : Int} {q0 : MV} {ds : Ds} {m : Mm} {Q : Ds → Mm → List MV → Prop} : WP 119 323 [q0] [(0, s0), (2, s1)] ds m Q = (((0 ≤ s0 ∧ s0 ≤ 30000) ∧ WP 119 325 [q0] [(2, (ds.length : Int)), (2, s1)] (ds ++ [(10, s0.toNat)]) (al m (ds.length : Int) (dfl 10)) Q)) := P_gd k119_323 rfl
set_option maxRecDepth 20000 in
theorem k119_325 : mjCode 119 325 = some (.putfield 114, 3, 7, 40) := by decide +kernel
theorem p119_325 {s0 s1 : Int} {q0 : MV} {ds : Ds} {m : Mm} {Q : Ds → Mm → List MV → Prop} : WP 119 325 [q0] [(2, s0), (2, s1)] ds m Q = ((dk ds s1 = 7 ∧ WP 119 328 [q0] [] ds (up m s1 40 s0) Q)) := P_pf k119_325 rfl
set_option maxRecDepth 20000 in
theorem k119_328 : mjCode 119 328 = some (.aload_n 0, 1, 0, 0) := by decide +kernel
theorem p119_328 {l0 : Int} {ds : Ds} {m : Mm} {Q : Ds → Mm → List MV → Prop} : WP 119 328 [(2, l0)] [] ds m Q = (WP 119 329 [(2, l0)] [(2, l0)] ds m Q) := P_nx k119_328 rfl
set_option maxRecDepth 20000 in
theorem k119_329 : mjCode 119 329 = some (.sipush 288, 3, 0, 0) := by decide +kernel
theorem p119_329 {s0 : Int} {q0 : MV} {ds : Ds} {m : Mm} {Q : Ds → Mm → List MV → Prop} : WP 119 329 [q0] [(2, s0)] ds m Q = (WP 119 332 [q0] [(0, 288), (2, s0)] ds m Q) := P_nx k119_329 rfl
set_option maxRecDepth 20000 in
theorem k119_332 : mjCode 119 332 = some (.newarray .int, 2, 10, 0) := by decide +kernel
theorem p119_332 {s0 s1 : Int} {q0 : MV} {ds : Ds} {m : Mm} {Q : Ds → Mm → List MV → Prop} : WP 119 332 [q0] [(0, s0), (2, s1)] ds m Q = (((0 ≤ s0 ∧ s0 ≤ 30000) ∧ WP 119 334 [q0] [(2, (ds.length : Int)), (2, s1)] (ds ++ [(10, s0.toNat)]) (al m (ds.length : Int) (dfl 10)) Q)) := P_gd k119_332 rfl
set_option maxRecDepth 20000 in
theorem k119_334 : mjCode 119 334 = some (.putfield 117, 3, 7, 41) := by decide +kernel
theorem p119_334 {s0 s1 : Int} {q0 : MV} {ds : Ds} {m : Mm} {Q : Ds → Mm → List MV → Prop} : WP 119 334 [q0] [(2, s0), (2, s1)] ds m Q = ((dk ds s1 = 7 ∧ WP 119 337 [q0] [] ds (up m s1 41 s0) Q)) := P_pf k119_334 rfl
set_option maxRecDepth 20000 in
theorem k119_337 : mjCode 119 337 = some (.aload_n 0, 1, 0, 0) := by decide +kernel
theorem p119_337 {l0 : Int} {ds : Ds} {m : Mm} {Q : Ds → Mm → List MV → Prop} : WP 119 337 [(2, l0)] [] ds m Q = (WP 119 338 [(2, l0)] [(2, l0)] ds m Q) := P_nx k119_337 rfl
set_option maxRecDepth 20000 in
theorem k119_338 : mjCode 119 338 = some (.bipush 96, 2, 0, 0) := by decide +kernel
theorem p119_338 {s0 : Int} {q0 : MV} {ds : Ds} {m : Mm} {Q : Ds → Mm → List MV → Prop} : WP 119 338 [q0] [(2, s0)] ds m Q = (WP 119 340 [q0] [(0, 96), (2, s0)] ds m Q) := P_nx k119_338 rfl
set_option maxRecDepth 20000 in
theorem k119_340 : mjCode 119 340 = some (.newarray .boolean, 2, 11, 0) := by decide +kernel
theorem p119_340 {s0 s1 : Int} {q0 : MV} {ds : Ds} {m : Mm} {Q : Ds → Mm → List MV → Prop} : WP 119 340 [q0] [(0, s0), (2, s1)] ds m Q = (((0 ≤ s0 ∧ s0 ≤ 30000) ∧ WP 119 342 [q0] [(2, (ds.length : Int)), (2, s1)] (ds ++ [(11, s0.toNat)]) (al m (ds.length : Int) (dfl 11)) Q)) := P_gd k119_340 rfl
set_option maxRecDepth 20000 in
theorem k119_342 : mjCode 119 342 = some (.putfield 120, 3, 7, 42) := by decide +kernel
theorem p119_342 {s0 s1 : Int} {q0 : MV} {ds : Ds} {m : Mm} {Q : Ds → Mm → List MV → Prop} : WP 119 342 [q0] [(2, s0), (2, s1)] ds m Q = ((dk ds s1 = 7 ∧ WP 119 345 [q0] [] ds (up m s1 42 s0) Q)) := P_pf k119_342 rfl
set_option maxRecDepth 20000 in
theorem k119_345 : mjCode 119 345 = some (.aload_n 0, 1, 0, 0) := by decide +kernel
theorem p119_345 {l0 : Int} {ds : Ds} {m : Mm} {Q : Ds → Mm → List MV → Prop} : WP 119 345 [(2, l0)] [] ds m Q = (WP 119 346 [(2, l0)] [(2, l0)] ds m Q) := P_nx k119_345 rfl
set_option maxRecDepth 20000 in
theorem k119_346 : mjCode 119 346 = some (.bipush 96, 2, 0, 0) := by decide +kernel
theorem p119_346 {s0 : Int} {q0 : MV} {ds : Ds} {m : Mm} {Q : Ds → Mm → List MV → Prop} : WP 119 346 [q0] [(2, s0)] ds m Q = (WP 119 348 [q0] [(0, 96), (2, s0)] ds m Q) := P_nx k119_346 rfl
set_option maxRecDepth 20000 in
theorem k119_348 : mjCode 119 348 = some (.newarray .boolean, 2, 11, 0) := by decide +kernel
theorem p119_348 {s0 s1 : Int} {q0 : MV} {ds : Ds} {m : Mm} {Q : Ds → Mm → List MV → Prop} : WP 119 348 [q0] [(0, s0), (2, s1)] ds m Q = (((0 ≤ s0 ∧ s0 ≤ 30000) ∧ WP 119 350 [q0] [(2, (ds.length : Int)), (2, s1)] (ds ++ [(11, s0.toNat)]) (al m (ds.length : Int) (dfl 11)) Q)) := P_gd k119_348 rfl
set_option maxRecDepth 20000 in
theorem k119_350 : mjCode 119 350 = some (.putfield 123, 3, 7, 43) := by decide +kernel
theorem p119_350 {s0 s1 : Int} {q0 : MV} {ds : Ds} {m : Mm} {Q : Ds → Mm → List MV → Prop} : WP 119 350 [q0] [(2, s0), (2, s1)] ds m Q = ((dk ds s1 = 7 ∧ WP 119 353 [q0] [] ds (up m s1 43 s0) Q)) := P_pf k119_350 rfl
set_option maxRecDepth 20000 in
theorem k119_353 : mjCode 119 353 = some (.aload_n 0, 1, 0, 0) := by decide +kernel
theorem p119_353 {l0 : Int} {ds : Ds} {m : Mm} {Q : Ds → Mm → List MV → Prop} : WP 119 353 [(2, l0)] [] ds m Q = (WP 119 354 [(2, l0)] [(2, l0)] ds m Q) := P_nx k119_353 rfl
set_option maxRecDepth 20000 in
theorem k119_354 : mjCode 119 354 = some (.sipush 288, 3, 0, 0) := by decide +kernel
theorem p119_354 {s0 : Int} {q0 : MV} {ds : Ds} {m : Mm} {Q : Ds → Mm → List MV → Prop} : WP 119 354 [q0] [(2, s0)] ds m Q = (WP 119 357 [q0] [(0, 288), (2, s0)] ds m Q) := P_nx k119_354 rfl
set_option maxRecDepth 20000 in
theorem k119_357 : mjCode 119 357 = some (.newarray .boolean, 2, 11, 0) := by decide +kernel
theorem p119_357 {s0 s1 : Int} {q0 : MV} {ds : Ds} {m : Mm} {Q : Ds → Mm → List MV → Prop} : WP 119 357 [q0] [(0, s0), (2, s1)] ds m Q = (((0 ≤ s0 ∧ s0 ≤ 30000) ∧ WP 119 359 [q0] [(2, (ds.length : Int)), (2, s1)] (ds ++ [(11, s0.toNat)]) (al m (ds.length : Int) (dfl 11)) Q)) := P_gd k119_357 rfl
set_option maxRecDepth 20000 in
theorem k119_359 : mjCode 119 359 = some (.putfield 126, 3, 7, 44) := by decide +kernel
theorem p119_359 {s0 s1 : Int} {q0 : MV} {ds : Ds} {m : Mm} {Q : Ds → Mm → List MV → Prop} : WP 119 359 [q0] [(2, s0), (2, s1)] ds m Q = ((dk ds s1 = 7 ∧ WP 119 362 [q0] [] ds (up m s1 44 s0) Q)) := P_pf k119_359 rfl
set_option maxRecDepth 20000 in
theorem k119_362 : mjCode 119 362 = some (.aload_n 0, 1, 0, 0) := by decide +kernel
theorem p119_362 {l0 : Int} {ds : Ds} {m : Mm} {Q : Ds → Mm → List MV → Prop} : WP 119 362 [(2, l0)] [] ds m Q = (WP 119 363 [(2, l0)] [(2, l0)] ds m Q) := P_nx k119_362 rfl
set_option maxRecDepth 20000 in
theorem k119_363 : mjCode 119 363 = some (.sipush 384, 3, 0, 0) := by decide +kernel
theorem p119_363 {s0 : Int} {q0 : MV} {ds : Ds} {m : Mm} {Q : Ds → Mm → List MV → Prop} : WP 119 363 [q0] [(2, s0)] ds m Q = (WP 119 366 [q0] [(0, 384), (2, s0)] ds m Q) := P_nx k119_363 rfl
set_option maxRecDepth 20000 in
theorem k119_366 : mjCode 119 366 = some (.newarray .int, 2, 10, 0) := by decide +kernel
theorem p119_366 {s0 s1 : Int} {q0 : MV} {ds : Ds} {m : Mm} {Q : Ds → Mm → List MV → Prop} : WP 119 366 [q0] [(0, s0), (2, s1)] ds m Q = (((0 ≤ s0 ∧ s0 ≤ 30000) ∧ WP 119 368 [q0] [(2, (ds.length : Int)), (2, s1)] (ds ++ [(10, s0.toNat)]) (al m (ds.length : Int) (dfl 10)) Q)) := P_gd k119_366 rfl
set_option maxRecDepth 20000 in
theorem k119_368 : mjCode 119 368 = some (.putfield 129, 3, 7, 46) := by decide +kernel
theorem p119_368 {s0 s1 : Int} {q0 : MV} {ds : Ds} {m : Mm} {Q : Ds → Mm → List MV → Prop} : WP 119 368 [q0] [(2, s0), (2, s1)] ds m Q = ((dk ds s1 = 7 ∧ WP 119 371 [q0] [] ds (up m s1 46 s0) Q)) := P_pf k119_368 rfl
set_option maxRecDepth 20000 in
theorem k119_371 : mjCode 119 371 = some (.aload_n 0, 1, 0, 0) := by decide +kernel
theorem p119_371 {l0 : Int} {ds : Ds} {m : Mm} {Q : Ds → Mm → List MV → Prop} : WP 119 371 [(2, l0)] [] ds m Q = (WP 119 372 [(2, l0)] [(2, l0)] ds m Q) := P_nx k119_371 rfl
set_option maxRecDepth 20000 in
theorem k119_372 : mjCode 119 372 = some (.bipush 64, 2, 0, 0) := by decide +kernel
theorem p119_372 {s0 : Int} {q0 : MV} {ds : Ds} {m : Mm} {Q : Ds → Mm → List MV → Prop} : WP 119 372 [q0] [(2, s0)] ds m Q = (WP 119 374 [q0] [(0, 64), (2, s0)] ds m Q) := P_nx k119_372 rfl
set_option maxRecDepth 20000 in
theorem k119_374 : mjCode 119 374 = some (.newarray .int, 2, 10, 0) := by decide +kernel
theorem p119_374 {s0 s1 : Int} {q0 : MV} {ds : Ds} {m : Mm} {Q : Ds → Mm → List MV → Prop} : WP 119 374 [q0] [(0, s0), (2, s1)] ds m Q = (((0 ≤ s0 ∧ s0 ≤ 30000) ∧ WP 119 376 [q0] [(2, (ds.length : Int)), (2, s1)] (ds ++ [(10, s0.toNat)]) (al m (ds.length : Int) (dfl 10)) Q)) := P_gd k119_374 rfl
set_option maxRecDepth 20000 in
theorem k119_376 : mjCode 119 376 = some (.putfield 132, 3, 7, 48) := by decide +kernel
theorem p119_376 {s0 s1 : Int} {q0 : MV} {ds : Ds} {m : Mm} {Q : Ds → Mm → List MV → Prop} : WP 119 376 [q0] [(2, s0), (2, s1)] ds m Q = ((dk ds s1 = 7 ∧ WP 119 379 [q0] [] ds (up m s1 48 s0) Q)) := P_pf k119_376 rfl
set_option maxRecDepth 20000 in
theorem k119_379 : mjCode 119 379 = some (.aload_n 0, 1, 0, 0) := by decide +kernel
theorem p119_379 {l0 : Int} {ds : Ds} {m : Mm} {Q : Ds → Mm → List MV → Prop} : WP 119 379 [(2, l0)] [] ds m Q = (WP 119 380 [(2, l0)] [(2, l0)] ds m Q) := P_nx k119_379 rfl
set_option maxRecDepth 20000 in
theorem k119_380 : mjCode 119 380 = some (.iconst 2, 1, 0, 0) := by decide +kernel
theorem p119_380 {s0 : Int} {q0 : MV} {ds : Ds} {m : Mm} {Q : Ds → Mm → List MV → Prop} : WP 119 380 [q0] [(2, s0)] ds m Q = (WP 119 381 [q0] [(0, 2), (2, s0)] ds m Q) := P_nx k119_380 rfl
set_option maxRecDepth 20000 in
theorem k119_381 : mjCode 119 381 = some (.newarray .int, 2, 10, 0) := by decide +kernel
theorem p119_381 {s0 s1 : Int} {q0 : MV} {ds : Ds} {m : Mm} {Q : Ds → Mm → List MV → Prop} : WP 119 381 [q0] [(0, s0), (2, s1)] ds m Q = (((0 ≤ s0 ∧ s0 ≤ 30000) ∧ WP 119 383 [q0] [(2, (ds.length : Int)), (2, s1)] (ds ++ [(10, s0.toNat)]) (al m (ds.length : Int) (dfl 10)) Q)) := P_gd k119_381 rfl
set_option maxRecDepth 20000 in
theorem k119_383 : mjCode 119 383 = some (.putfield 135, 3, 7, 50) := by decide +kernel
theorem p119_383 {s0 s1 : Int} {q0 : MV} {ds : Ds} {m : Mm} {Q : Ds → Mm → List MV → Prop} : WP 119 383 [q0] [(2, s0), (2, s1)] ds m Q = ((dk ds s1 = 7 ∧ WP 119 386 [q0] [] ds (up m s1 50 s0) Q)) := P_pf k119_383 rfl
set_option maxRecDepth 20000 in
theorem k119_386 : mjCode 119 386 = some (.aload_n 0, 1, 0, 0) := by decide +kernel
theorem p119_386 {l0 : Int} {ds : Ds} {m : Mm} {Q : Ds → Mm → List MV → Prop} : WP 119 386 [(2, l0)] [] ds m Q = (WP 119 387 [(2, l0)] [(2, l0)] ds m Q) := P_nx k119_386 rfl
set_option maxRecDepth 20000 in
theorem k119_387 : mjCode 119 387 = some (.bipush 96, 2, 0, 0) := by decide +kernel
theorem p119_387 {s0 : Int} {q0 : MV} {ds : Ds} {m : Mm} {Q : Ds → Mm → List MV → Prop} : WP 119 387 [q0] [(2, s0)] ds m Q = (WP 119 389 [q0] [(0, 96), (2, s0)] ds m Q) := P_nx k119_387 rfl
set_option maxRecDepth 20000 in
theorem k119_389 : mjCode 119 389 = some (.newarray .boolean, 2, 11, 0) := by decide +kernel
theorem p119_389 {s0 s1 : Int} {q0 : MV} {ds : Ds} {m : Mm} {Q : Ds → Mm → List MV → Prop} : WP 119 389 [q0] [(0, s0), (2, s1)] ds m Q = (((0 ≤ s0 ∧ s0 ≤ 30000) ∧ WP 119 391 [q0] [(2, (ds.length : Int)), (2, s1)] (ds ++ [(11, s0.toNat)]) (al m (ds.length : Int) (dfl 11)) Q)) := P_gd k119_389 rfl
set_option maxRecDepth 20000 in
theorem k119_391 : mjCode 119 391 = some (.putfield 138, 3, 7, 52) := by decide +kernel
theorem p119_391 {s0 s1 : Int} {q0 : MV} {ds : Ds} {m : Mm} {Q : Ds → Mm → List MV → Prop} : WP 119 391 [q0] [(2, s0), (2, s1)] ds m Q = ((dk ds s1 = 7 ∧ WP 119 394 [q0] [] ds (up m s1 52 s0) Q)) := P_pf k119_391 rfl
set_option maxRecDepth 20000 in
theorem k119_394 : mjCode 119 394 = some (.return_, 1, 0, 0) := by decide +kernel
theorem p119_394 {q0 : MV} {ds : Ds} {m : Mm} {Q : Ds → Mm → List MV → Prop} : WP 119 394 [q0] [] ds m Q = (Q ds m []) := P_rv k119_394 rk119
set_option maxRecDepth 20000 in
theorem k120_0 : mjCode 120 0 = some (.iload_n 0, 1, 0, 0) := by decide +kernel
theorem p120_0 {l0 : Int} {q1 q2 : MV} {ds : Ds} {m : Mm} {Q : Ds → Mm → List MV → Prop} : WP 120 0 [(0, l0), q1, q2] [] ds m Q = (WP 120 1 [(0, l0), q1, q2] [(0, l0)] ds m Q) := P_nx k120_0 rfl
set_option maxRecDepth 20000 in
theorem k120_1 : mjCode 120 1 = some (.iload_n 1, 1, 0, 0) := by decide +kernel
theorem p120_1 {l1 s0 : Int} {q0 q2 : MV} {ds : Ds} {m : Mm} {Q : Ds → Mm → List MV → Prop} : WP 120 1 [q0, (0, l1), q2] [(0, s0)] ds m Q = (WP 120 2 [q0, (0, l1), q2] [(0, l1), (0, s0)] ds m Q) := P_nx k120_1 rfl
set_option maxRecDepth 20000 in
theorem k120_2 : mjCode 120 2 = some (.if_icmp .lt 12, 3, 14, 0) := by decide +kernel
theorem p120_2 {s0 s1 : Int} {q0 q1 q2 : MV} {ds : Ds} {m : Mm} {Q : Ds → Mm → List MV → Prop} : WP 120 2 [q0, q1, q2] [(0, s0), (0, s1)] ds m Q = (if s1 < s0 then WP 120 14 [q0, q1, q2] [] ds m Q else WP 120 5 [q0, q1, q2] [] ds m Q) := P_if k120_2 rfl
set_option maxRecDepth 20000 in
theorem k120_5 : mjCode 120 5 = some (.iload_n 0, 1, 0, 0) := by decide +kernel
theorem p120_5 {l0 : Int} {q1 q2 : MV} {ds : Ds} {m : Mm} {Q : Ds → Mm → List MV → Prop} : WP 120 5 [(0, l0), q1, q2] [] ds m Q = (WP 120 6 [(0, l0), q1, q2] [(0, l0)] ds m Q) := P_nx k120_5 rfl
set_option maxRecDepth 20000 in
theorem k120_6 : mjCode 120 6 = some (.iload_n 2, 1, 0, 0) := by decide +kernel
theorem p120_6 {l2 s0 : Int} {q0 q1 : MV} {ds : Ds} {m : Mm} {Q : Ds → Mm → List MV → Prop} : WP 120 6 [q0, q1, (0, l2)] [(0, s0)] ds m Q = (WP 120 7 [q0, q1, (0, l2)] [(0, l2), (0, s0)] ds m Q) := P_nx k120_6 rfl
set_option maxRecDepth 20000 in
theorem k120_7 : mjCode 120 7 = some (.if_icmp .gt 7, 3, 14, 0) := by decide +kernel
theorem p120_7 {s0 s1 : Int} {q0 q1 q2 : MV} {ds : Ds} {m : Mm} {Q : Ds → Mm → List MV → Prop} : WP 120 7 [q0, q1, q2] [(0, s0), (0, s1)] ds m Q = (if s0 < s1 then WP 120 14 [q0, q1, q2] [] ds m Q else WP 120 10 [q0, q1, q2] [] ds m Q) := P_if k120_7 rfl
set_option maxRecDepth 20000 in
theorem k120_10 : mjCode 120 10 = some (.iconst 1, 1, 0, 0) := by decide +kernel
theorem p120_10 {q0 q1 q2 : MV} {ds : Ds} {m : Mm} {Q : Ds → Mm → List MV → Prop} : WP 120 10 [q0, q1, q2] [] ds m Q = (WP 120 11 [q0, q1, q2] [(0, 1)] ds m Q) := P_nx k120_10 rfl
set_option maxRecDepth 20000 in
theorem k120_11 : mjCode 120 11 = some (.goto 4, 3, 15, 0) := by decide +kernel
theorem p120_11 {s0 : Int} {q0 q1 q2 : MV} {ds : Ds} {m : Mm} {Q : Ds → Mm → List MV → Prop} : WP 120 11 [q0, q1, q2] [(0, s0)] ds m Q = (WP 120 15 [q0, q1, q2] [(0, s0)] ds m Q) := P_nx k120_11 rfl
set_option maxRecDepth 20000 in
theorem k120_14 : mjCode 120 14 = some (.iconst 0, 1, 0, 0) := by decide +kernel
theorem p120_14 {q0 q1 q2 : MV} {ds : Ds} {m : Mm} {Q : Ds → Mm → List MV → Prop} : WP 120 14 [q0, q1, q2] [] ds m Q = (WP 120 15 [q0, q1, q2] [(0, 0)] ds m Q) := P_nx k120_14 rfl
set_option maxRecDepth 20000 in
theorem k120_15 : mjCode 120 15 = some (.ireturn, 1, 0, 0) := by decide +kernel
theorem p120_15 {s0 : Int} {q0 q1 q2 : MV} {ds : Ds} {m : Mm} {Q : Ds → Mm → List MV → Prop} : WP 120 15 [q0, q1, q2] [(0, s0)] ds m Q = (((s0 = 0 ∨ s0 = 1) ∧ Q ds m [(0, s0)])) := P_rb k120_15 rk120
