/-! the steps, entry by entry -/
set_option maxRecDepth 20000 in
theorem k121_0 : mjCode 121 0 = some (.aload_n 0, 1, 0, 0) := by decide +kernel
theorem p121_0 {l0 : Int} {q1 : MV} {ds : Ds} {m : Mm} {Q : Ds → Mm → List MV → Prop} : WP 121 0 [(2, l0), q1] [] ds m Q = (WP 121 1 [(2, l0), q1] [(2, l0)] ds m Q) := P_nx k121_0 rfl
set_option maxRecDepth 20000 in
theorem k121_1 : mjCode 121 1 = some (.getfield 7, 3, 7, 0) := by decide +kernel
theorem p121_1 {s0 : Int} {q0 q1 : MV} {ds : Ds} {m : Mm} {Q : Ds → Mm → List MV → Prop} : WP 121 1 [q0, q1] [(2, s0)] ds m Q = ((dk ds s0 = 7 ∧ WP 121 4 [q0, q1] [(2, m s0 0)] ds m Q)) := P_gd k121_1 rfl
set_option maxRecDepth 20000 in
theorem k121_4 : mjCode 121 4 = some (.iload_n 1, 1, 0, 0) := by decide +kernel
theorem p121_4 {l1 s0 : Int} {q0 : MV} {ds : Ds} {m : Mm} {Q : Ds → Mm → List MV → Prop} : WP 121 4 [q0, (0, l1)] [(2, s0)] ds m Q = (WP 121 5 [q0, (0, l1)] [(0, l1), (2, s0)] ds m Q) := P_nx k121_4 rfl
set_option maxRecDepth 20000 in
theorem k121_5 : mjCode 121 5 = some (.ineg, 1, 0, 0) := by decide +kernel
theorem p121_5 {s0 s1 : Int} {q0 q1 : MV} {ds : Ds} {m : Mm} {Q : Ds → Mm → List MV → Prop} : WP 121 5 [q0, q1] [(0, s0), (2, s1)] ds m Q = (WP 121 6 [q0, q1] [(0, w32 (-s0)), (2, s1)] ds m Q) := P_nx k121_5 rfl
set_option maxRecDepth 20000 in
theorem k121_6 : mjCode 121 6 = some (.dup2, 1, 0, 0) := by decide +kernel
theorem p121_6 {s0 s1 : Int} {q0 q1 : MV} {ds : Ds} {m : Mm} {Q : Ds → Mm → List MV → Prop} : WP 121 6 [q0, q1] [(0, s0), (2, s1)] ds m Q = (WP 121 7 [q0, q1] [(0, s0), (2, s1), (0, s0), (2, s1)] ds m Q) := P_nx k121_6 rfl
set_option maxRecDepth 20000 in
theorem k121_7 : mjCode 121 7 = some (.iaload, 1, 0, 0) := by decide +kernel
theorem p121_7 {s0 s1 s2 s3 : Int} {q0 q1 : MV} {ds : Ds} {m : Mm} {Q : Ds → Mm → List MV → Prop} : WP 121 7 [q0, q1] [(0, s0), (2, s1), (0, s2), (2, s3)] ds m Q = ((dk ds s1 = 10 ∧ 0 ≤ s0 ∧ s0 < dl ds s1 ∧ WP 121 8 [q0, q1] [(0, m s1 s0), (0, s2), (2, s3)] ds m Q)) := P_g3 k121_7 rfl
set_option maxRecDepth 20000 in
theorem k121_8 : mjCode 121 8 = some (.iconst 1, 1, 0, 0) := by decide +kernel
theorem p121_8 {s0 s1 s2 : Int} {q0 q1 : MV} {ds : Ds} {m : Mm} {Q : Ds → Mm → List MV → Prop} : WP 121 8 [q0, q1] [(0, s0), (0, s1), (2, s2)] ds m Q = (WP 121 9 [q0, q1] [(0, 1), (0, s0), (0, s1), (2, s2)] ds m Q) := P_nx k121_8 rfl
set_option maxRecDepth 20000 in
theorem k121_9 : mjCode 121 9 = some (.iadd, 1, 0, 0) := by decide +kernel
theorem p121_9 {s0 s1 s2 s3 : Int} {q0 q1 : MV} {ds : Ds} {m : Mm} {Q : Ds → Mm → List MV → Prop} : WP 121 9 [q0, q1] [(0, s0), (0, s1), (0, s2), (2, s3)] ds m Q = (WP 121 10 [q0, q1] [(0, w32 (s1 + s0)), (0, s2), (2, s3)] ds m Q) := P_nx k121_9 rfl
set_option maxRecDepth 20000 in
theorem k121_10 : mjCode 121 10 = some (.iastore, 1, 0, 0) := by decide +kernel
theorem p121_10 {s0 s1 s2 : Int} {q0 q1 : MV} {ds : Ds} {m : Mm} {Q : Ds → Mm → List MV → Prop} : WP 121 10 [q0, q1] [(0, s0), (0, s1), (2, s2)] ds m Q = ((dk ds s2 = 10 ∧ 0 ≤ s1 ∧ s1 < dl ds s2 ∧ WP 121 11 [q0, q1] [] ds (up m s2 s1 s0) Q)) := P_s3 k121_10 rfl
set_option maxRecDepth 20000 in
theorem k121_11 : mjCode 121 11 = some (.iload_n 1, 1, 0, 0) := by decide +kernel
theorem p121_11 {l1 : Int} {q0 : MV} {ds : Ds} {m : Mm} {Q : Ds → Mm → List MV → Prop} : WP 121 11 [q0, (0, l1)] [] ds m Q = (WP 121 12 [q0, (0, l1)] [(0, l1)] ds m Q) := P_nx k121_11 rfl
set_option maxRecDepth 20000 in
theorem k121_12 : mjCode 121 12 = some (.ireturn, 1, 0, 0) := by decide +kernel
theorem p121_12 {s0 : Int} {q0 q1 : MV} {ds : Ds} {m : Mm} {Q : Ds → Mm → List MV → Prop} : WP 121 12 [q0, q1] [(0, s0)] ds m Q = (Q ds m [(0, s0)]) := P_ri k121_12 rk121
set_option maxRecDepth 20000 in
theorem k122_0 : mjCode 122 0 = some (.iload_n 0, 1, 0, 0) := by decide +kernel
theorem p122_0 {l0 : Int} {ds : Ds} {m : Mm} {Q : Ds → Mm → List MV → Prop} : WP 122 0 [(0, l0)] [] ds m Q = (WP 122 1 [(0, l0)] [(0, l0)] ds m Q) := P_nx k122_0 rfl
set_option maxRecDepth 20000 in
theorem k122_1 : mjCode 122 1 = some (.iconst 0, 1, 0, 0) := by decide +kernel
theorem p122_1 {s0 : Int} {q0 : MV} {ds : Ds} {m : Mm} {Q : Ds → Mm → List MV → Prop} : WP 122 1 [q0] [(0, s0)] ds m Q = (WP 122 2 [q0] [(0, 0), (0, s0)] ds m Q) := P_nx k122_1 rfl
set_option maxRecDepth 20000 in
theorem k122_2 : mjCode 122 2 = some (.bipush 95, 2, 0, 0) := by decide +kernel
theorem p122_2 {s0 s1 : Int} {q0 : MV} {ds : Ds} {m : Mm} {Q : Ds → Mm → List MV → Prop} : WP 122 2 [q0] [(0, s0), (0, s1)] ds m Q = (WP 122 4 [q0] [(0, 95), (0, s0), (0, s1)] ds m Q) := P_nx k122_2 rfl
set_option maxRecDepth 20000 in
theorem k122_4 : mjCode 122 4 = some (.invokestatic 141, 3, 121, 3) := by decide +kernel
theorem p122_4 {s0 s1 s2 : Int} {q0 : MV} {ds : Ds} {m : Mm} {Q : Ds → Mm → List MV → Prop} : WP 122 4 [q0] [(0, s0), (0, s1), (0, s2)] ds m Q = (WP 120 0 [(0, s2), (0, s1), (0, s0)] [] ds m (fun d2 m2 r2 => WP 122 7 [q0] (r2 ++ []) d2 m2 Q)) := P_cs k122_4 mx120 rfl rfl rfl rfl rfl rfl rfl
set_option maxRecDepth 20000 in
theorem k122_7 : mjCode 122 7 = some (.ireturn, 1, 0, 0) := by decide +kernel
theorem p122_7 {s0 : Int} {q0 : MV} {ds : Ds} {m : Mm} {Q : Ds → Mm → List MV → Prop} : WP 122 7 [q0] [(0, s0)] ds m Q = (((s0 = 0 ∨ s0 = 1) ∧ Q ds m [(0, s0)])) := P_rb k122_7 rk122
set_option maxRecDepth 20000 in
theorem k123_0 : mjCode 123 0 = some (.iload_n 0, 1, 0, 0) := by decide +kernel
theorem p123_0 {l0 : Int} {q1 q2 q3 : MV} {ds : Ds} {m : Mm} {Q : Ds → Mm → List MV → Prop} : WP 123 0 [(0, l0), q1, q2, q3] [] ds m Q = (WP 123 1 [(0, l0), q1, q2, q3] [(0, l0)] ds m Q) := P_nx k123_0 rfl
set_option maxRecDepth 20000 in
theorem k123_1 : mjCode 123 1 = some (.bipush 12, 2, 0, 0) := by decide +kernel
theorem p123_1 {s0 : Int} {q0 q1 q2 q3 : MV} {ds : Ds} {m : Mm} {Q : Ds → Mm → List MV → Prop} : WP 123 1 [q0, q1, q2, q3] [(0, s0)] ds m Q = (WP 123 3 [q0, q1, q2, q3] [(0, 12), (0, s0)] ds m Q) := P_nx k123_1 rfl
set_option maxRecDepth 20000 in
theorem k123_3 : mjCode 123 3 = some (.irem, 1, 0, 0) := by decide +kernel
theorem p123_3 {s0 s1 : Int} {q0 q1 q2 q3 : MV} {ds : Ds} {m : Mm} {Q : Ds → Mm → List MV → Prop} : WP 123 3 [q0, q1, q2, q3] [(0, s0), (0, s1)] ds m Q = ((¬ s0 = 0 ∧ WP 123 4 [q0, q1, q2, q3] [(0, jrem s1 s0)] ds m Q)) := P_dv k123_3 rfl
set_option maxRecDepth 20000 in
theorem k123_4 : mjCode 123 4 = some (.iload_n 1, 1, 0, 0) := by decide +kernel
theorem p123_4 {l1 s0 : Int} {q0 q2 q3 : MV} {ds : Ds} {m : Mm} {Q : Ds → Mm → List MV → Prop} : WP 123 4 [q0, (0, l1), q2, q3] [(0, s0)] ds m Q = (WP 123 5 [q0, (0, l1), q2, q3] [(0, l1), (0, s0)] ds m Q) := P_nx k123_4 rfl
set_option maxRecDepth 20000 in
theorem k123_5 : mjCode 123 5 = some (.iconst 1, 1, 0, 0) := by decide +kernel
theorem p123_5 {s0 s1 : Int} {q0 q1 q2 q3 : MV} {ds : Ds} {m : Mm} {Q : Ds → Mm → List MV → Prop} : WP 123 5 [q0, q1, q2, q3] [(0, s0), (0, s1)] ds m Q = (WP 123 6 [q0, q1, q2, q3] [(0, 1), (0, s0), (0, s1)] ds m Q) := P_nx k123_5 rfl
set_option maxRecDepth 20000 in
theorem k123_6 : mjCode 123 6 = some (.if_icmp .ne 7, 3, 13, 0) := by decide +kernel
theorem p123_6 {s0 s1 s2 : Int} {q0 q1 q2 q3 : MV} {ds : Ds} {m : Mm} {Q : Ds → Mm → List MV → Prop} : WP 123 6 [q0, q1, q2, q3] [(0, s0), (0, s1), (0, s2)] ds m Q = (if s1 = s0 then WP 123 9 [q0, q1, q2, q3] [(0, s2)] ds m Q else WP 123 13 [q0, q1, q2, q3] [(0, s2)] ds m Q) := P_if k123_6 rfl
set_option maxRecDepth 20000 in
theorem k123_9 : mjCode 123 9 = some (.iconst 1, 1, 0, 0) := by decide +kernel
theorem p123_9 {s0 : Int} {q0 q1 q2 q3 : MV} {ds : Ds} {m : Mm} {Q : Ds → Mm → List MV → Prop} : WP 123 9 [q0, q1, q2, q3] [(0, s0)] ds m Q = (WP 123 10 [q0, q1, q2, q3] [(0, 1), (0, s0)] ds m Q) := P_nx k123_9 rfl
set_option maxRecDepth 20000 in
theorem k123_10 : mjCode 123 10 = some (.goto 13, 3, 23, 0) := by decide +kernel
theorem p123_10 {s0 s1 : Int} {q0 q1 q2 q3 : MV} {ds : Ds} {m : Mm} {Q : Ds → Mm → List MV → Prop} : WP 123 10 [q0, q1, q2, q3] [(0, s0), (0, s1)] ds m Q = (WP 123 23 [q0, q1, q2, q3] [(0, s0), (0, s1)] ds m Q) := P_nx k123_10 rfl
set_option maxRecDepth 20000 in
theorem k123_13 : mjCode 123 13 = some (.iload_n 1, 1, 0, 0) := by decide +kernel
theorem p123_13 {l1 s0 : Int} {q0 q2 q3 : MV} {ds : Ds} {m : Mm} {Q : Ds → Mm → List MV → Prop} : WP 123 13 [q0, (0, l1), q2, q3] [(0, s0)] ds m Q = (WP 123 14 [q0, (0, l1), q2, q3] [(0, l1), (0, s0)] ds m Q) := P_nx k123_13 rfl
set_option maxRecDepth 20000 in
theorem k123_14 : mjCode 123 14 = some (.iconst 3, 1, 0, 0) := by decide +kernel
theorem p123_14 {s0 s1 : Int} {q0 q1 q2 q3 : MV} {ds : Ds} {m : Mm} {Q : Ds → Mm → List MV → Prop} : WP 123 14 [q0, q1, q2, q3] [(0, s0), (0, s1)] ds m Q = (WP 123 15 [q0, q1, q2, q3] [(0, 3), (0, s0), (0, s1)] ds m Q) := P_nx k123_14 rfl
set_option maxRecDepth 20000 in
theorem k123_15 : mjCode 123 15 = some (.if_icmp .ne 7, 3, 22, 0) := by decide +kernel
theorem p123_15 {s0 s1 s2 : Int} {q0 q1 q2 q3 : MV} {ds : Ds} {m : Mm} {Q : Ds → Mm → List MV → Prop} : WP 123 15 [q0, q1, q2, q3] [(0, s0), (0, s1), (0, s2)] ds m Q = (if s1 = s0 then WP 123 18 [q0, q1, q2, q3] [(0, s2)] ds m Q else WP 123 22 [q0, q1, q2, q3] [(0, s2)] ds m Q) := P_if k123_15 rfl
set_option maxRecDepth 20000 in
theorem k123_18 : mjCode 123 18 = some (.iconst (-1), 1, 0, 0) := by decide +kernel
theorem p123_18 {s0 : Int} {q0 q1 q2 q3 : MV} {ds : Ds} {m : Mm} {Q : Ds → Mm → List MV → Prop} : WP 123 18 [q0, q1, q2, q3] [(0, s0)] ds m Q = (WP 123 19 [q0, q1, q2, q3] [(0, (-1)), (0, s0)] ds m Q) := P_nx k123_18 rfl
set_option maxRecDepth 20000 in
theorem k123_19 : mjCode 123 19 = some (.goto 4, 3, 23, 0) := by decide +kernel
theorem p123_19 {s0 s1 : Int} {q0 q1 q2 q3 : MV} {ds : Ds} {m : Mm} {Q : Ds → Mm → List MV → Prop} : WP 123 19 [q0, q1, q2, q3] [(0, s0), (0, s1)] ds m Q = (WP 123 23 [q0, q1, q2, q3] [(0, s0), (0, s1)] ds m Q) := P_nx k123_19 rfl
set_option maxRecDepth 20000 in
theorem k123_22 : mjCode 123 22 = some (.iconst 0, 1, 0, 0) := by decide +kernel
theorem p123_22 {s0 : Int} {q0 q1 q2 q3 : MV} {ds : Ds} {m : Mm} {Q : Ds → Mm → List MV → Prop} : WP 123 22 [q0, q1, q2, q3] [(0, s0)] ds m Q = (WP 123 23 [q0, q1, q2, q3] [(0, 0), (0, s0)] ds m Q) := P_nx k123_22 rfl
set_option maxRecDepth 20000 in
theorem k123_23 : mjCode 123 23 = some (.iadd, 1, 0, 0) := by decide +kernel
theorem p123_23 {s0 s1 : Int} {q0 q1 q2 q3 : MV} {ds : Ds} {m : Mm} {Q : Ds → Mm → List MV → Prop} : WP 123 23 [q0, q1, q2, q3] [(0, s0), (0, s1)] ds m Q = (WP 123 24 [q0, q1, q2, q3] [(0, w32 (s1 + s0))] ds m Q) := P_nx k123_23 rfl
set_option maxRecDepth 20000 in
theorem k123_24 : mjCode 123 24 = some (.istore_n 2, 1, 0, 0) := by decide +kernel
theorem p123_24 {l1 s0 : Int} {q0 q2 q3 : MV} {ds : Ds} {m : Mm} {Q : Ds → Mm → List MV → Prop} : WP 123 24 [q0, (0, l1), q2, q3] [(0, s0)] ds m Q = (WP 123 25 [q0, (0, l1), (0, s0), q3] [] ds m Q) := P_nx k123_24 rfl
set_option maxRecDepth 20000 in
theorem k123_25 : mjCode 123 25 = some (.iload_n 0, 1, 0, 0) := by decide +kernel
theorem p123_25 {l0 : Int} {q1 q2 q3 : MV} {ds : Ds} {m : Mm} {Q : Ds → Mm → List MV → Prop} : WP 123 25 [(0, l0), q1, q2, q3] [] ds m Q = (WP 123 26 [(0, l0), q1, q2, q3] [(0, l0)] ds m Q) := P_nx k123_25 rfl
set_option maxRecDepth 20000 in
theorem k123_26 : mjCode 123 26 = some (.bipush 12, 2, 0, 0) := by decide +kernel
theorem p123_26 {s0 : Int} {q0 q1 q2 q3 : MV} {ds : Ds} {m : Mm} {Q : Ds → Mm → List MV → Prop} : WP 123 26 [q0, q1, q2, q3] [(0, s0)] ds m Q = (WP 123 28 [q0, q1, q2, q3] [(0, 12), (0, s0)] ds m Q) := P_nx k123_26 rfl
set_option maxRecDepth 20000 in
theorem k123_28 : mjCode 123 28 = some (.idiv, 1, 0, 0) := by decide +kernel
theorem p123_28 {s0 s1 : Int} {q0 q1 q2 q3 : MV} {ds : Ds} {m : Mm} {Q : Ds → Mm → List MV → Prop} : WP 123 28 [q0, q1, q2, q3] [(0, s0), (0, s1)] ds m Q = ((¬ s0 = 0 ∧ WP 123 29 [q0, q1, q2, q3] [(0, jdiv s1 s0)] ds m Q)) := P_dv k123_28 rfl
set_option maxRecDepth 20000 in
theorem k123_29 : mjCode 123 29 = some (.iload_n 1, 1, 0, 0) := by decide +kernel
theorem p123_29 {l1 s0 : Int} {q0 q2 q3 : MV} {ds : Ds} {m : Mm} {Q : Ds → Mm → List MV → Prop} : WP 123 29 [q0, (0, l1), q2, q3] [(0, s0)] ds m Q = (WP 123 30 [q0, (0, l1), q2, q3] [(0, l1), (0, s0)] ds m Q) := P_nx k123_29 rfl
set_option maxRecDepth 20000 in
theorem k123_30 : mjCode 123 30 = some (.iconst 2, 1, 0, 0) := by decide +kernel
theorem p123_30 {s0 s1 : Int} {q0 q1 q2 q3 : MV} {ds : Ds} {m : Mm} {Q : Ds → Mm → List MV → Prop} : WP 123 30 [q0, q1, q2, q3] [(0, s0), (0, s1)] ds m Q = (WP 123 31 [q0, q1, q2, q3] [(0, 2), (0, s0), (0, s1)] ds m Q) := P_nx k123_30 rfl
set_option maxRecDepth 20000 in
theorem k123_31 : mjCode 123 31 = some (.if_icmp .ne 7, 3, 38, 0) := by decide +kernel
theorem p123_31 {s0 s1 s2 : Int} {q0 q1 q2 q3 : MV} {ds : Ds} {m : Mm} {Q : Ds → Mm → List MV → Prop} : WP 123 31 [q0, q1, q2, q3] [(0, s0), (0, s1), (0, s2)] ds m Q = (if s1 = s0 then WP 123 34 [q0, q1, q2, q3] [(0, s2)] ds m Q else WP 123 38 [q0, q1, q2, q3] [(0, s2)] ds m Q) := P_if k123_31 rfl
set_option maxRecDepth 20000 in
theorem k123_34 : mjCode 123 34 = some (.iconst 1, 1, 0, 0) := by decide +kernel
theorem p123_34 {s0 : Int} {q0 q1 q2 q3 : MV} {ds : Ds} {m : Mm} {Q : Ds → Mm → List MV → Prop} : WP 123 34 [q0, q1, q2, q3] [(0, s0)] ds m Q = (WP 123 35 [q0, q1, q2, q3] [(0, 1), (0, s0)] ds m Q) := P_nx k123_34 rfl
set_option maxRecDepth 20000 in
theorem k123_35 : mjCode 123 35 = some (.goto 12, 3, 47, 0) := by decide +kernel
theorem p123_35 {s0 s1 : Int} {q0 q1 q2 q3 : MV} {ds : Ds} {m : Mm} {Q : Ds → Mm → List MV → Prop} : WP 123 35 [q0, q1, q2, q3] [(0, s0), (0, s1)] ds m Q = (WP 123 47 [q0, q1, q2, q3] [(0, s0), (0, s1)] ds m Q) := P_nx k123_35 rfl
set_option maxRecDepth 20000 in
theorem k123_38 : mjCode 123 38 = some (.iload_n 1, 1, 0, 0) := by decide +kernel
theorem p123_38 {l1 s0 : Int} {q0 q2 q3 : MV} {ds : Ds} {m : Mm} {Q : Ds → Mm → List MV → Prop} : WP 123 38 [q0, (0, l1), q2, q3] [(0, s0)] ds m Q = (WP 123 39 [q0, (0, l1), q2, q3] [(0, l1), (0, s0)] ds m Q) := P_nx k123_38 rfl
set_option maxRecDepth 20000 in
theorem k123_39 : mjCode 123 39 = some (.ifCond .ne 7, 3, 46, 0) := by decide +kernel
theorem p123_39 {s0 s1 : Int} {q0 q1 q2 q3 : MV} {ds : Ds} {m : Mm} {Q : Ds → Mm → List MV → Prop} : WP 123 39 [q0, q1, q2, q3] [(0, s0), (0, s1)] ds m Q = (if s0 = 0 then WP 123 42 [q0, q1, q2, q3] [(0, s1)] ds m Q else WP 123 46 [q0, q1, q2, q3] [(0, s1)] ds m Q) := P_if k123_39 rfl
set_option maxRecDepth 20000 in
theorem k123_42 : mjCode 123 42 = some (.iconst (-1), 1, 0, 0) := by decide +kernel
theorem p123_42 {s0 : Int} {q0 q1 q2 q3 : MV} {ds : Ds} {m : Mm} {Q : Ds → Mm → List MV → Prop} : WP 123 42 [q0, q1, q2, q3] [(0, s0)] ds m Q = (WP 123 43 [q0, q1, q2, q3] [(0, (-1)), (0, s0)] ds m Q) := P_nx k123_42 rfl
set_option maxRecDepth 20000 in
theorem k123_43 : mjCode 123 43 = some (.goto 4, 3, 47, 0) := by decide +kernel
theorem p123_43 {s0 s1 : Int} {q0 q1 q2 q3 : MV} {ds : Ds} {m : Mm} {Q : Ds → Mm → List MV → Prop} : WP 123 43 [q0, q1, q2, q3] [(0, s0), (0, s1)] ds m Q = (WP 123 47 [q0, q1, q2, q3] [(0, s0), (0, s1)] ds m Q) := P_nx k123_43 rfl
set_option maxRecDepth 20000 in
theorem k123_46 : mjCode 123 46 = some (.iconst 0, 1, 0, 0) := by decide +kernel
theorem p123_46 {s0 : Int} {q0 q1 q2 q3 : MV} {ds : Ds} {m : Mm} {Q : Ds → Mm → List MV → Prop} : WP 123 46 [q0, q1, q2, q3] [(0, s0)] ds m Q = (WP 123 47 [q0, q1, q2, q3] [(0, 0), (0, s0)] ds m Q) := P_nx k123_46 rfl
set_option maxRecDepth 20000 in
theorem k123_47 : mjCode 123 47 = some (.iadd, 1, 0, 0) := by decide +kernel
theorem p123_47 {s0 s1 : Int} {q0 q1 q2 q3 : MV} {ds : Ds} {m : Mm} {Q : Ds → Mm → List MV → Prop} : WP 123 47 [q0, q1, q2, q3] [(0, s0), (0, s1)] ds m Q = (WP 123 48 [q0, q1, q2, q3] [(0, w32 (s1 + s0))] ds m Q) := P_nx k123_47 rfl
set_option maxRecDepth 20000 in
theorem k123_48 : mjCode 123 48 = some (.istore_n 3, 1, 0, 0) := by decide +kernel
theorem p123_48 {l2 s0 : Int} {q0 q1 q3 : MV} {ds : Ds} {m : Mm} {Q : Ds → Mm → List MV → Prop} : WP 123 48 [q0, q1, (0, l2), q3] [(0, s0)] ds m Q = (WP 123 49 [q0, q1, (0, l2), (0, s0)] [] ds m Q) := P_nx k123_48 rfl
set_option maxRecDepth 20000 in
theorem k123_49 : mjCode 123 49 = some (.iload_n 2, 1, 0, 0) := by decide +kernel
theorem p123_49 {l2 : Int} {q0 q1 q3 : MV} {ds : Ds} {m : Mm} {Q : Ds → Mm → List MV → Prop} : WP 123 49 [q0, q1, (0, l2), q3] [] ds m Q = (WP 123 50 [q0, q1, (0, l2), q3] [(0, l2)] ds m Q) := P_nx k123_49 rfl
set_option maxRecDepth 20000 in
theorem k123_50 : mjCode 123 50 = some (.iconst 0, 1, 0, 0) := by decide +kernel
theorem p123_50 {s0 : Int} {q0 q1 q2 q3 : MV} {ds : Ds} {m : Mm} {Q : Ds → Mm → List MV → Prop} : WP 123 50 [q0, q1, q2, q3] [(0, s0)] ds m Q = (WP 123 51 [q0, q1, q2, q3] [(0, 0), (0, s0)] ds m Q) := P_nx k123_50 rfl
set_option maxRecDepth 20000 in
theorem k123_51 : mjCode 123 51 = some (.bipush 11, 2, 0, 0) := by decide +kernel
theorem p123_51 {s0 s1 : Int} {q0 q1 q2 q3 : MV} {ds : Ds} {m : Mm} {Q : Ds → Mm → List MV → Prop} : WP 123 51 [q0, q1, q2, q3] [(0, s0), (0, s1)] ds m Q = (WP 123 53 [q0, q1, q2, q3] [(0, 11), (0, s0), (0, s1)] ds m Q) := P_nx k123_51 rfl
set_option maxRecDepth 20000 in
theorem k123_53 : mjCode 123 53 = some (.invokestatic 141, 3, 121, 3) := by decide +kernel
theorem p123_53 {s0 s1 s2 : Int} {q0 q1 q2 q3 : MV} {ds : Ds} {m : Mm} {Q : Ds → Mm → List MV → Prop} : WP 123 53 [q0, q1, q2, q3] [(0, s0), (0, s1), (0, s2)] ds m Q = (WP 120 0 [(0, s2), (0, s1), (0, s0)] [] ds m (fun d2 m2 r2 => WP 123 56 [q0, q1, q2, q3] (r2 ++ []) d2 m2 Q)) := P_cs k123_53 mx120 rfl rfl rfl rfl rfl rfl rfl
set_option maxRecDepth 20000 in
theorem k123_56 : mjCode 123 56 = some (.ifCond .eq 22, 3, 78, 0) := by decide +kernel
theorem p123_56 {s0 : Int} {q0 q1 q2 q3 : MV} {ds : Ds} {m : Mm} {Q : Ds → Mm → List MV → Prop} : WP 123 56 [q0, q1, q2, q3] [(0, s0)] ds m Q = (if s0 = 0 then WP 123 78 [q0, q1, q2, q3] [] ds m Q else WP 123 59 [q0, q1, q2, q3] [] ds m Q) := P_if k123_56 rfl
set_option maxRecDepth 20000 in
theorem k123_59 : mjCode 123 59 = some (.iload_n 3, 1, 0, 0) := by decide +kernel
theorem p123_59 {l3 : Int} {q0 q1 q2 : MV} {ds : Ds} {m : Mm} {Q : Ds → Mm → List MV → Prop} : WP 123 59 [q0, q1, q2, (0, l3)] [] ds m Q = (WP 123 60 [q0, q1, q2, (0, l3)] [(0, l3)] ds m Q) := P_nx k123_59 rfl
set_option maxRecDepth 20000 in
theorem k123_60 : mjCode 123 60 = some (.iconst 0, 1, 0, 0) := by decide +kernel
theorem p123_60 {s0 : Int} {q0 q1 q2 q3 : MV} {ds : Ds} {m : Mm} {Q : Ds → Mm → List MV → Prop} : WP 123 60 [q0, q1, q2, q3] [(0, s0)] ds m Q = (WP 123 61 [q0, q1, q2, q3] [(0, 0), (0, s0)] ds m Q) := P_nx k123_60 rfl
set_option maxRecDepth 20000 in
theorem k123_61 : mjCode 123 61 = some (.bipush 7, 2, 0, 0) := by decide +kernel
theorem p123_61 {s0 s1 : Int} {q0 q1 q2 q3 : MV} {ds : Ds} {m : Mm} {Q : Ds → Mm → List MV → Prop} : WP 123 61 [q0, q1, q2, q3] [(0, s0), (0, s1)] ds m Q = (WP 123 63 [q0, q1, q2, q3] [(0, 7), (0, s0), (0, s1)] ds m Q) := P_nx k123_61 rfl
set_option maxRecDepth 20000 in
theorem k123_63 : mjCode 123 63 = some (.invokestatic 141, 3, 121, 3) := by decide +kernel
theorem p123_63 {s0 s1 s2 : Int} {q0 q1 q2 q3 : MV} {ds : Ds} {m : Mm} {Q : Ds → Mm → List MV → Prop} : WP 123 63 [q0, q1, q2, q3] [(0, s0), (0, s1), (0, s2)] ds m Q = (WP 120 0 [(0, s2), (0, s1), (0, s0)] [] ds m (fun d2 m2 r2 => WP 123 66 [q0, q1, q2, q3] (r2 ++ []) d2 m2 Q)) := P_cs k123_63 mx120 rfl rfl rfl rfl rfl rfl rfl
set_option maxRecDepth 20000 in
theorem k123_66 : mjCode 123 66 = some (.ifCond .eq 12, 3, 78, 0) := by decide +kernel
theorem p123_66 {s0 : Int} {q0 q1 q2 q3 : MV} {ds : Ds} {m : Mm} {Q : Ds → Mm → List MV → Prop} : WP 123 66 [q0, q1, q2, q3] [(0, s0)] ds m Q = (if s0 = 0 then WP 123 78 [q0, q1, q2, q3] [] ds m Q else WP 123 69 [q0, q1, q2, q3] [] ds m Q) := P_if k123_66 rfl
set_option maxRecDepth 20000 in
theorem k123_69 : mjCode 123 69 = some (.bipush 12, 2, 0, 0) := by decide +kernel
theorem p123_69 {q0 q1 q2 q3 : MV} {ds : Ds} {m : Mm} {Q : Ds → Mm → List MV → Prop} : WP 123 69 [q0, q1, q2, q3] [] ds m Q = (WP 123 71 [q0, q1, q2, q3] [(0, 12)] ds m Q) := P_nx k123_69 rfl
set_option maxRecDepth 20000 in
theorem k123_71 : mjCode 123 71 = some (.iload_n 3, 1, 0, 0) := by decide +kernel
theorem p123_71 {l3 s0 : Int} {q0 q1 q2 : MV} {ds : Ds} {m : Mm} {Q : Ds → Mm → List MV → Prop} : WP 123 71 [q0, q1, q2, (0, l3)] [(0, s0)] ds m Q = (WP 123 72 [q0, q1, q2, (0, l3)] [(0, l3), (0, s0)] ds m Q) := P_nx k123_71 rfl
set_option maxRecDepth 20000 in
theorem k123_72 : mjCode 123 72 = some (.imul, 1, 0, 0) := by decide +kernel
theorem p123_72 {s0 s1 : Int} {q0 q1 q2 q3 : MV} {ds : Ds} {m : Mm} {Q : Ds → Mm → List MV → Prop} : WP 123 72 [q0, q1, q2, q3] [(0, s0), (0, s1)] ds m Q = (WP 123 73 [q0, q1, q2, q3] [(0, w32 (s1 * s0))] ds m Q) := P_nx k123_72 rfl
set_option maxRecDepth 20000 in
theorem k123_73 : mjCode 123 73 = some (.iload_n 2, 1, 0, 0) := by decide +kernel
theorem p123_73 {l2 s0 : Int} {q0 q1 q3 : MV} {ds : Ds} {m : Mm} {Q : Ds → Mm → List MV → Prop} : WP 123 73 [q0, q1, (0, l2), q3] [(0, s0)] ds m Q = (WP 123 74 [q0, q1, (0, l2), q3] [(0, l2), (0, s0)] ds m Q) := P_nx k123_73 rfl
set_option maxRecDepth 20000 in
theorem k123_74 : mjCode 123 74 = some (.iadd, 1, 0, 0) := by decide +kernel
theorem p123_74 {s0 s1 : Int} {q0 q1 q2 q3 : MV} {ds : Ds} {m : Mm} {Q : Ds → Mm → List MV → Prop} : WP 123 74 [q0, q1, q2, q3] [(0, s0), (0, s1)] ds m Q = (WP 123 75 [q0, q1, q2, q3] [(0, w32 (s1 + s0))] ds m Q) := P_nx k123_74 rfl
set_option maxRecDepth 20000 in
theorem k123_75 : mjCode 123 75 = some (.goto 4, 3, 79, 0) := by decide +kernel
theorem p123_75 {s0 : Int} {q0 q1 q2 q3 : MV} {ds : Ds} {m : Mm} {Q : Ds → Mm → List MV → Prop} : WP 123 75 [q0, q1, q2, q3] [(0, s0)] ds m Q = (WP 123 79 [q0, q1, q2, q3] [(0, s0)] ds m Q) := P_nx k123_75 rfl
set_option maxRecDepth 20000 in
theorem k123_78 : mjCode 123 78 = some (.iconst (-1), 1, 0, 0) := by decide +kernel
theorem p123_78 {q0 q1 q2 q3 : MV} {ds : Ds} {m : Mm} {Q : Ds → Mm → List MV → Prop} : WP 123 78 [q0, q1, q2, q3] [] ds m Q = (WP 123 79 [q0, q1, q2, q3] [(0, (-1))] ds m Q) := P_nx k123_78 rfl
set_option maxRecDepth 20000 in
theorem k123_79 : mjCode 123 79 = some (.ireturn, 1, 0, 0) := by decide +kernel
theorem p123_79 {s0 : Int} {q0 q1 q2 q3 : MV} {ds : Ds} {m : Mm} {Q : Ds → Mm → List MV → Prop} : WP 123 79 [q0, q1, q2, q3] [(0, s0)] ds m Q = (Q ds m [(0, s0)]) := P_ri k123_79 rk123
set_option maxRecDepth 20000 in
theorem k124_0 : mjCode 124 0 = some (.iload_n 0, 1, 0, 0) := by decide +kernel
theorem p124_0 {l0 : Int} {ds : Ds} {m : Mm} {Q : Ds → Mm → List MV → Prop} : WP 124 0 [(0, l0)] [] ds m Q = (WP 124 1 [(0, l0)] [(0, l0)] ds m Q) := P_nx k124_0 rfl
set_option maxRecDepth 20000 in
theorem k124_1 : mjCode 124 1 = some (.iconst 2, 1, 0, 0) := by decide +kernel
theorem p124_1 {s0 : Int} {q0 : MV} {ds : Ds} {m : Mm} {Q : Ds → Mm → List MV → Prop} : WP 124 1 [q0] [(0, s0)] ds m Q = (WP 124 2 [q0] [(0, 2), (0, s0)] ds m Q) := P_nx k124_1 rfl
set_option maxRecDepth 20000 in
theorem k124_2 : mjCode 124 2 = some (.if_icmp .eq 14, 3, 16, 0) := by decide +kernel
theorem p124_2 {s0 s1 : Int} {q0 : MV} {ds : Ds} {m : Mm} {Q : Ds → Mm → List MV → Prop} : WP 124 2 [q0] [(0, s0), (0, s1)] ds m Q = (if s1 = s0 then WP 124 16 [q0] [] ds m Q else WP 124 5 [q0] [] ds m Q) := P_if k124_2 rfl
set_option maxRecDepth 20000 in
theorem k124_5 : mjCode 124 5 = some (.iload_n 0, 1, 0, 0) := by decide +kernel
theorem p124_5 {l0 : Int} {ds : Ds} {m : Mm} {Q : Ds → Mm → List MV → Prop} : WP 124 5 [(0, l0)] [] ds m Q = (WP 124 6 [(0, l0)] [(0, l0)] ds m Q) := P_nx k124_5 rfl
set_option maxRecDepth 20000 in
theorem k124_6 : mjCode 124 6 = some (.iconst 4, 1, 0, 0) := by decide +kernel
theorem p124_6 {s0 : Int} {q0 : MV} {ds : Ds} {m : Mm} {Q : Ds → Mm → List MV → Prop} : WP 124 6 [q0] [(0, s0)] ds m Q = (WP 124 7 [q0] [(0, 4), (0, s0)] ds m Q) := P_nx k124_6 rfl
set_option maxRecDepth 20000 in
theorem k124_7 : mjCode 124 7 = some (.if_icmp .eq 9, 3, 16, 0) := by decide +kernel
theorem p124_7 {s0 s1 : Int} {q0 : MV} {ds : Ds} {m : Mm} {Q : Ds → Mm → List MV → Prop} : WP 124 7 [q0] [(0, s0), (0, s1)] ds m Q = (if s1 = s0 then WP 124 16 [q0] [] ds m Q else WP 124 10 [q0] [] ds m Q) := P_if k124_7 rfl
set_option maxRecDepth 20000 in
theorem k124_10 : mjCode 124 10 = some (.iload_n 0, 1, 0, 0) := by decide +kernel
theorem p124_10 {l0 : Int} {ds : Ds} {m : Mm} {Q : Ds → Mm → List MV → Prop} : WP 124 10 [(0, l0)] [] ds m Q = (WP 124 11 [(0, l0)] [(0, l0)] ds m Q) := P_nx k124_10 rfl
set_option maxRecDepth 20000 in
theorem k124_11 : mjCode 124 11 = some (.bipush 6, 2, 0, 0) := by decide +kernel
theorem p124_11 {s0 : Int} {q0 : MV} {ds : Ds} {m : Mm} {Q : Ds → Mm → List MV → Prop} : WP 124 11 [q0] [(0, s0)] ds m Q = (WP 124 13 [q0] [(0, 6), (0, s0)] ds m Q) := P_nx k124_11 rfl
set_option maxRecDepth 20000 in
theorem k124_13 : mjCode 124 13 = some (.if_icmp .ne 7, 3, 20, 0) := by decide +kernel
theorem p124_13 {s0 s1 : Int} {q0 : MV} {ds : Ds} {m : Mm} {Q : Ds → Mm → List MV → Prop} : WP 124 13 [q0] [(0, s0), (0, s1)] ds m Q = (if s1 = s0 then WP 124 16 [q0] [] ds m Q else WP 124 20 [q0] [] ds m Q) := P_if k124_13 rfl
set_option maxRecDepth 20000 in
theorem k124_16 : mjCode 124 16 = some (.iconst 1, 1, 0, 0) := by decide +kernel
theorem p124_16 {q0 : MV} {ds : Ds} {m : Mm} {Q : Ds → Mm → List MV → Prop} : WP 124 16 [q0] [] ds m Q = (WP 124 17 [q0] [(0, 1)] ds m Q) := P_nx k124_16 rfl
set_option maxRecDepth 20000 in
theorem k124_17 : mjCode 124 17 = some (.goto 4, 3, 21, 0) := by decide +kernel
theorem p124_17 {s0 : Int} {q0 : MV} {ds : Ds} {m : Mm} {Q : Ds → Mm → List MV → Prop} : WP 124 17 [q0] [(0, s0)] ds m Q = (WP 124 21 [q0] [(0, s0)] ds m Q) := P_nx k124_17 rfl
set_option maxRecDepth 20000 in
theorem k124_20 : mjCode 124 20 = some (.iconst 0, 1, 0, 0) := by decide +kernel
theorem p124_20 {q0 : MV} {ds : Ds} {m : Mm} {Q : Ds → Mm → List MV → Prop} : WP 124 20 [q0] [] ds m Q = (WP 124 21 [q0] [(0, 0)] ds m Q) := P_nx k124_20 rfl
set_option maxRecDepth 20000 in
theorem k124_21 : mjCode 124 21 = some (.ireturn, 1, 0, 0) := by decide +kernel
theorem p124_21 {s0 : Int} {q0 : MV} {ds : Ds} {m : Mm} {Q : Ds → Mm → List MV → Prop} : WP 124 21 [q0] [(0, s0)] ds m Q = (((s0 = 0 ∨ s0 = 1) ∧ Q ds m [(0, s0)])) := P_rb k124_21 rk124
set_option maxRecDepth 20000 in
theorem k125_0 : mjCode 125 0 = some (.iload_n 0, 1, 0, 0) := by decide +kernel
theorem p125_0 {l0 : Int} {ds : Ds} {m : Mm} {Q : Ds → Mm → List MV → Prop} : WP 125 0 [(0, l0)] [] ds m Q = (WP 125 1 [(0, l0)] [(0, l0)] ds m Q) := P_nx k125_0 rfl
set_option maxRecDepth 20000 in
theorem k125_1 : mjCode 125 1 = some (.iconst 3, 1, 0, 0) := by decide +kernel
theorem p125_1 {s0 : Int} {q0 : MV} {ds : Ds} {m : Mm} {Q : Ds → Mm → List MV → Prop} : WP 125 1 [q0] [(0, s0)] ds m Q = (WP 125 2 [q0] [(0, 3), (0, s0)] ds m Q) := P_nx k125_1 rfl
set_option maxRecDepth 20000 in
theorem k125_2 : mjCode 125 2 = some (.if_icmp .eq 32, 3, 34, 0) := by decide +kernel
theorem p125_2 {s0 s1 : Int} {q0 : MV} {ds : Ds} {m : Mm} {Q : Ds → Mm → List MV → Prop} : WP 125 2 [q0] [(0, s0), (0, s1)] ds m Q = (if s1 = s0 then WP 125 34 [q0] [] ds m Q else WP 125 5 [q0] [] ds m Q) := P_if k125_2 rfl
set_option maxRecDepth 20000 in
theorem k125_5 : mjCode 125 5 = some (.iload_n 0, 1, 0, 0) := by decide +kernel
theorem p125_5 {l0 : Int} {ds : Ds} {m : Mm} {Q : Ds → Mm → List MV → Prop} : WP 125 5 [(0, l0)] [] ds m Q = (WP 125 6 [(0, l0)] [(0, l0)] ds m Q) := P_nx k125_5 rfl
set_option maxRecDepth 20000 in
theorem k125_6 : mjCode 125 6 = some (.iconst 5, 1, 0, 0) := by decide +kernel
theorem p125_6 {s0 : Int} {q0 : MV} {ds : Ds} {m : Mm} {Q : Ds → Mm → List MV → Prop} : WP 125 6 [q0] [(0, s0)] ds m Q = (WP 125 7 [q0] [(0, 5), (0, s0)] ds m Q) := P_nx k125_6 rfl
set_option maxRecDepth 20000 in
theorem k125_7 : mjCode 125 7 = some (.if_icmp .eq 27, 3, 34, 0) := by decide +kernel
theorem p125_7 {s0 s1 : Int} {q0 : MV} {ds : Ds} {m : Mm} {Q : Ds → Mm → List MV → Prop} : WP 125 7 [q0] [(0, s0), (0, s1)] ds m Q = (if s1 = s0 then WP 125 34 [q0] [] ds m Q else WP 125 10 [q0] [] ds m Q) := P_if k125_7 rfl
set_option maxRecDepth 20000 in
theorem k125_10 : mjCode 125 10 = some (.iload_n 0, 1, 0, 0) := by decide +kernel
theorem p125_10 {l0 : Int} {ds : Ds} {m : Mm} {Q : Ds → Mm → List MV → Prop} : WP 125 10 [(0, l0)] [] ds m Q = (WP 125 11 [(0, l0)] [(0, l0)] ds m Q) := P_nx k125_10 rfl
set_option maxRecDepth 20000 in
theorem k125_11 : mjCode 125 11 = some (.bipush 6, 2, 0, 0) := by decide +kernel
theorem p125_11 {s0 : Int} {q0 : MV} {ds : Ds} {m : Mm} {Q : Ds → Mm → List MV → Prop} : WP 125 11 [q0] [(0, s0)] ds m Q = (WP 125 13 [q0] [(0, 6), (0, s0)] ds m Q) := P_nx k125_11 rfl
set_option maxRecDepth 20000 in
theorem k125_13 : mjCode 125 13 = some (.if_icmp .eq 21, 3, 34, 0) := by decide +kernel
theorem p125_13 {s0 s1 : Int} {q0 : MV} {ds : Ds} {m : Mm} {Q : Ds → Mm → List MV → Prop} : WP 125 13 [q0] [(0, s0), (0, s1)] ds m Q = (if s1 = s0 then WP 125 34 [q0] [] ds m Q else WP 125 16 [q0] [] ds m Q) := P_if k125_13 rfl
set_option maxRecDepth 20000 in
theorem k125_16 : mjCode 125 16 = some (.iload_n 0, 1, 0, 0) := by decide +kernel
theorem p125_16 {l0 : Int} {ds : Ds} {m : Mm} {Q : Ds → Mm → List MV → Prop} : WP 125 16 [(0, l0)] [] ds m Q = (WP 125 17 [(0, l0)] [(0, l0)] ds m Q) := P_nx k125_16 rfl
set_option maxRecDepth 20000 in
theorem k125_17 : mjCode 125 17 = some (.bipush 9, 2, 0, 0) := by decide +kernel
theorem p125_17 {s0 : Int} {q0 : MV} {ds : Ds} {m : Mm} {Q : Ds → Mm → List MV → Prop} : WP 125 17 [q0] [(0, s0)] ds m Q = (WP 125 19 [q0] [(0, 9), (0, s0)] ds m Q) := P_nx k125_17 rfl
set_option maxRecDepth 20000 in
theorem k125_19 : mjCode 125 19 = some (.if_icmp .eq 15, 3, 34, 0) := by decide +kernel
theorem p125_19 {s0 s1 : Int} {q0 : MV} {ds : Ds} {m : Mm} {Q : Ds → Mm → List MV → Prop} : WP 125 19 [q0] [(0, s0), (0, s1)] ds m Q = (if s1 = s0 then WP 125 34 [q0] [] ds m Q else WP 125 22 [q0] [] ds m Q) := P_if k125_19 rfl
set_option maxRecDepth 20000 in
theorem k125_22 : mjCode 125 22 = some (.iload_n 0, 1, 0, 0) := by decide +kernel
theorem p125_22 {l0 : Int} {ds : Ds} {m : Mm} {Q : Ds → Mm → List MV → Prop} : WP 125 22 [(0, l0)] [] ds m Q = (WP 125 23 [(0, l0)] [(0, l0)] ds m Q) := P_nx k125_22 rfl
set_option maxRecDepth 20000 in
theorem k125_23 : mjCode 125 23 = some (.bipush 10, 2, 0, 0) := by decide +kernel
theorem p125_23 {s0 : Int} {q0 : MV} {ds : Ds} {m : Mm} {Q : Ds → Mm → List MV → Prop} : WP 125 23 [q0] [(0, s0)] ds m Q = (WP 125 25 [q0] [(0, 10), (0, s0)] ds m Q) := P_nx k125_23 rfl
set_option maxRecDepth 20000 in
theorem k125_25 : mjCode 125 25 = some (.if_icmp .eq 9, 3, 34, 0) := by decide +kernel
theorem p125_25 {s0 s1 : Int} {q0 : MV} {ds : Ds} {m : Mm} {Q : Ds → Mm → List MV → Prop} : WP 125 25 [q0] [(0, s0), (0, s1)] ds m Q = (if s1 = s0 then WP 125 34 [q0] [] ds m Q else WP 125 28 [q0] [] ds m Q) := P_if k125_25 rfl
set_option maxRecDepth 20000 in
theorem k125_28 : mjCode 125 28 = some (.iload_n 0, 1, 0, 0) := by decide +kernel
theorem p125_28 {l0 : Int} {ds : Ds} {m : Mm} {Q : Ds → Mm → List MV → Prop} : WP 125 28 [(0, l0)] [] ds m Q = (WP 125 29 [(0, l0)] [(0, l0)] ds m Q) := P_nx k125_28 rfl
set_option maxRecDepth 20000 in
theorem k125_29 : mjCode 125 29 = some (.bipush 12, 2, 0, 0) := by decide +kernel
theorem p125_29 {s0 : Int} {q0 : MV} {ds : Ds} {m : Mm} {Q : Ds → Mm → List MV → Prop} : WP 125 29 [q0] [(0, s0)] ds m Q = (WP 125 31 [q0] [(0, 12), (0, s0)] ds m Q) := P_nx k125_29 rfl
set_option maxRecDepth 20000 in
theorem k125_31 : mjCode 125 31 = some (.if_icmp .ne 7, 3, 38, 0) := by decide +kernel
theorem p125_31 {s0 s1 : Int} {q0 : MV} {ds : Ds} {m : Mm} {Q : Ds → Mm → List MV → Prop} : WP 125 31 [q0] [(0, s0), (0, s1)] ds m Q = (if s1 = s0 then WP 125 34 [q0] [] ds m Q else WP 125 38 [q0] [] ds m Q) := P_if k125_31 rfl
set_option maxRecDepth 20000 in
theorem k125_34 : mjCode 125 34 = some (.iconst 1, 1, 0, 0) := by decide +kernel
theorem p125_34 {q0 : MV} {ds : Ds} {m : Mm} {Q : Ds → Mm → List MV → Prop} : WP 125 34 [q0] [] ds m Q = (WP 125 35 [q0] [(0, 1)] ds m Q) := P_nx k125_34 rfl
set_option maxRecDepth 20000 in
theorem k125_35 : mjCode 125 35 = some (.goto 4, 3, 39, 0) := by decide +kernel
theorem p125_35 {s0 : Int} {q0 : MV} {ds : Ds} {m : Mm} {Q : Ds → Mm → List MV → Prop} : WP 125 35 [q0] [(0, s0)] ds m Q = (WP 125 39 [q0] [(0, s0)] ds m Q) := P_nx k125_35 rfl
set_option maxRecDepth 20000 in
theorem k125_38 : mjCode 125 38 = some (.iconst 0, 1, 0, 0) := by decide +kernel
theorem p125_38 {q0 : MV} {ds : Ds} {m : Mm} {Q : Ds → Mm → List MV → Prop} : WP 125 38 [q0] [] ds m Q = (WP 125 39 [q0] [(0, 0)] ds m Q) := P_nx k125_38 rfl
set_option maxRecDepth 20000 in
theorem k125_39 : mjCode 125 39 = some (.ireturn, 1, 0, 0) := by decide +kernel
theorem p125_39 {s0 : Int} {q0 : MV} {ds : Ds} {m : Mm} {Q : Ds → Mm → List MV → Prop} : WP 125 39 [q0] [(0, s0)] ds m Q = (((s0 = 0 ∨ s0 = 1) ∧ Q ds m [(0, s0)])) := P_rb k125_39 rk125
set_option maxRecDepth 20000 in
theorem k126_0 : mjCode 126 0 = some (.aload_n 0, 1, 0, 0) := by decide +kernel
theorem p126_0 {l0 : Int} {q1 : MV} {ds : Ds} {m : Mm} {Q : Ds → Mm → List MV → Prop} : WP 126 0 [(2, l0), q1] [] ds m Q = (WP 126 1 [(2, l0), q1] [(2, l0)] ds m Q) := P_nx k126_0 rfl
set_option maxRecDepth 20000 in
theorem k126_1 : mjCode 126 1 = some (.getfield 13, 3, 7, 1) := by decide +kernel
theorem p126_1 {s0 : Int} {q0 q1 : MV} {ds : Ds} {m : Mm} {Q : Ds → Mm → List MV → Prop} : WP 126 1 [q0, q1] [(2, s0)] ds m Q = ((dk ds s0 = 7 ∧ WP 126 4 [q0, q1] [(2, m s0 1)] ds m Q)) := P_gd k126_1 rfl
set_option maxRecDepth 20000 in
theorem k126_4 : mjCode 126 4 = some (.iload_n 1, 1, 0, 0) := by decide +kernel
theorem p126_4 {l1 s0 : Int} {q0 : MV} {ds : Ds} {m : Mm} {Q : Ds → Mm → List MV → Prop} : WP 126 4 [q0, (0, l1)] [(2, s0)] ds m Q = (WP 126 5 [q0, (0, l1)] [(0, l1), (2, s0)] ds m Q) := P_nx k126_4 rfl
set_option maxRecDepth 20000 in
theorem k126_5 : mjCode 126 5 = some (.iaload, 1, 0, 0) := by decide +kernel
theorem p126_5 {s0 s1 : Int} {q0 q1 : MV} {ds : Ds} {m : Mm} {Q : Ds → Mm → List MV → Prop} : WP 126 5 [q0, q1] [(0, s0), (2, s1)] ds m Q = ((dk ds s1 = 10 ∧ 0 ≤ s0 ∧ s0 < dl ds s1 ∧ WP 126 6 [q0, q1] [(0, m s1 s0)] ds m Q)) := P_g3 k126_5 rfl
set_option maxRecDepth 20000 in
theorem k126_6 : mjCode 126 6 = some (.ifCond .ne 16, 3, 22, 0) := by decide +kernel
theorem p126_6 {s0 : Int} {q0 q1 : MV} {ds : Ds} {m : Mm} {Q : Ds → Mm → List MV → Prop} : WP 126 6 [q0, q1] [(0, s0)] ds m Q = (if s0 = 0 then WP 126 9 [q0, q1] [] ds m Q else WP 126 22 [q0, q1] [] ds m Q) := P_if k126_6 rfl
set_option maxRecDepth 20000 in
theorem k126_9 : mjCode 126 9 = some (.aload_n 0, 1, 0, 0) := by decide +kernel
theorem p126_9 {l0 : Int} {q1 : MV} {ds : Ds} {m : Mm} {Q : Ds → Mm → List MV → Prop} : WP 126 9 [(2, l0), q1] [] ds m Q = (WP 126 10 [(2, l0), q1] [(2, l0)] ds m Q) := P_nx k126_9 rfl
set_option maxRecDepth 20000 in
theorem k126_10 : mjCode 126 10 = some (.getfield 25, 3, 7, 5) := by decide +kernel
theorem p126_10 {s0 : Int} {q0 q1 : MV} {ds : Ds} {m : Mm} {Q : Ds → Mm → List MV → Prop} : WP 126 10 [q0, q1] [(2, s0)] ds m Q = ((dk ds s0 = 7 ∧ WP 126 13 [q0, q1] [(2, m s0 5)] ds m Q)) := P_gd k126_10 rfl
set_option maxRecDepth 20000 in
theorem k126_13 : mjCode 126 13 = some (.iload_n 1, 1, 0, 0) := by decide +kernel
theorem p126_13 {l1 s0 : Int} {q0 : MV} {ds : Ds} {m : Mm} {Q : Ds → Mm → List MV → Prop} : WP 126 13 [q0, (0, l1)] [(2, s0)] ds m Q = (WP 126 14 [q0, (0, l1)] [(0, l1), (2, s0)] ds m Q) := P_nx k126_13 rfl
set_option maxRecDepth 20000 in
theorem k126_14 : mjCode 126 14 = some (.baload, 1, 0, 0) := by decide +kernel
theorem p126_14 {s0 s1 : Int} {q0 q1 : MV} {ds : Ds} {m : Mm} {Q : Ds → Mm → List MV → Prop} : WP 126 14 [q0, q1] [(0, s0), (2, s1)] ds m Q = ((dk ds s1 = 11 ∧ 0 ≤ s0 ∧ s0 < dl ds s1 ∧ WP 126 15 [q0, q1] [(0, m s1 s0)] ds m Q)) := P_g3 k126_14 rfl
set_option maxRecDepth 20000 in
theorem k126_15 : mjCode 126 15 = some (.ifCond .ne 7, 3, 22, 0) := by decide +kernel
theorem p126_15 {s0 : Int} {q0 q1 : MV} {ds : Ds} {m : Mm} {Q : Ds → Mm → List MV → Prop} : WP 126 15 [q0, q1] [(0, s0)] ds m Q = (if s0 = 0 then WP 126 18 [q0, q1] [] ds m Q else WP 126 22 [q0, q1] [] ds m Q) := P_if k126_15 rfl
set_option maxRecDepth 20000 in
theorem k126_18 : mjCode 126 18 = some (.iconst 1, 1, 0, 0) := by decide +kernel
theorem p126_18 {q0 q1 : MV} {ds : Ds} {m : Mm} {Q : Ds → Mm → List MV → Prop} : WP 126 18 [q0, q1] [] ds m Q = (WP 126 19 [q0, q1] [(0, 1)] ds m Q) := P_nx k126_18 rfl
set_option maxRecDepth 20000 in
theorem k126_19 : mjCode 126 19 = some (.goto 4, 3, 23, 0) := by decide +kernel
theorem p126_19 {s0 : Int} {q0 q1 : MV} {ds : Ds} {m : Mm} {Q : Ds → Mm → List MV → Prop} : WP 126 19 [q0, q1] [(0, s0)] ds m Q = (WP 126 23 [q0, q1] [(0, s0)] ds m Q) := P_nx k126_19 rfl
set_option maxRecDepth 20000 in
theorem k126_22 : mjCode 126 22 = some (.iconst 0, 1, 0, 0) := by decide +kernel
theorem p126_22 {q0 q1 : MV} {ds : Ds} {m : Mm} {Q : Ds → Mm → List MV → Prop} : WP 126 22 [q0, q1] [] ds m Q = (WP 126 23 [q0, q1] [(0, 0)] ds m Q) := P_nx k126_22 rfl
set_option maxRecDepth 20000 in
theorem k126_23 : mjCode 126 23 = some (.ireturn, 1, 0, 0) := by decide +kernel
theorem p126_23 {s0 : Int} {q0 q1 : MV} {ds : Ds} {m : Mm} {Q : Ds → Mm → List MV → Prop} : WP 126 23 [q0, q1] [(0, s0)] ds m Q = (((s0 = 0 ∨ s0 = 1) ∧ Q ds m [(0, s0)])) := P_rb k126_23 rk126
set_option maxRecDepth 20000 in
theorem k127_0 : mjCode 127 0 = some (.iload_n 2, 1, 0, 0) := by decide +kernel
theorem p127_0 {l2 : Int} {q0 q1 q3 q4 : MV} {ds : Ds} {m : Mm} {Q : Ds → Mm → List MV → Prop} : WP 127 0 [q0, q1, (0, l2), q3, q4] [] ds m Q = (WP 127 1 [q0, q1, (0, l2), q3, q4] [(0, l2)] ds m Q) := P_nx k127_0 rfl
set_option maxRecDepth 20000 in
theorem k127_1 : mjCode 127 1 = some (.iconst 1, 1, 0, 0) := by decide +kernel
theorem p127_1 {s0 : Int} {q0 q1 q2 q3 q4 : MV} {ds : Ds} {m : Mm} {Q : Ds → Mm → List MV → Prop} : WP 127 1 [q0, q1, q2, q3, q4] [(0, s0)] ds m Q = (WP 127 2 [q0, q1, q2, q3, q4] [(0, 1), (0, s0)] ds m Q) := P_nx k127_1 rfl
set_option maxRecDepth 20000 in
theorem k127_2 : mjCode 127 2 = some (.bipush 9, 2, 0, 0) := by decide +kernel
theorem p127_2 {s0 s1 : Int} {q0 q1 q2 q3 q4 : MV} {ds : Ds} {m : Mm} {Q : Ds → Mm → List MV → Prop} : WP 127 2 [q0, q1, q2, q3, q4] [(0, s0), (0, s1)] ds m Q = (WP 127 4 [q0, q1, q2, q3, q4] [(0, 9), (0, s0), (0, s1)] ds m Q) := P_nx k127_2 rfl
set_option maxRecDepth 20000 in
theorem k127_4 : mjCode 127 4 = some (.invokestatic 141, 3, 121, 3) := by decide +kernel
theorem p127_4 {s0 s1 s2 : Int} {q0 q1 q2 q3 q4 : MV} {ds : Ds} {m : Mm} {Q : Ds → Mm → List MV → Prop} : WP 127 4 [q0, q1, q2, q3, q4] [(0, s0), (0, s1), (0, s2)] ds m Q = (WP 120 0 [(0, s2), (0, s1), (0, s0)] [] ds m (fun d2 m2 r2 => WP 127 7 [q0, q1, q2, q3, q4] (r2 ++ []) d2 m2 Q)) := P_cs k127_4 mx120 rfl rfl rfl rfl rfl rfl rfl
set_option maxRecDepth 20000 in
theorem k127_7 : mjCode 127 7 = some (.ifCond .eq 32, 3, 39, 0) := by decide +kernel
theorem p127_7 {s0 : Int} {q0 q1 q2 q3 q4 : MV} {ds : Ds} {m : Mm} {Q : Ds → Mm → List MV → Prop} : WP 127 7 [q0, q1, q2, q3, q4] [(0, s0)] ds m Q = (if s0 = 0 then WP 127 39 [q0, q1, q2, q3, q4] [] ds m Q else WP 127 10 [q0, q1, q2, q3, q4] [] ds m Q) := P_if k127_7 rfl
set_option maxRecDepth 20000 in
theorem k127_10 : mjCode 127 10 = some (.iload_n 2, 1, 0, 0) := by decide +kernel
theorem p127_10 {l2 : Int} {q0 q1 q3 q4 : MV} {ds : Ds} {m : Mm} {Q : Ds → Mm → List MV → Prop} : WP 127 10 [q0, q1, (0, l2), q3, q4] [] ds m Q = (WP 127 11 [q0, q1, (0, l2), q3, q4] [(0, l2)] ds m Q) := P_nx k127_10 rfl
set_option maxRecDepth 20000 in
theorem k127_11 : mjCode 127 11 = some (.iconst 3, 1, 0, 0) := by decide +kernel
theorem p127_11 {s0 : Int} {q0 q1 q2 q3 q4 : MV} {ds : Ds} {m : Mm} {Q : Ds → Mm → List MV → Prop} : WP 127 11 [q0, q1, q2, q3, q4] [(0, s0)] ds m Q = (WP 127 12 [q0, q1, q2, q3, q4] [(0, 3), (0, s0)] ds m Q) := P_nx k127_11 rfl
set_option maxRecDepth 20000 in
theorem k127_12 : mjCode 127 12 = some (.if_icmp .eq 27, 3, 39, 0) := by decide +kernel
theorem p127_12 {s0 s1 : Int} {q0 q1 q2 q3 q4 : MV} {ds : Ds} {m : Mm} {Q : Ds → Mm → List MV → Prop} : WP 127 12 [q0, q1, q2, q3, q4] [(0, s0), (0, s1)] ds m Q = (if s1 = s0 then WP 127 39 [q0, q1, q2, q3, q4] [] ds m Q else WP 127 15 [q0, q1, q2, q3, q4] [] ds m Q) := P_if k127_12 rfl
set_option maxRecDepth 20000 in
theorem k127_15 : mjCode 127 15 = some (.aload_n 0, 1, 0, 0) := by decide +kernel
theorem p127_15 {l0 : Int} {q1 q2 q3 q4 : MV} {ds : Ds} {m : Mm} {Q : Ds → Mm → List MV → Prop} : WP 127 15 [(2, l0), q1, q2, q3, q4] [] ds m Q = (WP 127 16 [(2, l0), q1, q2, q3, q4] [(2, l0)] ds m Q) := P_nx k127_15 rfl
set_option maxRecDepth 20000 in
theorem k127_16 : mjCode 127 16 = some (.getfield 13, 3, 7, 1) := by decide +kernel
theorem p127_16 {s0 : Int} {q0 q1 q2 q3 q4 : MV} {ds : Ds} {m : Mm} {Q : Ds → Mm → List MV → Prop} : WP 127 16 [q0, q1, q2, q3, q4] [(2, s0)] ds m Q = ((dk ds s0 = 7 ∧ WP 127 19 [q0, q1, q2, q3, q4] [(2, m s0 1)] ds m Q)) := P_gd k127_16 rfl
set_option maxRecDepth 20000 in
theorem k127_19 : mjCode 127 19 = some (.iload_n 1, 1, 0, 0) := by decide +kernel
theorem p127_19 {l1 s0 : Int} {q0 q2 q3 q4 : MV} {ds : Ds} {m : Mm} {Q : Ds → Mm → List MV → Prop} : WP 127 19 [q0, (0, l1), q2, q3, q4] [(2, s0)] ds m Q = (WP 127 20 [q0, (0, l1), q2, q3, q4] [(0, l1), (2, s0)] ds m Q) := P_nx k127_19 rfl
set_option maxRecDepth 20000 in
theorem k127_20 : mjCode 127 20 = some (.iaload, 1, 0, 0) := by decide +kernel
theorem p127_20 {s0 s1 : Int} {q0 q1 q2 q3 q4 : MV} {ds : Ds} {m : Mm} {Q : Ds → Mm → List MV → Prop} : WP 127 20 [q0, q1, q2, q3, q4] [(0, s0), (2, s1)] ds m Q = ((dk ds s1 = 10 ∧ 0 ≤ s0 ∧ s0 < dl ds s1 ∧ WP 127 21 [q0, q1, q2, q3, q4] [(0, m s1 s0)] ds m Q)) := P_g3 k127_20 rfl
set_option maxRecDepth 20000 in
theorem k127_21 : mjCode 127 21 = some (.ifCond .ne 18, 3, 39, 0) := by decide +kernel
theorem p127_21 {s0 : Int} {q0 q1 q2 q3 q4 : MV} {ds : Ds} {m : Mm} {Q : Ds → Mm → List MV → Prop} : WP 127 21 [q0, q1, q2, q3, q4] [(0, s0)] ds m Q = (if s0 = 0 then WP 127 24 [q0, q1, q2, q3, q4] [] ds m Q else WP 127 39 [q0, q1, q2, q3, q4] [] ds m Q) := P_if k127_21 rfl
set_option maxRecDepth 20000 in
theorem k127_24 : mjCode 127 24 = some (.aload_n 0, 1, 0, 0) := by decide +kernel
theorem p127_24 {l0 : Int} {q1 q2 q3 q4 : MV} {ds : Ds} {m : Mm} {Q : Ds → Mm → List MV → Prop} : WP 127 24 [(2, l0), q1, q2, q3, q4] [] ds m Q = (WP 127 25 [(2, l0), q1, q2, q3, q4] [(2, l0)] ds m Q) := P_nx k127_24 rfl
set_option maxRecDepth 20000 in
theorem k127_25 : mjCode 127 25 = some (.getfield 25, 3, 7, 5) := by decide +kernel
theorem p127_25 {s0 : Int} {q0 q1 q2 q3 q4 : MV} {ds : Ds} {m : Mm} {Q : Ds → Mm → List MV → Prop} : WP 127 25 [q0, q1, q2, q3, q4] [(2, s0)] ds m Q = ((dk ds s0 = 7 ∧ WP 127 28 [q0, q1, q2, q3, q4] [(2, m s0 5)] ds m Q)) := P_gd k127_25 rfl
set_option maxRecDepth 20000 in
theorem k127_28 : mjCode 127 28 = some (.iload_n 1, 1, 0, 0) := by decide +kernel
theorem p127_28 {l1 s0 : Int} {q0 q2 q3 q4 : MV} {ds : Ds} {m : Mm} {Q : Ds → Mm → List MV → Prop} : WP 127 28 [q0, (0, l1), q2, q3, q4] [(2, s0)] ds m Q = (WP 127 29 [q0, (0, l1), q2, q3, q4] [(0, l1), (2, s0)] ds m Q) := P_nx k127_28 rfl
set_option maxRecDepth 20000 in
theorem k127_29 : mjCode 127 29 = some (.baload, 1, 0, 0) := by decide +kernel
theorem p127_29 {s0 s1 : Int} {q0 q1 q2 q3 q4 : MV} {ds : Ds} {m : Mm} {Q : Ds → Mm → List MV → Prop} : WP 127 29 [q0, q1, q2, q3, q4] [(0, s0), (2, s1)] ds m Q = ((dk ds s1 = 11 ∧ 0 ≤ s0 ∧ s0 < dl ds s1 ∧ WP 127 30 [q0, q1, q2, q3, q4] [(0, m s1 s0)] ds m Q)) := P_g3 k127_29 rfl
set_option maxRecDepth 20000 in
theorem k127_30 : mjCode 127 30 = some (.ifCond .eq 11, 3, 41, 0) := by decide +kernel
theorem p127_30 {s0 : Int} {q0 q1 q2 q3 q4 : MV} {ds : Ds} {m : Mm} {Q : Ds → Mm → List MV → Prop} : WP 127 30 [q0, q1, q2, q3, q4] [(0, s0)] ds m Q = (if s0 = 0 then WP 127 41 [q0, q1, q2, q3, q4] [] ds m Q else WP 127 33 [q0, q1, q2, q3, q4] [] ds m Q) := P_if k127_30 rfl
set_option maxRecDepth 20000 in
theorem k127_33 : mjCode 127 33 = some (.iload_n 2, 1, 0, 0) := by decide +kernel
theorem p127_33 {l2 : Int} {q0 q1 q3 q4 : MV} {ds : Ds} {m : Mm} {Q : Ds → Mm → List MV → Prop} : WP 127 33 [q0, q1, (0, l2), q3, q4] [] ds m Q = (WP 127 34 [q0, q1, (0, l2), q3, q4] [(0, l2)] ds m Q) := P_nx k127_33 rfl
set_option maxRecDepth 20000 in
theorem k127_34 : mjCode 127 34 = some (.bipush 9, 2, 0, 0) := by decide +kernel
theorem p127_34 {s0 : Int} {q0 q1 q2 q3 q4 : MV} {ds : Ds} {m : Mm} {Q : Ds → Mm → List MV → Prop} : WP 127 34 [q0, q1, q2, q3, q4] [(0, s0)] ds m Q = (WP 127 36 [q0, q1, q2, q3, q4] [(0, 9), (0, s0)] ds m Q) := P_nx k127_34 rfl
set_option maxRecDepth 20000 in
theorem k127_36 : mjCode 127 36 = some (.if_icmp .eq 5, 3, 41, 0) := by decide +kernel
theorem p127_36 {s0 s1 : Int} {q0 q1 q2 q3 q4 : MV} {ds : Ds} {m : Mm} {Q : Ds → Mm → List MV → Prop} : WP 127 36 [q0, q1, q2, q3, q4] [(0, s0), (0, s1)] ds m Q = (if s1 = s0 then WP 127 41 [q0, q1, q2, q3, q4] [] ds m Q else WP 127 39 [q0, q1, q2, q3, q4] [] ds m Q) := P_if k127_36 rfl
set_option maxRecDepth 20000 in
theorem k127_39 : mjCode 127 39 = some (.iconst 0, 1, 0, 0) := by decide +kernel
theorem p127_39 {q0 q1 q2 q3 q4 : MV} {ds : Ds} {m : Mm} {Q : Ds → Mm → List MV → Prop} : WP 127 39 [q0, q1, q2, q3, q4] [] ds m Q = (WP 127 40 [q0, q1, q2, q3, q4] [(0, 0)] ds m Q) := P_nx k127_39 rfl
set_option maxRecDepth 20000 in
theorem k127_40 : mjCode 127 40 = some (.ireturn, 1, 0, 0) := by decide +kernel
theorem p127_40 {s0 : Int} {q0 q1 q2 q3 q4 : MV} {ds : Ds} {m : Mm} {Q : Ds → Mm → List MV → Prop} : WP 127 40 [q0, q1, q2, q3, q4] [(0, s0)] ds m Q = (((s0 = 0 ∨ s0 = 1) ∧ Q ds m [(0, s0)])) := P_rb k127_40 rk127
set_option maxRecDepth 20000 in
theorem k127_41 : mjCode 127 41 = some (.iload_n 2, 1, 0, 0) := by decide +kernel
theorem p127_41 {l2 : Int} {q0 q1 q3 q4 : MV} {ds : Ds} {m : Mm} {Q : Ds → Mm → List MV → Prop} : WP 127 41 [q0, q1, (0, l2), q3, q4] [] ds m Q = (WP 127 42 [q0, q1, (0, l2), q3, q4] [(0, l2)] ds m Q) := P_nx k127_41 rfl
set_option maxRecDepth 20000 in
theorem k127_42 : mjCode 127 42 = some (.iconst 1, 1, 0, 0) := by decide +kernel
theorem p127_42 {s0 : Int} {q0 q1 q2 q3 q4 : MV} {ds : Ds} {m : Mm} {Q : Ds → Mm → List MV → Prop} : WP 127 42 [q0, q1, q2, q3, q4] [(0, s0)] ds m Q = (WP 127 43 [q0, q1, q2, q3, q4] [(0, 1), (0, s0)] ds m Q) := P_nx k127_42 rfl
set_option maxRecDepth 20000 in
theorem k127_43 : mjCode 127 43 = some (.if_icmp .ne 12, 3, 55, 0) := by decide +kernel
theorem p127_43 {s0 s1 : Int} {q0 q1 q2 q3 q4 : MV} {ds : Ds} {m : Mm} {Q : Ds → Mm → List MV → Prop} : WP 127 43 [q0, q1, q2, q3, q4] [(0, s0), (0, s1)] ds m Q = (if s1 = s0 then WP 127 46 [q0, q1, q2, q3, q4] [] ds m Q else WP 127 55 [q0, q1, q2, q3, q4] [] ds m Q) := P_if k127_43 rfl
set_option maxRecDepth 20000 in
theorem k127_46 : mjCode 127 46 = some (.iload_n 3, 1, 0, 0) := by decide +kernel
theorem p127_46 {l3 : Int} {q0 q1 q2 q4 : MV} {ds : Ds} {m : Mm} {Q : Ds → Mm → List MV → Prop} : WP 127 46 [q0, q1, q2, (0, l3), q4] [] ds m Q = (WP 127 47 [q0, q1, q2, (0, l3), q4] [(0, l3)] ds m Q) := P_nx k127_46 rfl
set_option maxRecDepth 20000 in
theorem k127_47 : mjCode 127 47 = some (.iconst 0, 1, 0, 0) := by decide +kernel
theorem p127_47 {s0 : Int} {q0 q1 q2 q3 q4 : MV} {ds : Ds} {m : Mm} {Q : Ds → Mm → List MV → Prop} : WP 127 47 [q0, q1, q2, q3, q4] [(0, s0)] ds m Q = (WP 127 48 [q0, q1, q2, q3, q4] [(0, 0), (0, s0)] ds m Q) := P_nx k127_47 rfl
set_option maxRecDepth 20000 in
theorem k127_48 : mjCode 127 48 = some (.iconst 1, 1, 0, 0) := by decide +kernel
theorem p127_48 {s0 s1 : Int} {q0 q1 q2 q3 q4 : MV} {ds : Ds} {m : Mm} {Q : Ds → Mm → List MV → Prop} : WP 127 48 [q0, q1, q2, q3, q4] [(0, s0), (0, s1)] ds m Q = (WP 127 49 [q0, q1, q2, q3, q4] [(0, 1), (0, s0), (0, s1)] ds m Q) := P_nx k127_48 rfl
set_option maxRecDepth 20000 in
theorem k127_49 : mjCode 127 49 = some (.invokestatic 141, 3, 121, 3) := by decide +kernel
theorem p127_49 {s0 s1 s2 : Int} {q0 q1 q2 q3 q4 : MV} {ds : Ds} {m : Mm} {Q : Ds → Mm → List MV → Prop} : WP 127 49 [q0, q1, q2, q3, q4] [(0, s0), (0, s1), (0, s2)] ds m Q = (WP 120 0 [(0, s2), (0, s1), (0, s0)] [] ds m (fun d2 m2 r2 => WP 127 52 [q0, q1, q2, q3, q4] (r2 ++ []) d2 m2 Q)) := P_cs k127_49 mx120 rfl rfl rfl rfl rfl rfl rfl
set_option maxRecDepth 20000 in
theorem k127_52 : mjCode 127 52 = some (.ifCond .eq 32, 3, 84, 0) := by decide +kernel
theorem p127_52 {s0 : Int} {q0 q1 q2 q3 q4 : MV} {ds : Ds} {m : Mm} {Q : Ds → Mm → List MV → Prop} : WP 127 52 [q0, q1, q2, q3, q4] [(0, s0)] ds m Q = (if s0 = 0 then WP 127 84 [q0, q1, q2, q3, q4] [] ds m Q else WP 127 55 [q0, q1, q2, q3, q4] [] ds m Q) := P_if k127_52 rfl
set_option maxRecDepth 20000 in
theorem k127_55 : mjCode 127 55 = some (.iload_n 2, 1, 0, 0) := by decide +kernel
theorem p127_55 {l2 : Int} {q0 q1 q3 q4 : MV} {ds : Ds} {m : Mm} {Q : Ds → Mm → List MV → Prop} : WP 127 55 [q0, q1, (0, l2), q3, q4] [] ds m Q = (WP 127 56 [q0, q1, (0, l2), q3, q4] [(0, l2)] ds m Q) := P_nx k127_55 rfl
set_option maxRecDepth 20000 in
theorem k127_56 : mjCode 127 56 = some (.invokestatic 145, 3, 125, 1) := by decide +kernel
theorem p127_56 {s0 : Int} {q0 q1 q2 q3 q4 : MV} {ds : Ds} {m : Mm} {Q : Ds → Mm → List MV → Prop} : WP 127 56 [q0, q1, q2, q3, q4] [(0, s0)] ds m Q = (WP 124 0 [(0, s0)] [] ds m (fun d2 m2 r2 => WP 127 59 [q0, q1, q2, q3, q4] (r2 ++ []) d2 m2 Q)) := P_cs k127_56 mx124 rfl rfl rfl rfl rfl rfl rfl
set_option maxRecDepth 20000 in
theorem k127_59 : mjCode 127 59 = some (.ifCond .eq 12, 3, 71, 0) := by decide +kernel
theorem p127_59 {s0 : Int} {q0 q1 q2 q3 q4 : MV} {ds : Ds} {m : Mm} {Q : Ds → Mm → List MV → Prop} : WP 127 59 [q0, q1, q2, q3, q4] [(0, s0)] ds m Q = (if s0 = 0 then WP 127 71 [q0, q1, q2, q3, q4] [] ds m Q else WP 127 62 [q0, q1, q2, q3, q4] [] ds m Q) := P_if k127_59 rfl
set_option maxRecDepth 20000 in
theorem k127_62 : mjCode 127 62 = some (.iload_n 3, 1, 0, 0) := by decide +kernel
theorem p127_62 {l3 : Int} {q0 q1 q2 q4 : MV} {ds : Ds} {m : Mm} {Q : Ds → Mm → List MV → Prop} : WP 127 62 [q0, q1, q2, (0, l3), q4] [] ds m Q = (WP 127 63 [q0, q1, q2, (0, l3), q4] [(0, l3)] ds m Q) := P_nx k127_62 rfl
set_option maxRecDepth 20000 in
theorem k127_63 : mjCode 127 63 = some (.iconst 0, 1, 0, 0) := by decide +kernel
theorem p127_63 {s0 : Int} {q0 q1 q2 q3 q4 : MV} {ds : Ds} {m : Mm} {Q : Ds → Mm → List MV → Prop} : WP 127 63 [q0, q1, q2, q3, q4] [(0, s0)] ds m Q = (WP 127 64 [q0, q1, q2, q3, q4] [(0, 0), (0, s0)] ds m Q) := P_nx k127_63 rfl
set_option maxRecDepth 20000 in
theorem k127_64 : mjCode 127 64 = some (.iconst 3, 1, 0, 0) := by decide +kernel
theorem p127_64 {s0 s1 : Int} {q0 q1 q2 q3 q4 : MV} {ds : Ds} {m : Mm} {Q : Ds → Mm → List MV → Prop} : WP 127 64 [q0, q1, q2, q3, q4] [(0, s0), (0, s1)] ds m Q = (WP 127 65 [q0, q1, q2, q3, q4] [(0, 3), (0, s0), (0, s1)] ds m Q) := P_nx k127_64 rfl
set_option maxRecDepth 20000 in
theorem k127_65 : mjCode 127 65 = some (.invokestatic 141, 3, 121, 3) := by decide +kernel
theorem p127_65 {s0 s1 s2 : Int} {q0 q1 q2 q3 q4 : MV} {ds : Ds} {m : Mm} {Q : Ds → Mm → List MV → Prop} : WP 127 65 [q0, q1, q2, q3, q4] [(0, s0), (0, s1), (0, s2)] ds m Q = (WP 120 0 [(0, s2), (0, s1), (0, s0)] [] ds m (fun d2 m2 r2 => WP 127 68 [q0, q1, q2, q3, q4] (r2 ++ []) d2 m2 Q)) := P_cs k127_65 mx120 rfl rfl rfl rfl rfl rfl rfl
set_option maxRecDepth 20000 in
theorem k127_68 : mjCode 127 68 = some (.ifCond .eq 16, 3, 84, 0) := by decide +kernel
theorem p127_68 {s0 : Int} {q0 q1 q2 q3 q4 : MV} {ds : Ds} {m : Mm} {Q : Ds → Mm → List MV → Prop} : WP 127 68 [q0, q1, q2, q3, q4] [(0, s0)] ds m Q = (if s0 = 0 then WP 127 84 [q0, q1, q2, q3, q4] [] ds m Q else WP 127 71 [q0, q1, q2, q3, q4] [] ds m Q) := P_if k127_68 rfl
set_option maxRecDepth 20000 in
theorem k127_71 : mjCode 127 71 = some (.iload_n 2, 1, 0, 0) := by decide +kernel
theorem p127_71 {l2 : Int} {q0 q1 q3 q4 : MV} {ds : Ds} {m : Mm} {Q : Ds → Mm → List MV → Prop} : WP 127 71 [q0, q1, (0, l2), q3, q4] [] ds m Q = (WP 127 72 [q0, q1, (0, l2), q3, q4] [(0, l2)] ds m Q) := P_nx k127_71 rfl
set_option maxRecDepth 20000 in
theorem k127_72 : mjCode 127 72 = some (.bipush 9, 2, 0, 0) := by decide +kernel
theorem p127_72 {s0 : Int} {q0 q1 q2 q3 q4 : MV} {ds : Ds} {m : Mm} {Q : Ds → Mm → List MV → Prop} : WP 127 72 [q0, q1, q2, q3, q4] [(0, s0)] ds m Q = (WP 127 74 [q0, q1, q2, q3, q4] [(0, 9), (0, s0)] ds m Q) := P_nx k127_72 rfl
set_option maxRecDepth 20000 in
theorem k127_74 : mjCode 127 74 = some (.if_icmp .ne 12, 3, 86, 0) := by decide +kernel
theorem p127_74 {s0 s1 : Int} {q0 q1 q2 q3 q4 : MV} {ds : Ds} {m : Mm} {Q : Ds → Mm → List MV → Prop} : WP 127 74 [q0, q1, q2, q3, q4] [(0, s0), (0, s1)] ds m Q = (if s1 = s0 then WP 127 77 [q0, q1, q2, q3, q4] [] ds m Q else WP 127 86 [q0, q1, q2, q3, q4] [] ds m Q) := P_if k127_74 rfl
set_option maxRecDepth 20000 in
theorem k127_77 : mjCode 127 77 = some (.iload_n 3, 1, 0, 0) := by decide +kernel
theorem p127_77 {l3 : Int} {q0 q1 q2 q4 : MV} {ds : Ds} {m : Mm} {Q : Ds → Mm → List MV → Prop} : WP 127 77 [q0, q1, q2, (0, l3), q4] [] ds m Q = (WP 127 78 [q0, q1, q2, (0, l3), q4] [(0, l3)] ds m Q) := P_nx k127_77 rfl
set_option maxRecDepth 20000 in
theorem k127_78 : mjCode 127 78 = some (.invokestatic 149, 3, 126, 1) := by decide +kernel
theorem p127_78 {s0 : Int} {q0 q1 q2 q3 q4 : MV} {ds : Ds} {m : Mm} {Q : Ds → Mm → List MV → Prop} : WP 127 78 [q0, q1, q2, q3, q4] [(0, s0)] ds m Q = (WP 125 0 [(0, s0)] [] ds m (fun d2 m2 r2 => WP 127 81 [q0, q1, q2, q3, q4] (r2 ++ []) d2 m2 Q)) := P_cs k127_78 mx125 rfl rfl rfl rfl rfl rfl rfl
set_option maxRecDepth 20000 in
theorem k127_81 : mjCode 127 81 = some (.ifCond .ne 5, 3, 86, 0) := by decide +kernel
theorem p127_81 {s0 : Int} {q0 q1 q2 q3 q4 : MV} {ds : Ds} {m : Mm} {Q : Ds → Mm → List MV → Prop} : WP 127 81 [q0, q1, q2, q3, q4] [(0, s0)] ds m Q = (if s0 = 0 then WP 127 84 [q0, q1, q2, q3, q4] [] ds m Q else WP 127 86 [q0, q1, q2, q3, q4] [] ds m Q) := P_if k127_81 rfl
set_option maxRecDepth 20000 in
theorem k127_84 : mjCode 127 84 = some (.iconst 0, 1, 0, 0) := by decide +kernel
theorem p127_84 {q0 q1 q2 q3 q4 : MV} {ds : Ds} {m : Mm} {Q : Ds → Mm → List MV → Prop} : WP 127 84 [q0, q1, q2, q3, q4] [] ds m Q = (WP 127 85 [q0, q1, q2, q3, q4] [(0, 0)] ds m Q) := P_nx k127_84 rfl
set_option maxRecDepth 20000 in
theorem k127_85 : mjCode 127 85 = some (.ireturn, 1, 0, 0) := by decide +kernel
theorem p127_85 {s0 : Int} {q0 q1 q2 q3 q4 : MV} {ds : Ds} {m : Mm} {Q : Ds → Mm → List MV → Prop} : WP 127 85 [q0, q1, q2, q3, q4] [(0, s0)] ds m Q = (((s0 = 0 ∨ s0 = 1) ∧ Q ds m [(0, s0)])) := P_rb k127_85 rk127
set_option maxRecDepth 20000 in
theorem k127_86 : mjCode 127 86 = some (.iload_n 2, 1, 0, 0) := by decide +kernel
theorem p127_86 {l2 : Int} {q0 q1 q3 q4 : MV} {ds : Ds} {m : Mm} {Q : Ds → Mm → List MV → Prop} : WP 127 86 [q0, q1, (0, l2), q3, q4] [] ds m Q = (WP 127 87 [q0, q1, (0, l2), q3, q4] [(0, l2)] ds m Q) := P_nx k127_86 rfl
set_option maxRecDepth 20000 in
theorem k127_87 : mjCode 127 87 = some (.iconst 4, 1, 0, 0) := by decide +kernel
theorem p127_87 {s0 : Int} {q0 q1 q2 q3 q4 : MV} {ds : Ds} {m : Mm} {Q : Ds → Mm → List MV → Prop} : WP 127 87 [q0, q1, q2, q3, q4] [(0, s0)] ds m Q = (WP 127 88 [q0, q1, q2, q3, q4] [(0, 4), (0, s0)] ds m Q) := P_nx k127_87 rfl
set_option maxRecDepth 20000 in
theorem k127_88 : mjCode 127 88 = some (.if_icmp .ne 14, 3, 102, 0) := by decide +kernel
theorem p127_88 {s0 s1 : Int} {q0 q1 q2 q3 q4 : MV} {ds : Ds} {m : Mm} {Q : Ds → Mm → List MV → Prop} : WP 127 88 [q0, q1, q2, q3, q4] [(0, s0), (0, s1)] ds m Q = (if s1 = s0 then WP 127 91 [q0, q1, q2, q3, q4] [] ds m Q else WP 127 102 [q0, q1, q2, q3, q4] [] ds m Q) := P_if k127_88 rfl
set_option maxRecDepth 20000 in
theorem k127_91 : mjCode 127 91 = some (.iload 4, 2, 0, 0) := by decide +kernel
theorem p127_91 {l4 : Int} {q0 q1 q2 q3 : MV} {ds : Ds} {m : Mm} {Q : Ds → Mm → List MV → Prop} : WP 127 91 [q0, q1, q2, q3, (0, l4)] [] ds m Q = (WP 127 93 [q0, q1, q2, q3, (0, l4)] [(0, l4)] ds m Q) := P_nx k127_91 rfl
set_option maxRecDepth 20000 in
theorem k127_93 : mjCode 127 93 = some (.iconst 1, 1, 0, 0) := by decide +kernel
theorem p127_93 {s0 : Int} {q0 q1 q2 q3 q4 : MV} {ds : Ds} {m : Mm} {Q : Ds → Mm → List MV → Prop} : WP 127 93 [q0, q1, q2, q3, q4] [(0, s0)] ds m Q = (WP 127 94 [q0, q1, q2, q3, q4] [(0, 1), (0, s0)] ds m Q) := P_nx k127_93 rfl
set_option maxRecDepth 20000 in
theorem k127_94 : mjCode 127 94 = some (.bipush 60, 2, 0, 0) := by decide +kernel
theorem p127_94 {s0 s1 : Int} {q0 q1 q2 q3 q4 : MV} {ds : Ds} {m : Mm} {Q : Ds → Mm → List MV → Prop} : WP 127 94 [q0, q1, q2, q3, q4] [(0, s0), (0, s1)] ds m Q = (WP 127 96 [q0, q1, q2, q3, q4] [(0, 60), (0, s0), (0, s1)] ds m Q) := P_nx k127_94 rfl
set_option maxRecDepth 20000 in
theorem k127_96 : mjCode 127 96 = some (.invokestatic 141, 3, 121, 3) := by decide +kernel
theorem p127_96 {s0 s1 s2 : Int} {q0 q1 q2 q3 q4 : MV} {ds : Ds} {m : Mm} {Q : Ds → Mm → List MV → Prop} : WP 127 96 [q0, q1, q2, q3, q4] [(0, s0), (0, s1), (0, s2)] ds m Q = (WP 120 0 [(0, s2), (0, s1), (0, s0)] [] ds m (fun d2 m2 r2 => WP 127 99 [q0, q1, q2, q3, q4] (r2 ++ []) d2 m2 Q)) := P_cs k127_96 mx120 rfl rfl rfl rfl rfl rfl rfl
set_option maxRecDepth 20000 in
theorem k127_99 : mjCode 127 99 = some (.goto 25, 3, 124, 0) := by decide +kernel
theorem p127_99 {s0 : Int} {q0 q1 q2 q3 q4 : MV} {ds : Ds} {m : Mm} {Q : Ds → Mm → List MV → Prop} : WP 127 99 [q0, q1, q2, q3, q4] [(0, s0)] ds m Q = (WP 127 124 [q0, q1, q2, q3, q4] [(0, s0)] ds m Q) := P_nx k127_99 rfl
set_option maxRecDepth 20000 in
theorem k127_102 : mjCode 127 102 = some (.iload_n 2, 1, 0, 0) := by decide +kernel
theorem p127_102 {l2 : Int} {q0 q1 q3 q4 : MV} {ds : Ds} {m : Mm} {Q : Ds → Mm → List MV → Prop} : WP 127 102 [q0, q1, (0, l2), q3, q4] [] ds m Q = (WP 127 103 [q0, q1, (0, l2), q3, q4] [(0, l2)] ds m Q) := P_nx k127_102 rfl
set_option maxRecDepth 20000 in
theorem k127_103 : mjCode 127 103 = some (.bipush 6, 2, 0, 0) := by decide +kernel
theorem p127_103 {s0 : Int} {q0 q1 q2 q3 q4 : MV} {ds : Ds} {m : Mm} {Q : Ds → Mm → List MV → Prop} : WP 127 103 [q0, q1, q2, q3, q4] [(0, s0)] ds m Q = (WP 127 105 [q0, q1, q2, q3, q4] [(0, 6), (0, s0)] ds m Q) := P_nx k127_103 rfl
set_option maxRecDepth 20000 in
theorem k127_105 : mjCode 127 105 = some (.if_icmp .ne 14, 3, 119, 0) := by decide +kernel
theorem p127_105 {s0 s1 : Int} {q0 q1 q2 q3 q4 : MV} {ds : Ds} {m : Mm} {Q : Ds → Mm → List MV → Prop} : WP 127 105 [q0, q1, q2, q3, q4] [(0, s0), (0, s1)] ds m Q = (if s1 = s0 then WP 127 108 [q0, q1, q2, q3, q4] [] ds m Q else WP 127 119 [q0, q1, q2, q3, q4] [] ds m Q) := P_if k127_105 rfl
set_option maxRecDepth 20000 in
theorem k127_108 : mjCode 127 108 = some (.iload 4, 2, 0, 0) := by decide +kernel
theorem p127_108 {l4 : Int} {q0 q1 q2 q3 : MV} {ds : Ds} {m : Mm} {Q : Ds → Mm → List MV → Prop} : WP 127 108 [q0, q1, q2, q3, (0, l4)] [] ds m Q = (WP 127 110 [q0, q1, q2, q3, (0, l4)] [(0, l4)] ds m Q) := P_nx k127_108 rfl
set_option maxRecDepth 20000 in
theorem k127_110 : mjCode 127 110 = some (.iconst 1, 1, 0, 0) := by decide +kernel
theorem p127_110 {s0 : Int} {q0 q1 q2 q3 q4 : MV} {ds : Ds} {m : Mm} {Q : Ds → Mm → List MV → Prop} : WP 127 110 [q0, q1, q2, q3, q4] [(0, s0)] ds m Q = (WP 127 111 [q0, q1, q2, q3, q4] [(0, 1), (0, s0)] ds m Q) := P_nx k127_110 rfl
set_option maxRecDepth 20000 in
theorem k127_111 : mjCode 127 111 = some (.bipush 9, 2, 0, 0) := by decide +kernel
theorem p127_111 {s0 s1 : Int} {q0 q1 q2 q3 q4 : MV} {ds : Ds} {m : Mm} {Q : Ds → Mm → List MV → Prop} : WP 127 111 [q0, q1, q2, q3, q4] [(0, s0), (0, s1)] ds m Q = (WP 127 113 [q0, q1, q2, q3, q4] [(0, 9), (0, s0), (0, s1)] ds m Q) := P_nx k127_111 rfl
set_option maxRecDepth 20000 in
theorem k127_113 : mjCode 127 113 = some (.invokestatic 141, 3, 121, 3) := by decide +kernel
theorem p127_113 {s0 s1 s2 : Int} {q0 q1 q2 q3 q4 : MV} {ds : Ds} {m : Mm} {Q : Ds → Mm → List MV → Prop} : WP 127 113 [q0, q1, q2, q3, q4] [(0, s0), (0, s1), (0, s2)] ds m Q = (WP 120 0 [(0, s2), (0, s1), (0, s0)] [] ds m (fun d2 m2 r2 => WP 127 116 [q0, q1, q2, q3, q4] (r2 ++ []) d2 m2 Q)) := P_cs k127_113 mx120 rfl rfl rfl rfl rfl rfl rfl
set_option maxRecDepth 20000 in
theorem k127_116 : mjCode 127 116 = some (.ifCond .eq 7, 3, 123, 0) := by decide +kernel
theorem p127_116 {s0 : Int} {q0 q1 q2 q3 q4 : MV} {ds : Ds} {m : Mm} {Q : Ds → Mm → List MV → Prop} : WP 127 116 [q0, q1, q2, q3, q4] [(0, s0)] ds m Q = (if s0 = 0 then WP 127 123 [q0, q1, q2, q3, q4] [] ds m Q else WP 127 119 [q0, q1, q2, q3, q4] [] ds m Q) := P_if k127_116 rfl
set_option maxRecDepth 20000 in
theorem k127_119 : mjCode 127 119 = some (.iconst 1, 1, 0, 0) := by decide +kernel
theorem p127_119 {q0 q1 q2 q3 q4 : MV} {ds : Ds} {m : Mm} {Q : Ds → Mm → List MV → Prop} : WP 127 119 [q0, q1, q2, q3, q4] [] ds m Q = (WP 127 120 [q0, q1, q2, q3, q4] [(0, 1)] ds m Q) := P_nx k127_119 rfl
set_option maxRecDepth 20000 in
theorem k127_120 : mjCode 127 120 = some (.goto 4, 3, 124, 0) := by decide +kernel
theorem p127_120 {s0 : Int} {q0 q1 q2 q3 q4 : MV} {ds : Ds} {m : Mm} {Q : Ds → Mm → List MV → Prop} : WP 127 120 [q0, q1, q2, q3, q4] [(0, s0)] ds m Q = (WP 127 124 [q0, q1, q2, q3, q4] [(0, s0)] ds m Q) := P_nx k127_120 rfl
set_option maxRecDepth 20000 in
theorem k127_123 : mjCode 127 123 = some (.iconst 0, 1, 0, 0) := by decide +kernel
theorem p127_123 {q0 q1 q2 q3 q4 : MV} {ds : Ds} {m : Mm} {Q : Ds → Mm → List MV → Prop} : WP 127 123 [q0, q1, q2, q3, q4] [] ds m Q = (WP 127 124 [q0, q1, q2, q3, q4] [(0, 0)] ds m Q) := P_nx k127_123 rfl
set_option maxRecDepth 20000 in
theorem k127_124 : mjCode 127 124 = some (.ireturn, 1, 0, 0) := by decide +kernel
theorem p127_124 {s0 : Int} {q0 q1 q2 q3 q4 : MV} {ds : Ds} {m : Mm} {Q : Ds → Mm → List MV → Prop} : WP 127 124 [q0, q1, q2, q3, q4] [(0, s0)] ds m Q = (((s0 = 0 ∨ s0 = 1) ∧ Q ds m [(0, s0)])) := P_rb k127_124 rk127
set_option maxRecDepth 20000 in
theorem k128_0 : mjCode 128 0 = some (.aload_n 0, 1, 0, 0) := by decide +kernel
theorem p128_0 {l0 : Int} {q1 q2 q3 q4 : MV} {ds : Ds} {m : Mm} {Q : Ds → Mm → List MV → Prop} : WP 128 0 [(2, l0), q1, q2, q3, q4] [] ds m Q = (WP 128 1 [(2, l0), q1, q2, q3, q4] [(2, l0)] ds m Q) := P_nx k128_0 rfl
set_option maxRecDepth 20000 in
theorem k128_1 : mjCode 128 1 = some (.getfield 13, 3, 7, 1) := by decide +kernel
theorem p128_1 {s0 : Int} {q0 q1 q2 q3 q4 : MV} {ds : Ds} {m : Mm} {Q : Ds → Mm → List MV → Prop} : WP 128 1 [q0, q1, q2, q3, q4] [(2, s0)] ds m Q = ((dk ds s0 = 7 ∧ WP 128 4 [q0, q1, q2, q3, q4] [(2, m s0 1)] ds m Q)) := P_gd k128_1 rfl
set_option maxRecDepth 20000 in
theorem k128_4 : mjCode 128 4 = some (.iload_n 1, 1, 0, 0) := by decide +kernel
theorem p128_4 {l1 s0 : Int} {q0 q2 q3 q4 : MV} {ds : Ds} {m : Mm} {Q : Ds → Mm → List MV → Prop} : WP 128 4 [q0, (0, l1), q2, q3, q4] [(2, s0)] ds m Q = (WP 128 5 [q0, (0, l1), q2, q3, q4] [(0, l1), (2, s0)] ds m Q) := P_nx k128_4 rfl
set_option maxRecDepth 20000 in
theorem k128_5 : mjCode 128 5 = some (.iload_n 2, 1, 0, 0) := by decide +kernel
theorem p128_5 {l2 s0 s1 : Int} {q0 q1 q3 q4 : MV} {ds : Ds} {m : Mm} {Q : Ds → Mm → List MV → Prop} : WP 128 5 [q0, q1, (0, l2), q3, q4] [(0, s0), (2, s1)] ds m Q = (WP 128 6 [q0, q1, (0, l2), q3, q4] [(0, l2), (0, s0), (2, s1)] ds m Q) := P_nx k128_5 rfl
set_option maxRecDepth 20000 in
theorem k128_6 : mjCode 128 6 = some (.iastore, 1, 0, 0) := by decide +kernel
theorem p128_6 {s0 s1 s2 : Int} {q0 q1 q2 q3 q4 : MV} {ds : Ds} {m : Mm} {Q : Ds → Mm → List MV → Prop} : WP 128 6 [q0, q1, q2, q3, q4] [(0, s0), (0, s1), (2, s2)] ds m Q = ((dk ds s2 = 10 ∧ 0 ≤ s1 ∧ s1 < dl ds s2 ∧ WP 128 7 [q0, q1, q2, q3, q4] [] ds (up m s2 s1 s0) Q)) := P_s3 k128_6 rfl
set_option maxRecDepth 20000 in
theorem k128_7 : mjCode 128 7 = some (.aload_n 0, 1, 0, 0) := by decide +kernel
theorem p128_7 {l0 : Int} {q1 q2 q3 q4 : MV} {ds : Ds} {m : Mm} {Q : Ds → Mm → List MV → Prop} : WP 128 7 [(2, l0), q1, q2, q3, q4] [] ds m Q = (WP 128 8 [(2, l0), q1, q2, q3, q4] [(2, l0)] ds m Q) := P_nx k128_7 rfl
set_option maxRecDepth 20000 in
theorem k128_8 : mjCode 128 8 = some (.getfield 16, 3, 7, 2) := by decide +kernel
theorem p128_8 {s0 : Int} {q0 q1 q2 q3 q4 : MV} {ds : Ds} {m : Mm} {Q : Ds → Mm → List MV → Prop} : WP 128 8 [q0, q1, q2, q3, q4] [(2, s0)] ds m Q = ((dk ds s0 = 7 ∧ WP 128 11 [q0, q1, q2, q3, q4] [(2, m s0 2)] ds m Q)) := P_gd k128_8 rfl
set_option maxRecDepth 20000 in
theorem k128_11 : mjCode 128 11 = some (.iload_n 1, 1, 0, 0) := by decide +kernel
theorem p128_11 {l1 s0 : Int} {q0 q2 q3 q4 : MV} {ds : Ds} {m : Mm} {Q : Ds → Mm → List MV → Prop} : WP 128 11 [q0, (0, l1), q2, q3, q4] [(2, s0)] ds m Q = (WP 128 12 [q0, (0, l1), q2, q3, q4] [(0, l1), (2, s0)] ds m Q) := P_nx k128_11 rfl
set_option maxRecDepth 20000 in
theorem k128_12 : mjCode 128 12 = some (.iload_n 2, 1, 0, 0) := by decide +kernel
theorem p128_12 {l2 s0 s1 : Int} {q0 q1 q3 q4 : MV} {ds : Ds} {m : Mm} {Q : Ds → Mm → List MV → Prop} : WP 128 12 [q0, q1, (0, l2), q3, q4] [(0, s0), (2, s1)] ds m Q = (WP 128 13 [q0, q1, (0, l2), q3, q4] [(0, l2), (0, s0), (2, s1)] ds m Q) := P_nx k128_12 rfl
set_option maxRecDepth 20000 in
theorem k128_13 : mjCode 128 13 = some (.iconst 1, 1, 0, 0) := by decide +kernel
theorem p128_13 {s0 s1 s2 : Int} {q0 q1 q2 q3 q4 : MV} {ds : Ds} {m : Mm} {Q : Ds → Mm → List MV → Prop} : WP 128 13 [q0, q1, q2, q3, q4] [(0, s0), (0, s1), (2, s2)] ds m Q = (WP 128 14 [q0, q1, q2, q3, q4] [(0, 1), (0, s0), (0, s1), (2, s2)] ds m Q) := P_nx k128_13 rfl
set_option maxRecDepth 20000 in
theorem k128_14 : mjCode 128 14 = some (.if_icmp .eq 21, 3, 35, 0) := by decide +kernel
theorem p128_14 {s0 s1 s2 s3 : Int} {q0 q1 q2 q3 q4 : MV} {ds : Ds} {m : Mm} {Q : Ds → Mm → List MV → Prop} : WP 128 14 [q0, q1, q2, q3, q4] [(0, s0), (0, s1), (0, s2), (2, s3)] ds m Q = (if s1 = s0 then WP 128 35 [q0, q1, q2, q3, q4] [(0, s2), (2, s3)] ds m Q else WP 128 17 [q0, q1, q2, q3, q4] [(0, s2), (2, s3)] ds m Q) := P_if k128_14 rfl
set_option maxRecDepth 20000 in
theorem k128_17 : mjCode 128 17 = some (.iload_n 2, 1, 0, 0) := by decide +kernel
theorem p128_17 {l2 s0 s1 : Int} {q0 q1 q3 q4 : MV} {ds : Ds} {m : Mm} {Q : Ds → Mm → List MV → Prop} : WP 128 17 [q0, q1, (0, l2), q3, q4] [(0, s0), (2, s1)] ds m Q = (WP 128 18 [q0, q1, (0, l2), q3, q4] [(0, l2), (0, s0), (2, s1)] ds m Q) := P_nx k128_17 rfl
set_option maxRecDepth 20000 in
theorem k128_18 : mjCode 128 18 = some (.invokestatic 145, 3, 125, 1) := by decide +kernel
theorem p128_18 {s0 s1 s2 : Int} {q0 q1 q2 q3 q4 : MV} {ds : Ds} {m : Mm} {Q : Ds → Mm → List MV → Prop} : WP 128 18 [q0, q1, q2, q3, q4] [(0, s0), (0, s1), (2, s2)] ds m Q = (WP 124 0 [(0, s0)] [] ds m (fun d2 m2 r2 => WP 128 21 [q0, q1, q2, q3, q4] (r2 ++ [(0, s1), (2, s2)]) d2 m2 Q)) := P_cs k128_18 mx124 rfl rfl rfl rfl rfl rfl rfl
set_option maxRecDepth 20000 in
theorem k128_21 : mjCode 128 21 = some (.ifCond .ne 14, 3, 35, 0) := by decide +kernel
theorem p128_21 {s0 s1 s2 : Int} {q0 q1 q2 q3 q4 : MV} {ds : Ds} {m : Mm} {Q : Ds → Mm → List MV → Prop} : WP 128 21 [q0, q1, q2, q3, q4] [(0, s0), (0, s1), (2, s2)] ds m Q = (if s0 = 0 then WP 128 24 [q0, q1, q2, q3, q4] [(0, s1), (2, s2)] ds m Q else WP 128 35 [q0, q1, q2, q3, q4] [(0, s1), (2, s2)] ds m Q) := P_if k128_21 rfl
set_option maxRecDepth 20000 in
theorem k128_24 : mjCode 128 24 = some (.iload_n 2, 1, 0, 0) := by decide +kernel
theorem p128_24 {l2 s0 s1 : Int} {q0 q1 q3 q4 : MV} {ds : Ds} {m : Mm} {Q : Ds → Mm → List MV → Prop} : WP 128 24 [q0, q1, (0, l2), q3, q4] [(0, s0), (2, s1)] ds m Q = (WP 128 25 [q0, q1, (0, l2), q3, q4] [(0, l2), (0, s0), (2, s1)] ds m Q) := P_nx k128_24 rfl
set_option maxRecDepth 20000 in
theorem k128_25 : mjCode 128 25 = some (.bipush 9, 2, 0, 0) := by decide +kernel
theorem p128_25 {s0 s1 s2 : Int} {q0 q1 q2 q3 q4 : MV} {ds : Ds} {m : Mm} {Q : Ds → Mm → List MV → Prop} : WP 128 25 [q0, q1, q2, q3, q4] [(0, s0), (0, s1), (2, s2)] ds m Q = (WP 128 27 [q0, q1, q2, q3, q4] [(0, 9), (0, s0), (0, s1), (2, s2)] ds m Q) := P_nx k128_25 rfl
set_option maxRecDepth 20000 in
theorem k128_27 : mjCode 128 27 = some (.if_icmp .eq 8, 3, 35, 0) := by decide +kernel
theorem p128_27 {s0 s1 s2 s3 : Int} {q0 q1 q2 q3 q4 : MV} {ds : Ds} {m : Mm} {Q : Ds → Mm → List MV → Prop} : WP 128 27 [q0, q1, q2, q3, q4] [(0, s0), (0, s1), (0, s2), (2, s3)] ds m Q = (if s1 = s0 then WP 128 35 [q0, q1, q2, q3, q4] [(0, s2), (2, s3)] ds m Q else WP 128 30 [q0, q1, q2, q3, q4] [(0, s2), (2, s3)] ds m Q) := P_if k128_27 rfl
set_option maxRecDepth 20000 in
theorem k128_30 : mjCode 128 30 = some (.iload_n 2, 1, 0, 0) := by decide +kernel
theorem p128_30 {l2 s0 s1 : Int} {q0 q1 q3 q4 : MV} {ds : Ds} {m : Mm} {Q : Ds → Mm → List MV → Prop} : WP 128 30 [q0, q1, (0, l2), q3, q4] [(0, s0), (2, s1)] ds m Q = (WP 128 31 [q0, q1, (0, l2), q3, q4] [(0, l2), (0, s0), (2, s1)] ds m Q) := P_nx k128_30 rfl
set_option maxRecDepth 20000 in
theorem k128_31 : mjCode 128 31 = some (.iconst 3, 1, 0, 0) := by decide +kernel
theorem p128_31 {s0 s1 s2 : Int} {q0 q1 q2 q3 q4 : MV} {ds : Ds} {m : Mm} {Q : Ds → Mm → List MV → Prop} : WP 128 31 [q0, q1, q2, q3, q4] [(0, s0), (0, s1), (2, s2)] ds m Q = (WP 128 32 [q0, q1, q2, q3, q4] [(0, 3), (0, s0), (0, s1), (2, s2)] ds m Q) := P_nx k128_31 rfl
set_option maxRecDepth 20000 in
theorem k128_32 : mjCode 128 32 = some (.if_icmp .ne 7, 3, 39, 0) := by decide +kernel
theorem p128_32 {s0 s1 s2 s3 : Int} {q0 q1 q2 q3 q4 : MV} {ds : Ds} {m : Mm} {Q : Ds → Mm → List MV → Prop} : WP 128 32 [q0, q1, q2, q3, q4] [(0, s0), (0, s1), (0, s2), (2, s3)] ds m Q = (if s1 = s0 then WP 128 35 [q0, q1, q2, q3, q4] [(0, s2), (2, s3)] ds m Q else WP 128 39 [q0, q1, q2, q3, q4] [(0, s2), (2, s3)] ds m Q) := P_if k128_32 rfl
set_option maxRecDepth 20000 in
theorem k128_35 : mjCode 128 35 = some (.iload_n 3, 1, 0, 0) := by decide +kernel
theorem p128_35 {l3 s0 s1 : Int} {q0 q1 q2 q4 : MV} {ds : Ds} {m : Mm} {Q : Ds → Mm → List MV → Prop} : WP 128 35 [q0, q1, q2, (0, l3), q4] [(0, s0), (2, s1)] ds m Q = (WP 128 36 [q0, q1, q2, (0, l3), q4] [(0, l3), (0, s0), (2, s1)] ds m Q) := P_nx k128_35 rfl
set_option maxRecDepth 20000 in
theorem k128_36 : mjCode 128 36 = some (.goto 4, 3, 40, 0) := by decide +kernel
theorem p128_36 {s0 s1 s2 : Int} {q0 q1 q2 q3 q4 : MV} {ds : Ds} {m : Mm} {Q : Ds → Mm → List MV → Prop} : WP 128 36 [q0, q1, q2, q3, q4] [(0, s0), (0, s1), (2, s2)] ds m Q = (WP 128 40 [q0, q1, q2, q3, q4] [(0, s0), (0, s1), (2, s2)] ds m Q) := P_nx k128_36 rfl
set_option maxRecDepth 20000 in
theorem k128_39 : mjCode 128 39 = some (.iconst 0, 1, 0, 0) := by decide +kernel
theorem p128_39 {s0 s1 : Int} {q0 q1 q2 q3 q4 : MV} {ds : Ds} {m : Mm} {Q : Ds → Mm → List MV → Prop} : WP 128 39 [q0, q1, q2, q3, q4] [(0, s0), (2, s1)] ds m Q = (WP 128 40 [q0, q1, q2, q3, q4] [(0, 0), (0, s0), (2, s1)] ds m Q) := P_nx k128_39 rfl
set_option maxRecDepth 20000 in
theorem k128_40 : mjCode 128 40 = some (.iastore, 1, 0, 0) := by decide +kernel
theorem p128_40 {s0 s1 s2 : Int} {q0 q1 q2 q3 q4 : MV} {ds : Ds} {m : Mm} {Q : Ds → Mm → List MV → Prop} : WP 128 40 [q0, q1, q2, q3, q4] [(0, s0), (0, s1), (2, s2)] ds m Q = ((dk ds s2 = 10 ∧ 0 ≤ s1 ∧ s1 < dl ds s2 ∧ WP 128 41 [q0, q1, q2, q3, q4] [] ds (up m s2 s1 s0) Q)) := P_s3 k128_40 rfl
set_option maxRecDepth 20000 in
theorem k128_41 : mjCode 128 41 = some (.aload_n 0, 1, 0, 0) := by decide +kernel
theorem p128_41 {l0 : Int} {q1 q2 q3 q4 : MV} {ds : Ds} {m : Mm} {Q : Ds → Mm → List MV → Prop} : WP 128 41 [(2, l0), q1, q2, q3, q4] [] ds m Q = (WP 128 42 [(2, l0), q1, q2, q3, q4] [(2, l0)] ds m Q) := P_nx k128_41 rfl
set_option maxRecDepth 20000 in
theorem k128_42 : mjCode 128 42 = some (.getfield 19, 3, 7, 3) := by decide +kernel
theorem p128_42 {s0 : Int} {q0 q1 q2 q3 q4 : MV} {ds : Ds} {m : Mm} {Q : Ds → Mm → List MV → Prop} : WP 128 42 [q0, q1, q2, q3, q4] [(2, s0)] ds m Q = ((dk ds s0 = 7 ∧ WP 128 45 [q0, q1, q2, q3, q4] [(2, m s0 3)] ds m Q)) := P_gd k128_42 rfl
set_option maxRecDepth 20000 in
theorem k128_45 : mjCode 128 45 = some (.iload_n 1, 1, 0, 0) := by decide +kernel
theorem p128_45 {l1 s0 : Int} {q0 q2 q3 q4 : MV} {ds : Ds} {m : Mm} {Q : Ds → Mm → List MV → Prop} : WP 128 45 [q0, (0, l1), q2, q3, q4] [(2, s0)] ds m Q = (WP 128 46 [q0, (0, l1), q2, q3, q4] [(0, l1), (2, s0)] ds m Q) := P_nx k128_45 rfl
set_option maxRecDepth 20000 in
theorem k128_46 : mjCode 128 46 = some (.iload_n 2, 1, 0, 0) := by decide +kernel
theorem p128_46 {l2 s0 s1 : Int} {q0 q1 q3 q4 : MV} {ds : Ds} {m : Mm} {Q : Ds → Mm → List MV → Prop} : WP 128 46 [q0, q1, (0, l2), q3, q4] [(0, s0), (2, s1)] ds m Q = (WP 128 47 [q0, q1, (0, l2), q3, q4] [(0, l2), (0, s0), (2, s1)] ds m Q) := P_nx k128_46 rfl
set_option maxRecDepth 20000 in
theorem k128_47 : mjCode 128 47 = some (.iconst 4, 1, 0, 0) := by decide +kernel
theorem p128_47 {s0 s1 s2 : Int} {q0 q1 q2 q3 q4 : MV} {ds : Ds} {m : Mm} {Q : Ds → Mm → List MV → Prop} : WP 128 47 [q0, q1, q2, q3, q4] [(0, s0), (0, s1), (2, s2)] ds m Q = (WP 128 48 [q0, q1, q2, q3, q4] [(0, 4), (0, s0), (0, s1), (2, s2)] ds m Q) := P_nx k128_47 rfl
set_option maxRecDepth 20000 in
theorem k128_48 : mjCode 128 48 = some (.if_icmp .eq 9, 3, 57, 0) := by decide +kernel
theorem p128_48 {s0 s1 s2 s3 : Int} {q0 q1 q2 q3 q4 : MV} {ds : Ds} {m : Mm} {Q : Ds → Mm → List MV → Prop} : WP 128 48 [q0, q1, q2, q3, q4] [(0, s0), (0, s1), (0, s2), (2, s3)] ds m Q = (if s1 = s0 then WP 128 57 [q0, q1, q2, q3, q4] [(0, s2), (2, s3)] ds m Q else WP 128 51 [q0, q1, q2, q3, q4] [(0, s2), (2, s3)] ds m Q) := P_if k128_48 rfl
set_option maxRecDepth 20000 in
theorem k128_51 : mjCode 128 51 = some (.iload_n 2, 1, 0, 0) := by decide +kernel
theorem p128_51 {l2 s0 s1 : Int} {q0 q1 q3 q4 : MV} {ds : Ds} {m : Mm} {Q : Ds → Mm → List MV → Prop} : WP 128 51 [q0, q1, (0, l2), q3, q4] [(0, s0), (2, s1)] ds m Q = (WP 128 52 [q0, q1, (0, l2), q3, q4] [(0, l2), (0, s0), (2, s1)] ds m Q) := P_nx k128_51 rfl
set_option maxRecDepth 20000 in
theorem k128_52 : mjCode 128 52 = some (.bipush 6, 2, 0, 0) := by decide +kernel
theorem p128_52 {s0 s1 s2 : Int} {q0 q1 q2 q3 q4 : MV} {ds : Ds} {m : Mm} {Q : Ds → Mm → List MV → Prop} : WP 128 52 [q0, q1, q2, q3, q4] [(0, s0), (0, s1), (2, s2)] ds m Q = (WP 128 54 [q0, q1, q2, q3, q4] [(0, 6), (0, s0), (0, s1), (2, s2)] ds m Q) := P_nx k128_52 rfl
set_option maxRecDepth 20000 in
theorem k128_54 : mjCode 128 54 = some (.if_icmp .ne 8, 3, 62, 0) := by decide +kernel
theorem p128_54 {s0 s1 s2 s3 : Int} {q0 q1 q2 q3 q4 : MV} {ds : Ds} {m : Mm} {Q : Ds → Mm → List MV → Prop} : WP 128 54 [q0, q1, q2, q3, q4] [(0, s0), (0, s1), (0, s2), (2, s3)] ds m Q = (if s1 = s0 then WP 128 57 [q0, q1, q2, q3, q4] [(0, s2), (2, s3)] ds m Q else WP 128 62 [q0, q1, q2, q3, q4] [(0, s2), (2, s3)] ds m Q) := P_if k128_54 rfl
set_option maxRecDepth 20000 in
theorem k128_57 : mjCode 128 57 = some (.iload 4, 2, 0, 0) := by decide +kernel
theorem p128_57 {l4 s0 s1 : Int} {q0 q1 q2 q3 : MV} {ds : Ds} {m : Mm} {Q : Ds → Mm → List MV → Prop} : WP 128 57 [q0, q1, q2, q3, (0, l4)] [(0, s0), (2, s1)] ds m Q = (WP 128 59 [q0, q1, q2, q3, (0, l4)] [(0, l4), (0, s0), (2, s1)] ds m Q) := P_nx k128_57 rfl
set_option maxRecDepth 20000 in
theorem k128_59 : mjCode 128 59 = some (.goto 4, 3, 63, 0) := by decide +kernel
theorem p128_59 {s0 s1 s2 : Int} {q0 q1 q2 q3 q4 : MV} {ds : Ds} {m : Mm} {Q : Ds → Mm → List MV → Prop} : WP 128 59 [q0, q1, q2, q3, q4] [(0, s0), (0, s1), (2, s2)] ds m Q = (WP 128 63 [q0, q1, q2, q3, q4] [(0, s0), (0, s1), (2, s2)] ds m Q) := P_nx k128_59 rfl
set_option maxRecDepth 20000 in
theorem k128_62 : mjCode 128 62 = some (.iconst 0, 1, 0, 0) := by decide +kernel
theorem p128_62 {s0 s1 : Int} {q0 q1 q2 q3 q4 : MV} {ds : Ds} {m : Mm} {Q : Ds → Mm → List MV → Prop} : WP 128 62 [q0, q1, q2, q3, q4] [(0, s0), (2, s1)] ds m Q = (WP 128 63 [q0, q1, q2, q3, q4] [(0, 0), (0, s0), (2, s1)] ds m Q) := P_nx k128_62 rfl
set_option maxRecDepth 20000 in
theorem k128_63 : mjCode 128 63 = some (.iastore, 1, 0, 0) := by decide +kernel
theorem p128_63 {s0 s1 s2 : Int} {q0 q1 q2 q3 q4 : MV} {ds : Ds} {m : Mm} {Q : Ds → Mm → List MV → Prop} : WP 128 63 [q0, q1, q2, q3, q4] [(0, s0), (0, s1), (2, s2)] ds m Q = ((dk ds s2 = 10 ∧ 0 ≤ s1 ∧ s1 < dl ds s2 ∧ WP 128 64 [q0, q1, q2, q3, q4] [] ds (up m s2 s1 s0) Q)) := P_s3 k128_63 rfl
set_option maxRecDepth 20000 in
theorem k128_64 : mjCode 128 64 = some (.aload_n 0, 1, 0, 0) := by decide +kernel
theorem p128_64 {l0 : Int} {q1 q2 q3 q4 : MV} {ds : Ds} {m : Mm} {Q : Ds → Mm → List MV → Prop} : WP 128 64 [(2, l0), q1, q2, q3, q4] [] ds m Q = (WP 128 65 [(2, l0), q1, q2, q3, q4] [(2, l0)] ds m Q) := P_nx k128_64 rfl
set_option maxRecDepth 20000 in
theorem k128_65 : mjCode 128 65 = some (.getfield 22, 3, 7, 4) := by decide +kernel
theorem p128_65 {s0 : Int} {q0 q1 q2 q3 q4 : MV} {ds : Ds} {m : Mm} {Q : Ds → Mm → List MV → Prop} : WP 128 65 [q0, q1, q2, q3, q4] [(2, s0)] ds m Q = ((dk ds s0 = 7 ∧ WP 128 68 [q0, q1, q2, q3, q4] [(2, m s0 4)] ds m Q)) := P_gd k128_65 rfl
set_option maxRecDepth 20000 in
theorem k128_68 : mjCode 128 68 = some (.iload_n 1, 1, 0, 0) := by decide +kernel
theorem p128_68 {l1 s0 : Int} {q0 q2 q3 q4 : MV} {ds : Ds} {m : Mm} {Q : Ds → Mm → List MV → Prop} : WP 128 68 [q0, (0, l1), q2, q3, q4] [(2, s0)] ds m Q = (WP 128 69 [q0, (0, l1), q2, q3, q4] [(0, l1), (2, s0)] ds m Q) := P_nx k128_68 rfl
set_option maxRecDepth 20000 in
theorem k128_69 : mjCode 128 69 = some (.iconst (-1), 1, 0, 0) := by decide +kernel
theorem p128_69 {s0 s1 : Int} {q0 q1 q2 q3 q4 : MV} {ds : Ds} {m : Mm} {Q : Ds → Mm → List MV → Prop} : WP 128 69 [q0, q1, q2, q3, q4] [(0, s0), (2, s1)] ds m Q = (WP 128 70 [q0, q1, q2, q3, q4] [(0, (-1)), (0, s0), (2, s1)] ds m Q) := P_nx k128_69 rfl
set_option maxRecDepth 20000 in
theorem k128_70 : mjCode 128 70 = some (.iastore, 1, 0, 0) := by decide +kernel
theorem p128_70 {s0 s1 s2 : Int} {q0 q1 q2 q3 q4 : MV} {ds : Ds} {m : Mm} {Q : Ds → Mm → List MV → Prop} : WP 128 70 [q0, q1, q2, q3, q4] [(0, s0), (0, s1), (2, s2)] ds m Q = ((dk ds s2 = 10 ∧ 0 ≤ s1 ∧ s1 < dl ds s2 ∧ WP 128 71 [q0, q1, q2, q3, q4] [] ds (up m s2 s1 s0) Q)) := P_s3 k128_70 rfl
set_option maxRecDepth 20000 in
theorem k128_71 : mjCode 128 71 = some (.return_, 1, 0, 0) := by decide +kernel
theorem p128_71 {q0 q1 q2 q3 q4 : MV} {ds : Ds} {m : Mm} {Q : Ds → Mm → List MV → Prop} : WP 128 71 [q0, q1, q2, q3, q4] [] ds m Q = (Q ds m []) := P_rv k128_71 rk128
set_option maxRecDepth 20000 in
theorem k129_0 : mjCode 129 0 = some (.iload_n 1, 1, 0, 0) := by decide +kernel
theorem p129_0 {l1 : Int} {q0 q2 q3 q4 : MV} {ds : Ds} {m : Mm} {Q : Ds → Mm → List MV → Prop} : WP 129 0 [q0, (0, l1), q2, q3, q4] [] ds m Q = (WP 129 1 [q0, (0, l1), q2, q3, q4] [(0, l1)] ds m Q) := P_nx k129_0 rfl
set_option maxRecDepth 20000 in
theorem k129_1 : mjCode 129 1 = some (.invokestatic 152, 3, 123, 1) := by decide +kernel
theorem p129_1 {s0 : Int} {q0 q1 q2 q3 q4 : MV} {ds : Ds} {m : Mm} {Q : Ds → Mm → List MV → Prop} : WP 129 1 [q0, q1, q2, q3, q4] [(0, s0)] ds m Q = (WP 122 0 [(0, s0)] [] ds m (fun d2 m2 r2 => WP 129 4 [q0, q1, q2, q3, q4] (r2 ++ []) d2 m2 Q)) := P_cs k129_1 mx122 rfl rfl rfl rfl rfl rfl rfl
set_option maxRecDepth 20000 in
theorem k129_4 : mjCode 129 4 = some (.ifCond .ne 9, 3, 13, 0) := by decide +kernel
theorem p129_4 {s0 : Int} {q0 q1 q2 q3 q4 : MV} {ds : Ds} {m : Mm} {Q : Ds → Mm → List MV → Prop} : WP 129 4 [q0, q1, q2, q3, q4] [(0, s0)] ds m Q = (if s0 = 0 then WP 129 7 [q0, q1, q2, q3, q4] [] ds m Q else WP 129 13 [q0, q1, q2, q3, q4] [] ds m Q) := P_if k129_4 rfl
set_option maxRecDepth 20000 in
theorem k129_7 : mjCode 129 7 = some (.aload_n 0, 1, 0, 0) := by decide +kernel
theorem p129_7 {l0 : Int} {q1 q2 q3 q4 : MV} {ds : Ds} {m : Mm} {Q : Ds → Mm → List MV → Prop} : WP 129 7 [(2, l0), q1, q2, q3, q4] [] ds m Q = (WP 129 8 [(2, l0), q1, q2, q3, q4] [(2, l0)] ds m Q) := P_nx k129_7 rfl
set_option maxRecDepth 20000 in
theorem k129_8 : mjCode 129 8 = some (.iconst (-1), 1, 0, 0) := by decide +kernel
theorem p129_8 {s0 : Int} {q0 q1 q2 q3 q4 : MV} {ds : Ds} {m : Mm} {Q : Ds → Mm → List MV → Prop} : WP 129 8 [q0, q1, q2, q3, q4] [(2, s0)] ds m Q = (WP 129 9 [q0, q1, q2, q3, q4] [(0, (-1)), (2, s0)] ds m Q) := P_nx k129_8 rfl
set_option maxRecDepth 20000 in
theorem k129_9 : mjCode 129 9 = some (.invokevirtual 155, 3, 122, 2) := by decide +kernel
theorem p129_9 {s0 s1 : Int} {q0 q1 q2 q3 q4 : MV} {ds : Ds} {m : Mm} {Q : Ds → Mm → List MV → Prop} : WP 129 9 [q0, q1, q2, q3, q4] [(0, s0), (2, s1)] ds m Q = ((dk ds s1 = 7 ∧ WP 121 0 [(2, s1), (0, s0)] [] ds m (fun d2 m2 r2 => WP 129 12 [q0, q1, q2, q3, q4] (r2 ++ []) d2 m2 Q))) := P_cv k129_9 mx121 mo121 rfl rfl rfl rfl rfl rfl rfl rfl
set_option maxRecDepth 20000 in
theorem k129_12 : mjCode 129 12 = some (.ireturn, 1, 0, 0) := by decide +kernel
theorem p129_12 {s0 : Int} {q0 q1 q2 q3 q4 : MV} {ds : Ds} {m : Mm} {Q : Ds → Mm → List MV → Prop} : WP 129 12 [q0, q1, q2, q3, q4] [(0, s0)] ds m Q = (Q ds m [(0, s0)]) := P_ri k129_12 rk129
set_option maxRecDepth 20000 in
theorem k129_13 : mjCode 129 13 = some (.aload_n 0, 1, 0, 0) := by decide +kernel
theorem p129_13 {l0 : Int} {q1 q2 q3 q4 : MV} {ds : Ds} {m : Mm} {Q : Ds → Mm → List MV → Prop} : WP 129 13 [(2, l0), q1, q2, q3, q4] [] ds m Q = (WP 129 14 [(2, l0), q1, q2, q3, q4] [(2, l0)] ds m Q) := P_nx k129_13 rfl
set_option maxRecDepth 20000 in
theorem k129_14 : mjCode 129 14 = some (.iload_n 1, 1, 0, 0) := by decide +kernel
theorem p129_14 {l1 s0 : Int} {q0 q2 q3 q4 : MV} {ds : Ds} {m : Mm} {Q : Ds → Mm → List MV → Prop} : WP 129 14 [q0, (0, l1), q2, q3, q4] [(2, s0)] ds m Q = (WP 129 15 [q0, (0, l1), q2, q3, q4] [(0, l1), (2, s0)] ds m Q) := P_nx k129_14 rfl
set_option maxRecDepth 20000 in
theorem k129_15 : mjCode 129 15 = some (.iload_n 2, 1, 0, 0) := by decide +kernel
theorem p129_15 {l2 s0 s1 : Int} {q0 q1 q3 q4 : MV} {ds : Ds} {m : Mm} {Q : Ds → Mm → List MV → Prop} : WP 129 15 [q0, q1, (0, l2), q3, q4] [(0, s0), (2, s1)] ds m Q = (WP 129 16 [q0, q1, (0, l2), q3, q4] [(0, l2), (0, s0), (2, s1)] ds m Q) := P_nx k129_15 rfl
set_option maxRecDepth 20000 in
theorem k129_16 : mjCode 129 16 = some (.iload_n 3, 1, 0, 0) := by decide +kernel
theorem p129_16 {l3 s0 s1 s2 : Int} {q0 q1 q2 q4 : MV} {ds : Ds} {m : Mm} {Q : Ds → Mm → List MV → Prop} : WP 129 16 [q0, q1, q2, (0, l3), q4] [(0, s0), (0, s1), (2, s2)] ds m Q = (WP 129 17 [q0, q1, q2, (0, l3), q4] [(0, l3), (0, s0), (0, s1), (2, s2)] ds m Q) := P_nx k129_16 rfl
set_option maxRecDepth 20000 in
theorem k129_17 : mjCode 129 17 = some (.iload 4, 2, 0, 0) := by decide +kernel
theorem p129_17 {l4 s0 s1 s2 s3 : Int} {q0 q1 q2 q3 : MV} {ds : Ds} {m : Mm} {Q : Ds → Mm → List MV → Prop} : WP 129 17 [q0, q1, q2, q3, (0, l4)] [(0, s0), (0, s1), (0, s2), (2, s3)] ds m Q = (WP 129 19 [q0, q1, q2, q3, (0, l4)] [(0, l4), (0, s0), (0, s1), (0, s2), (2, s3)] ds m Q) := P_nx k129_17 rfl
set_option maxRecDepth 20000 in
theorem k129_19 : mjCode 129 19 = some (.invokevirtual 159, 3, 128, 5) := by decide +kernel
theorem p129_19 {s0 s1 s2 s3 s4 : Int} {q0 q1 q2 q3 q4 : MV} {ds : Ds} {m : Mm} {Q : Ds → Mm → List MV → Prop} : WP 129 19 [q0, q1, q2, q3, q4] [(0, s0), (0, s1), (0, s2), (0, s3), (2, s4)] ds m Q = ((dk ds s4 = 7 ∧ WP 127 0 [(2, s4), (0, s3), (0, s2), (0, s1), (0, s0)] [] ds m (fun d2 m2 r2 => WP 129 22 [q0, q1, q2, q3, q4] (r2 ++ []) d2 m2 Q))) := P_cv k129_19 mx127 mo127 rfl rfl rfl rfl rfl rfl rfl rfl
set_option maxRecDepth 20000 in
theorem k129_22 : mjCode 129 22 = some (.ifCond .ne 10, 3, 32, 0) := by decide +kernel
theorem p129_22 {s0 : Int} {q0 q1 q2 q3 q4 : MV} {ds : Ds} {m : Mm} {Q : Ds → Mm → List MV → Prop} : WP 129 22 [q0, q1, q2, q3, q4] [(0, s0)] ds m Q = (if s0 = 0 then WP 129 25 [q0, q1, q2, q3, q4] [] ds m Q else WP 129 32 [q0, q1, q2, q3, q4] [] ds m Q) := P_if k129_22 rfl
set_option maxRecDepth 20000 in
theorem k129_25 : mjCode 129 25 = some (.aload_n 0, 1, 0, 0) := by decide +kernel
theorem p129_25 {l0 : Int} {q1 q2 q3 q4 : MV} {ds : Ds} {m : Mm} {Q : Ds → Mm → List MV → Prop} : WP 129 25 [(2, l0), q1, q2, q3, q4] [] ds m Q = (WP 129 26 [(2, l0), q1, q2, q3, q4] [(2, l0)] ds m Q) := P_nx k129_25 rfl
set_option maxRecDepth 20000 in
theorem k129_26 : mjCode 129 26 = some (.bipush (-6), 2, 0, 0) := by decide +kernel
theorem p129_26 {s0 : Int} {q0 q1 q2 q3 q4 : MV} {ds : Ds} {m : Mm} {Q : Ds → Mm → List MV → Prop} : WP 129 26 [q0, q1, q2, q3, q4] [(2, s0)] ds m Q = (WP 129 28 [q0, q1, q2, q3, q4] [(0, (-6)), (2, s0)] ds m Q) := P_nx k129_26 rfl
set_option maxRecDepth 20000 in
theorem k129_28 : mjCode 129 28 = some (.invokevirtual 155, 3, 122, 2) := by decide +kernel
theorem p129_28 {s0 s1 : Int} {q0 q1 q2 q3 q4 : MV} {ds : Ds} {m : Mm} {Q : Ds → Mm → List MV → Prop} : WP 129 28 [q0, q1, q2, q3, q4] [(0, s0), (2, s1)] ds m Q = ((dk ds s1 = 7 ∧ WP 121 0 [(2, s1), (0, s0)] [] ds m (fun d2 m2 r2 => WP 129 31 [q0, q1, q2, q3, q4] (r2 ++ []) d2 m2 Q))) := P_cv k129_28 mx121 mo121 rfl rfl rfl rfl rfl rfl rfl rfl
set_option maxRecDepth 20000 in
theorem k129_31 : mjCode 129 31 = some (.ireturn, 1, 0, 0) := by decide +kernel
theorem p129_31 {s0 : Int} {q0 q1 q2 q3 q4 : MV} {ds : Ds} {m : Mm} {Q : Ds → Mm → List MV → Prop} : WP 129 31 [q0, q1, q2, q3, q4] [(0, s0)] ds m Q = (Q ds m [(0, s0)]) := P_ri k129_31 rk129
set_option maxRecDepth 20000 in
theorem k129_32 : mjCode 129 32 = some (.aload_n 0, 1, 0, 0) := by decide +kernel
theorem p129_32 {l0 : Int} {q1 q2 q3 q4 : MV} {ds : Ds} {m : Mm} {Q : Ds → Mm → List MV → Prop} : WP 129 32 [(2, l0), q1, q2, q3, q4] [] ds m Q = (WP 129 33 [(2, l0), q1, q2, q3, q4] [(2, l0)] ds m Q) := P_nx k129_32 rfl
set_option maxRecDepth 20000 in
theorem k129_33 : mjCode 129 33 = some (.iload_n 1, 1, 0, 0) := by decide +kernel
theorem p129_33 {l1 s0 : Int} {q0 q2 q3 q4 : MV} {ds : Ds} {m : Mm} {Q : Ds → Mm → List MV → Prop} : WP 129 33 [q0, (0, l1), q2, q3, q4] [(2, s0)] ds m Q = (WP 129 34 [q0, (0, l1), q2, q3, q4] [(0, l1), (2, s0)] ds m Q) := P_nx k129_33 rfl
set_option maxRecDepth 20000 in
theorem k129_34 : mjCode 129 34 = some (.iload_n 2, 1, 0, 0) := by decide +kernel
theorem p129_34 {l2 s0 s1 : Int} {q0 q1 q3 q4 : MV} {ds : Ds} {m : Mm} {Q : Ds → Mm → List MV → Prop} : WP 129 34 [q0, q1, (0, l2), q3, q4] [(0, s0), (2, s1)] ds m Q = (WP 129 35 [q0, q1, (0, l2), q3, q4] [(0, l2), (0, s0), (2, s1)] ds m Q) := P_nx k129_34 rfl
set_option maxRecDepth 20000 in
theorem k129_35 : mjCode 129 35 = some (.iload_n 3, 1, 0, 0) := by decide +kernel
theorem p129_35 {l3 s0 s1 s2 : Int} {q0 q1 q2 q4 : MV} {ds : Ds} {m : Mm} {Q : Ds → Mm → List MV → Prop} : WP 129 35 [q0, q1, q2, (0, l3), q4] [(0, s0), (0, s1), (2, s2)] ds m Q = (WP 129 36 [q0, q1, q2, (0, l3), q4] [(0, l3), (0, s0), (0, s1), (2, s2)] ds m Q) := P_nx k129_35 rfl
set_option maxRecDepth 20000 in
theorem k129_36 : mjCode 129 36 = some (.iload 4, 2, 0, 0) := by decide +kernel
theorem p129_36 {l4 s0 s1 s2 s3 : Int} {q0 q1 q2 q3 : MV} {ds : Ds} {m : Mm} {Q : Ds → Mm → List MV → Prop} : WP 129 36 [q0, q1, q2, q3, (0, l4)] [(0, s0), (0, s1), (0, s2), (2, s3)] ds m Q = (WP 129 38 [q0, q1, q2, q3, (0, l4)] [(0, l4), (0, s0), (0, s1), (0, s2), (2, s3)] ds m Q) := P_nx k129_36 rfl
set_option maxRecDepth 20000 in
theorem k129_38 : mjCode 129 38 = some (.invokevirtual 163, 3, 129, 5) := by decide +kernel
theorem p129_38 {s0 s1 s2 s3 s4 : Int} {q0 q1 q2 q3 q4 : MV} {ds : Ds} {m : Mm} {Q : Ds → Mm → List MV → Prop} : WP 129 38 [q0, q1, q2, q3, q4] [(0, s0), (0, s1), (0, s2), (0, s3), (2, s4)] ds m Q = ((dk ds s4 = 7 ∧ WP 128 0 [(2, s4), (0, s3), (0, s2), (0, s1), (0, s0)] [] ds m (fun d2 m2 r2 => WP 129 41 [q0, q1, q2, q3, q4] (r2 ++ []) d2 m2 Q))) := P_cv k129_38 mx128 mo128 rfl rfl rfl rfl rfl rfl rfl rfl
set_option maxRecDepth 20000 in
theorem k129_41 : mjCode 129 41 = some (.iconst 1, 1, 0, 0) := by decide +kernel
theorem p129_41 {q0 q1 q2 q3 q4 : MV} {ds : Ds} {m : Mm} {Q : Ds → Mm → List MV → Prop} : WP 129 41 [q0, q1, q2, q3, q4] [] ds m Q = (WP 129 42 [q0, q1, q2, q3, q4] [(0, 1)] ds m Q) := P_nx k129_41 rfl
set_option maxRecDepth 20000 in
theorem k129_42 : mjCode 129 42 = some (.ireturn, 1, 0, 0) := by decide +kernel
theorem p129_42 {s0 : Int} {q0 q1 q2 q3 q4 : MV} {ds : Ds} {m : Mm} {Q : Ds → Mm → List MV → Prop} : WP 129 42 [q0, q1, q2, q3, q4] [(0, s0)] ds m Q = (Q ds m [(0, s0)]) := P_ri k129_42 rk129
set_option maxRecDepth 20000 in
theorem k130_0 : mjCode 130 0 = some (.iload_n 1, 1, 0, 0) := by decide +kernel
theorem p130_0 {l1 : Int} {q0 q2 q3 q4 : MV} {ds : Ds} {m : Mm} {Q : Ds → Mm → List MV → Prop} : WP 130 0 [q0, (0, l1), q2, q3, q4] [] ds m Q = (WP 130 1 [q0, (0, l1), q2, q3, q4] [(0, l1)] ds m Q) := P_nx k130_0 rfl
set_option maxRecDepth 20000 in
theorem k130_1 : mjCode 130 1 = some (.invokestatic 152, 3, 123, 1) := by decide +kernel
theorem p130_1 {s0 : Int} {q0 q1 q2 q3 q4 : MV} {ds : Ds} {m : Mm} {Q : Ds → Mm → List MV → Prop} : WP 130 1 [q0, q1, q2, q3, q4] [(0, s0)] ds m Q = (WP 122 0 [(0, s0)] [] ds m (fun d2 m2 r2 => WP 130 4 [q0, q1, q2, q3, q4] (r2 ++ []) d2 m2 Q)) := P_cs k130_1 mx122 rfl rfl rfl rfl rfl rfl rfl
set_option maxRecDepth 20000 in
theorem k130_4 : mjCode 130 4 = some (.ifCond .eq 10, 3, 14, 0) := by decide +kernel
theorem p130_4 {s0 : Int} {q0 q1 q2 q3 q4 : MV} {ds : Ds} {m : Mm} {Q : Ds → Mm → List MV → Prop} : WP 130 4 [q0, q1, q2, q3, q4] [(0, s0)] ds m Q = (if s0 = 0 then WP 130 14 [q0, q1, q2, q3, q4] [] ds m Q else WP 130 7 [q0, q1, q2, q3, q4] [] ds m Q) := P_if k130_4 rfl
set_option maxRecDepth 20000 in
theorem k130_7 : mjCode 130 7 = some (.iload_n 3, 1, 0, 0) := by decide +kernel
theorem p130_7 {l3 : Int} {q0 q1 q2 q4 : MV} {ds : Ds} {m : Mm} {Q : Ds → Mm → List MV → Prop} : WP 130 7 [q0, q1, q2, (0, l3), q4] [] ds m Q = (WP 130 8 [q0, q1, q2, (0, l3), q4] [(0, l3)] ds m Q) := P_nx k130_7 rfl
set_option maxRecDepth 20000 in
theorem k130_8 : mjCode 130 8 = some (.invokestatic 152, 3, 123, 1) := by decide +kernel
theorem p130_8 {s0 : Int} {q0 q1 q2 q3 q4 : MV} {ds : Ds} {m : Mm} {Q : Ds → Mm → List MV → Prop} : WP 130 8 [q0, q1, q2, q3, q4] [(0, s0)] ds m Q = (WP 122 0 [(0, s0)] [] ds m (fun d2 m2 r2 => WP 130 11 [q0, q1, q2, q3, q4] (r2 ++ []) d2 m2 Q)) := P_cs k130_8 mx122 rfl rfl rfl rfl rfl rfl rfl
set_option maxRecDepth 20000 in
theorem k130_11 : mjCode 130 11 = some (.ifCond .ne 9, 3, 20, 0) := by decide +kernel
theorem p130_11 {s0 : Int} {q0 q1 q2 q3 q4 : MV} {ds : Ds} {m : Mm} {Q : Ds → Mm → List MV → Prop} : WP 130 11 [q0, q1, q2, q3, q4] [(0, s0)] ds m Q = (if s0 = 0 then WP 130 14 [q0, q1, q2, q3, q4] [] ds m Q else WP 130 20 [q0, q1, q2, q3, q4] [] ds m Q) := P_if k130_11 rfl
set_option maxRecDepth 20000 in
theorem k130_14 : mjCode 130 14 = some (.aload_n 0, 1, 0, 0) := by decide +kernel
theorem p130_14 {l0 : Int} {q1 q2 q3 q4 : MV} {ds : Ds} {m : Mm} {Q : Ds → Mm → List MV → Prop} : WP 130 14 [(2, l0), q1, q2, q3, q4] [] ds m Q = (WP 130 15 [(2, l0), q1, q2, q3, q4] [(2, l0)] ds m Q) := P_nx k130_14 rfl
set_option maxRecDepth 20000 in
theorem k130_15 : mjCode 130 15 = some (.iconst (-1), 1, 0, 0) := by decide +kernel
theorem p130_15 {s0 : Int} {q0 q1 q2 q3 q4 : MV} {ds : Ds} {m : Mm} {Q : Ds → Mm → List MV → Prop} : WP 130 15 [q0, q1, q2, q3, q4] [(2, s0)] ds m Q = (WP 130 16 [q0, q1, q2, q3, q4] [(0, (-1)), (2, s0)] ds m Q) := P_nx k130_15 rfl
set_option maxRecDepth 20000 in
theorem k130_16 : mjCode 130 16 = some (.invokevirtual 155, 3, 122, 2) := by decide +kernel
theorem p130_16 {s0 s1 : Int} {q0 q1 q2 q3 q4 : MV} {ds : Ds} {m : Mm} {Q : Ds → Mm → List MV → Prop} : WP 130 16 [q0, q1, q2, q3, q4] [(0, s0), (2, s1)] ds m Q = ((dk ds s1 = 7 ∧ WP 121 0 [(2, s1), (0, s0)] [] ds m (fun d2 m2 r2 => WP 130 19 [q0, q1, q2, q3, q4] (r2 ++ []) d2 m2 Q))) := P_cv k130_16 mx121 mo121 rfl rfl rfl rfl rfl rfl rfl rfl
set_option maxRecDepth 20000 in
theorem k130_19 : mjCode 130 19 = some (.ireturn, 1, 0, 0) := by decide +kernel
theorem p130_19 {s0 : Int} {q0 q1 q2 q3 q4 : MV} {ds : Ds} {m : Mm} {Q : Ds → Mm → List MV → Prop} : WP 130 19 [q0, q1, q2, q3, q4] [(0, s0)] ds m Q = (Q ds m [(0, s0)]) := P_ri k130_19 rk130
set_option maxRecDepth 20000 in
theorem k130_20 : mjCode 130 20 = some (.iload_n 2, 1, 0, 0) := by decide +kernel
theorem p130_20 {l2 : Int} {q0 q1 q3 q4 : MV} {ds : Ds} {m : Mm} {Q : Ds → Mm → List MV → Prop} : WP 130 20 [q0, q1, (0, l2), q3, q4] [] ds m Q = (WP 130 21 [q0, q1, (0, l2), q3, q4] [(0, l2)] ds m Q) := P_nx k130_20 rfl
set_option maxRecDepth 20000 in
theorem k130_21 : mjCode 130 21 = some (.iconst 0, 1, 0, 0) := by decide +kernel
theorem p130_21 {s0 : Int} {q0 q1 q2 q3 q4 : MV} {ds : Ds} {m : Mm} {Q : Ds → Mm → List MV → Prop} : WP 130 21 [q0, q1, q2, q3, q4] [(0, s0)] ds m Q = (WP 130 22 [q0, q1, q2, q3, q4] [(0, 0), (0, s0)] ds m Q) := P_nx k130_21 rfl
set_option maxRecDepth 20000 in
theorem k130_22 : mjCode 130 22 = some (.iconst 3, 1, 0, 0) := by decide +kernel
theorem p130_22 {s0 s1 : Int} {q0 q1 q2 q3 q4 : MV} {ds : Ds} {m : Mm} {Q : Ds → Mm → List MV → Prop} : WP 130 22 [q0, q1, q2, q3, q4] [(0, s0), (0, s1)] ds m Q = (WP 130 23 [q0, q1, q2, q3, q4] [(0, 3), (0, s0), (0, s1)] ds m Q) := P_nx k130_22 rfl
set_option maxRecDepth 20000 in
theorem k130_23 : mjCode 130 23 = some (.invokestatic 141, 3, 121, 3) := by decide +kernel
theorem p130_23 {s0 s1 s2 : Int} {q0 q1 q2 q3 q4 : MV} {ds : Ds} {m : Mm} {Q : Ds → Mm → List MV → Prop} : WP 130 23 [q0, q1, q2, q3, q4] [(0, s0), (0, s1), (0, s2)] ds m Q = (WP 120 0 [(0, s2), (0, s1), (0, s0)] [] ds m (fun d2 m2 r2 => WP 130 26 [q0, q1, q2, q3, q4] (r2 ++ []) d2 m2 Q)) := P_cs k130_23 mx120 rfl rfl rfl rfl rfl rfl rfl
set_option maxRecDepth 20000 in
theorem k130_26 : mjCode 130 26 = some (.ifCond .eq 34, 3, 60, 0) := by decide +kernel
theorem p130_26 {s0 : Int} {q0 q1 q2 q3 q4 : MV} {ds : Ds} {m : Mm} {Q : Ds → Mm → List MV → Prop} : WP 130 26 [q0, q1, q2, q3, q4] [(0, s0)] ds m Q = (if s0 = 0 then WP 130 60 [q0, q1, q2, q3, q4] [] ds m Q else WP 130 29 [q0, q1, q2, q3, q4] [] ds m Q) := P_if k130_26 rfl
set_option maxRecDepth 20000 in
theorem k130_29 : mjCode 130 29 = some (.iload 4, 2, 0, 0) := by decide +kernel
theorem p130_29 {l4 : Int} {q0 q1 q2 q3 : MV} {ds : Ds} {m : Mm} {Q : Ds → Mm → List MV → Prop} : WP 130 29 [q0, q1, q2, q3, (0, l4)] [] ds m Q = (WP 130 31 [q0, q1, q2, q3, (0, l4)] [(0, l4)] ds m Q) := P_nx k130_29 rfl
set_option maxRecDepth 20000 in
theorem k130_31 : mjCode 130 31 = some (.iconst 0, 1, 0, 0) := by decide +kernel
theorem p130_31 {s0 : Int} {q0 q1 q2 q3 q4 : MV} {ds : Ds} {m : Mm} {Q : Ds → Mm → List MV → Prop} : WP 130 31 [q0, q1, q2, q3, q4] [(0, s0)] ds m Q = (WP 130 32 [q0, q1, q2, q3, q4] [(0, 0), (0, s0)] ds m Q) := P_nx k130_31 rfl
set_option maxRecDepth 20000 in
theorem k130_32 : mjCode 130 32 = some (.iconst 3, 1, 0, 0) := by decide +kernel
theorem p130_32 {s0 s1 : Int} {q0 q1 q2 q3 q4 : MV} {ds : Ds} {m : Mm} {Q : Ds → Mm → List MV → Prop} : WP 130 32 [q0, q1, q2, q3, q4] [(0, s0), (0, s1)] ds m Q = (WP 130 33 [q0, q1, q2, q3, q4] [(0, 3), (0, s0), (0, s1)] ds m Q) := P_nx k130_32 rfl
set_option maxRecDepth 20000 in
theorem k130_33 : mjCode 130 33 = some (.invokestatic 141, 3, 121, 3) := by decide +kernel
theorem p130_33 {s0 s1 s2 : Int} {q0 q1 q2 q3 q4 : MV} {ds : Ds} {m : Mm} {Q : Ds → Mm → List MV → Prop} : WP 130 33 [q0, q1, q2, q3, q4] [(0, s0), (0, s1), (0, s2)] ds m Q = (WP 120 0 [(0, s2), (0, s1), (0, s0)] [] ds m (fun d2 m2 r2 => WP 130 36 [q0, q1, q2, q3, q4] (r2 ++ []) d2 m2 Q)) := P_cs k130_33 mx120 rfl rfl rfl rfl rfl rfl rfl
set_option maxRecDepth 20000 in
theorem k130_36 : mjCode 130 36 = some (.ifCond .eq 24, 3, 60, 0) := by decide +kernel
theorem p130_36 {s0 : Int} {q0 q1 q2 q3 q4 : MV} {ds : Ds} {m : Mm} {Q : Ds → Mm → List MV → Prop} : WP 130 36 [q0, q1, q2, q3, q4] [(0, s0)] ds m Q = (if s0 = 0 then WP 130 60 [q0, q1, q2, q3, q4] [] ds m Q else WP 130 39 [q0, q1, q2, q3, q4] [] ds m Q) := P_if k130_36 rfl
set_option maxRecDepth 20000 in
theorem k130_39 : mjCode 130 39 = some (.iload_n 1, 1, 0, 0) := by decide +kernel
theorem p130_39 {l1 : Int} {q0 q2 q3 q4 : MV} {ds : Ds} {m : Mm} {Q : Ds → Mm → List MV → Prop} : WP 130 39 [q0, (0, l1), q2, q3, q4] [] ds m Q = (WP 130 40 [q0, (0, l1), q2, q3, q4] [(0, l1)] ds m Q) := P_nx k130_39 rfl
set_option maxRecDepth 20000 in
theorem k130_40 : mjCode 130 40 = some (.iload_n 3, 1, 0, 0) := by decide +kernel
theorem p130_40 {l3 s0 : Int} {q0 q1 q2 q4 : MV} {ds : Ds} {m : Mm} {Q : Ds → Mm → List MV → Prop} : WP 130 40 [q0, q1, q2, (0, l3), q4] [(0, s0)] ds m Q = (WP 130 41 [q0, q1, q2, (0, l3), q4] [(0, l3), (0, s0)] ds m Q) := P_nx k130_40 rfl
set_option maxRecDepth 20000 in
theorem k130_41 : mjCode 130 41 = some (.if_icmp .eq 19, 3, 60, 0) := by decide +kernel
theorem p130_41 {s0 s1 : Int} {q0 q1 q2 q3 q4 : MV} {ds : Ds} {m : Mm} {Q : Ds → Mm → List MV → Prop} : WP 130 41 [q0, q1, q2, q3, q4] [(0, s0), (0, s1)] ds m Q = (if s1 = s0 then WP 130 60 [q0, q1, q2, q3, q4] [] ds m Q else WP 130 44 [q0, q1, q2, q3, q4] [] ds m Q) := P_if k130_41 rfl
set_option maxRecDepth 20000 in
theorem k130_44 : mjCode 130 44 = some (.aload_n 0, 1, 0, 0) := by decide +kernel
theorem p130_44 {l0 : Int} {q1 q2 q3 q4 : MV} {ds : Ds} {m : Mm} {Q : Ds → Mm → List MV → Prop} : WP 130 44 [(2, l0), q1, q2, q3, q4] [] ds m Q = (WP 130 45 [(2, l0), q1, q2, q3, q4] [(2, l0)] ds m Q) := P_nx k130_44 rfl
set_option maxRecDepth 20000 in
theorem k130_45 : mjCode 130 45 = some (.iload_n 1, 1, 0, 0) := by decide +kernel
theorem p130_45 {l1 s0 : Int} {q0 q2 q3 q4 : MV} {ds : Ds} {m : Mm} {Q : Ds → Mm → List MV → Prop} : WP 130 45 [q0, (0, l1), q2, q3, q4] [(2, s0)] ds m Q = (WP 130 46 [q0, (0, l1), q2, q3, q4] [(0, l1), (2, s0)] ds m Q) := P_nx k130_45 rfl
set_option maxRecDepth 20000 in
theorem k130_46 : mjCode 130 46 = some (.invokevirtual 167, 3, 127, 2) := by decide +kernel
theorem p130_46 {s0 s1 : Int} {q0 q1 q2 q3 q4 : MV} {ds : Ds} {m : Mm} {Q : Ds → Mm → List MV → Prop} : WP 130 46 [q0, q1, q2, q3, q4] [(0, s0), (2, s1)] ds m Q = ((dk ds s1 = 7 ∧ WP 126 0 [(2, s1), (0, s0)] [] ds m (fun d2 m2 r2 => WP 130 49 [q0, q1, q2, q3, q4] (r2 ++ []) d2 m2 Q))) := P_cv k130_46 mx126 mo126 rfl rfl rfl rfl rfl rfl rfl rfl
set_option maxRecDepth 20000 in
theorem k130_49 : mjCode 130 49 = some (.ifCond .eq 11, 3, 60, 0) := by decide +kernel
theorem p130_49 {s0 : Int} {q0 q1 q2 q3 q4 : MV} {ds : Ds} {m : Mm} {Q : Ds → Mm → List MV → Prop} : WP 130 49 [q0, q1, q2, q3, q4] [(0, s0)] ds m Q = (if s0 = 0 then WP 130 60 [q0, q1, q2, q3, q4] [] ds m Q else WP 130 52 [q0, q1, q2, q3, q4] [] ds m Q) := P_if k130_49 rfl
set_option maxRecDepth 20000 in
theorem k130_52 : mjCode 130 52 = some (.aload_n 0, 1, 0, 0) := by decide +kernel
theorem p130_52 {l0 : Int} {q1 q2 q3 q4 : MV} {ds : Ds} {m : Mm} {Q : Ds → Mm → List MV → Prop} : WP 130 52 [(2, l0), q1, q2, q3, q4] [] ds m Q = (WP 130 53 [(2, l0), q1, q2, q3, q4] [(2, l0)] ds m Q) := P_nx k130_52 rfl
set_option maxRecDepth 20000 in
theorem k130_53 : mjCode 130 53 = some (.iload_n 3, 1, 0, 0) := by decide +kernel
theorem p130_53 {l3 s0 : Int} {q0 q1 q2 q4 : MV} {ds : Ds} {m : Mm} {Q : Ds → Mm → List MV → Prop} : WP 130 53 [q0, q1, q2, (0, l3), q4] [(2, s0)] ds m Q = (WP 130 54 [q0, q1, q2, (0, l3), q4] [(0, l3), (2, s0)] ds m Q) := P_nx k130_53 rfl
set_option maxRecDepth 20000 in
theorem k130_54 : mjCode 130 54 = some (.invokevirtual 167, 3, 127, 2) := by decide +kernel
theorem p130_54 {s0 s1 : Int} {q0 q1 q2 q3 q4 : MV} {ds : Ds} {m : Mm} {Q : Ds → Mm → List MV → Prop} : WP 130 54 [q0, q1, q2, q3, q4] [(0, s0), (2, s1)] ds m Q = ((dk ds s1 = 7 ∧ WP 126 0 [(2, s1), (0, s0)] [] ds m (fun d2 m2 r2 => WP 130 57 [q0, q1, q2, q3, q4] (r2 ++ []) d2 m2 Q))) := P_cv k130_54 mx126 mo126 rfl rfl rfl rfl rfl rfl rfl rfl
set_option maxRecDepth 20000 in
theorem k130_57 : mjCode 130 57 = some (.ifCond .ne 10, 3, 67, 0) := by decide +kernel
theorem p130_57 {s0 : Int} {q0 q1 q2 q3 q4 : MV} {ds : Ds} {m : Mm} {Q : Ds → Mm → List MV → Prop} : WP 130 57 [q0, q1, q2, q3, q4] [(0, s0)] ds m Q = (if s0 = 0 then WP 130 60 [q0, q1, q2, q3, q4] [] ds m Q else WP 130 67 [q0, q1, q2, q3, q4] [] ds m Q) := P_if k130_57 rfl
set_option maxRecDepth 20000 in
theorem k130_60 : mjCode 130 60 = some (.aload_n 0, 1, 0, 0) := by decide +kernel
theorem p130_60 {l0 : Int} {q1 q2 q3 q4 : MV} {ds : Ds} {m : Mm} {Q : Ds → Mm → List MV → Prop} : WP 130 60 [(2, l0), q1, q2, q3, q4] [] ds m Q = (WP 130 61 [(2, l0), q1, q2, q3, q4] [(2, l0)] ds m Q) := P_nx k130_60 rfl
set_option maxRecDepth 20000 in
theorem k130_61 : mjCode 130 61 = some (.bipush (-6), 2, 0, 0) := by decide +kernel
theorem p130_61 {s0 : Int} {q0 q1 q2 q3 q4 : MV} {ds : Ds} {m : Mm} {Q : Ds → Mm → List MV → Prop} : WP 130 61 [q0, q1, q2, q3, q4] [(2, s0)] ds m Q = (WP 130 63 [q0, q1, q2, q3, q4] [(0, (-6)), (2, s0)] ds m Q) := P_nx k130_61 rfl
set_option maxRecDepth 20000 in
theorem k130_63 : mjCode 130 63 = some (.invokevirtual 155, 3, 122, 2) := by decide +kernel
theorem p130_63 {s0 s1 : Int} {q0 q1 q2 q3 q4 : MV} {ds : Ds} {m : Mm} {Q : Ds → Mm → List MV → Prop} : WP 130 63 [q0, q1, q2, q3, q4] [(0, s0), (2, s1)] ds m Q = ((dk ds s1 = 7 ∧ WP 121 0 [(2, s1), (0, s0)] [] ds m (fun d2 m2 r2 => WP 130 66 [q0, q1, q2, q3, q4] (r2 ++ []) d2 m2 Q))) := P_cv k130_63 mx121 mo121 rfl rfl rfl rfl rfl rfl rfl rfl
set_option maxRecDepth 20000 in
theorem k130_66 : mjCode 130 66 = some (.ireturn, 1, 0, 0) := by decide +kernel
theorem p130_66 {s0 : Int} {q0 q1 q2 q3 q4 : MV} {ds : Ds} {m : Mm} {Q : Ds → Mm → List MV → Prop} : WP 130 66 [q0, q1, q2, q3, q4] [(0, s0)] ds m Q = (Q ds m [(0, s0)]) := P_ri k130_66 rk130
set_option maxRecDepth 20000 in
theorem k130_67 : mjCode 130 67 = some (.aload_n 0, 1, 0, 0) := by decide +kernel
theorem p130_67 {l0 : Int} {q1 q2 q3 q4 : MV} {ds : Ds} {m : Mm} {Q : Ds → Mm → List MV → Prop} : WP 130 67 [(2, l0), q1, q2, q3, q4] [] ds m Q = (WP 130 68 [(2, l0), q1, q2, q3, q4] [(2, l0)] ds m Q) := P_nx k130_67 rfl
set_option maxRecDepth 20000 in
theorem k130_68 : mjCode 130 68 = some (.iload_n 1, 1, 0, 0) := by decide +kernel
theorem p130_68 {l1 s0 : Int} {q0 q2 q3 q4 : MV} {ds : Ds} {m : Mm} {Q : Ds → Mm → List MV → Prop} : WP 130 68 [q0, (0, l1), q2, q3, q4] [(2, s0)] ds m Q = (WP 130 69 [q0, (0, l1), q2, q3, q4] [(0, l1), (2, s0)] ds m Q) := P_nx k130_68 rfl
set_option maxRecDepth 20000 in
theorem k130_69 : mjCode 130 69 = some (.iconst 3, 1, 0, 0) := by decide +kernel
theorem p130_69 {s0 s1 : Int} {q0 q1 q2 q3 q4 : MV} {ds : Ds} {m : Mm} {Q : Ds → Mm → List MV → Prop} : WP 130 69 [q0, q1, q2, q3, q4] [(0, s0), (2, s1)] ds m Q = (WP 130 70 [q0, q1, q2, q3, q4] [(0, 3), (0, s0), (2, s1)] ds m Q) := P_nx k130_69 rfl
set_option maxRecDepth 20000 in
theorem k130_70 : mjCode 130 70 = some (.iload_n 2, 1, 0, 0) := by decide +kernel
theorem p130_70 {l2 s0 s1 s2 : Int} {q0 q1 q3 q4 : MV} {ds : Ds} {m : Mm} {Q : Ds → Mm → List MV → Prop} : WP 130 70 [q0, q1, (0, l2), q3, q4] [(0, s0), (0, s1), (2, s2)] ds m Q = (WP 130 71 [q0, q1, (0, l2), q3, q4] [(0, l2), (0, s0), (0, s1), (2, s2)] ds m Q) := P_nx k130_70 rfl
set_option maxRecDepth 20000 in
theorem k130_71 : mjCode 130 71 = some (.iconst 0, 1, 0, 0) := by decide +kernel
theorem p130_71 {s0 s1 s2 s3 : Int} {q0 q1 q2 q3 q4 : MV} {ds : Ds} {m : Mm} {Q : Ds → Mm → List MV → Prop} : WP 130 71 [q0, q1, q2, q3, q4] [(0, s0), (0, s1), (0, s2), (2, s3)] ds m Q = (WP 130 72 [q0, q1, q2, q3, q4] [(0, 0), (0, s0), (0, s1), (0, s2), (2, s3)] ds m Q) := P_nx k130_71 rfl
set_option maxRecDepth 20000 in
theorem k130_72 : mjCode 130 72 = some (.invokevirtual 163, 3, 129, 5) := by decide +kernel
theorem p130_72 {s0 s1 s2 s3 s4 : Int} {q0 q1 q2 q3 q4 : MV} {ds : Ds} {m : Mm} {Q : Ds → Mm → List MV → Prop} : WP 130 72 [q0, q1, q2, q3, q4] [(0, s0), (0, s1), (0, s2), (0, s3), (2, s4)] ds m Q = ((dk ds s4 = 7 ∧ WP 128 0 [(2, s4), (0, s3), (0, s2), (0, s1), (0, s0)] [] ds m (fun d2 m2 r2 => WP 130 75 [q0, q1, q2, q3, q4] (r2 ++ []) d2 m2 Q))) := P_cv k130_72 mx128 mo128 rfl rfl rfl rfl rfl rfl rfl rfl
set_option maxRecDepth 20000 in
theorem k130_75 : mjCode 130 75 = some (.aload_n 0, 1, 0, 0) := by decide +kernel
theorem p130_75 {l0 : Int} {q1 q2 q3 q4 : MV} {ds : Ds} {m : Mm} {Q : Ds → Mm → List MV → Prop} : WP 130 75 [(2, l0), q1, q2, q3, q4] [] ds m Q = (WP 130 76 [(2, l0), q1, q2, q3, q4] [(2, l0)] ds m Q) := P_nx k130_75 rfl
set_option maxRecDepth 20000 in
theorem k130_76 : mjCode 130 76 = some (.iload_n 3, 1, 0, 0) := by decide +kernel
theorem p130_76 {l3 s0 : Int} {q0 q1 q2 q4 : MV} {ds : Ds} {m : Mm} {Q : Ds → Mm → List MV → Prop} : WP 130 76 [q0, q1, q2, (0, l3), q4] [(2, s0)] ds m Q = (WP 130 77 [q0, q1, q2, (0, l3), q4] [(0, l3), (2, s0)] ds m Q) := P_nx k130_76 rfl
set_option maxRecDepth 20000 in
theorem k130_77 : mjCode 130 77 = some (.iconst 3, 1, 0, 0) := by decide +kernel
theorem p130_77 {s0 s1 : Int} {q0 q1 q2 q3 q4 : MV} {ds : Ds} {m : Mm} {Q : Ds → Mm → List MV → Prop} : WP 130 77 [q0, q1, q2, q3, q4] [(0, s0), (2, s1)] ds m Q = (WP 130 78 [q0, q1, q2, q3, q4] [(0, 3), (0, s0), (2, s1)] ds m Q) := P_nx k130_77 rfl
set_option maxRecDepth 20000 in
theorem k130_78 : mjCode 130 78 = some (.iload 4, 2, 0, 0) := by decide +kernel
theorem p130_78 {l4 s0 s1 s2 : Int} {q0 q1 q2 q3 : MV} {ds : Ds} {m : Mm} {Q : Ds → Mm → List MV → Prop} : WP 130 78 [q0, q1, q2, q3, (0, l4)] [(0, s0), (0, s1), (2, s2)] ds m Q = (WP 130 80 [q0, q1, q2, q3, (0, l4)] [(0, l4), (0, s0), (0, s1), (2, s2)] ds m Q) := P_nx k130_78 rfl
set_option maxRecDepth 20000 in
theorem k130_80 : mjCode 130 80 = some (.iconst 0, 1, 0, 0) := by decide +kernel
theorem p130_80 {s0 s1 s2 s3 : Int} {q0 q1 q2 q3 q4 : MV} {ds : Ds} {m : Mm} {Q : Ds → Mm → List MV → Prop} : WP 130 80 [q0, q1, q2, q3, q4] [(0, s0), (0, s1), (0, s2), (2, s3)] ds m Q = (WP 130 81 [q0, q1, q2, q3, q4] [(0, 0), (0, s0), (0, s1), (0, s2), (2, s3)] ds m Q) := P_nx k130_80 rfl
set_option maxRecDepth 20000 in
theorem k130_81 : mjCode 130 81 = some (.invokevirtual 163, 3, 129, 5) := by decide +kernel
theorem p130_81 {s0 s1 s2 s3 s4 : Int} {q0 q1 q2 q3 q4 : MV} {ds : Ds} {m : Mm} {Q : Ds → Mm → List MV → Prop} : WP 130 81 [q0, q1, q2, q3, q4] [(0, s0), (0, s1), (0, s2), (0, s3), (2, s4)] ds m Q = ((dk ds s4 = 7 ∧ WP 128 0 [(2, s4), (0, s3), (0, s2), (0, s1), (0, s0)] [] ds m (fun d2 m2 r2 => WP 130 84 [q0, q1, q2, q3, q4] (r2 ++ []) d2 m2 Q))) := P_cv k130_81 mx128 mo128 rfl rfl rfl rfl rfl rfl rfl rfl
set_option maxRecDepth 20000 in
theorem k130_84 : mjCode 130 84 = some (.aload_n 0, 1, 0, 0) := by decide +kernel
theorem p130_84 {l0 : Int} {q1 q2 q3 q4 : MV} {ds : Ds} {m : Mm} {Q : Ds → Mm → List MV → Prop} : WP 130 84 [(2, l0), q1, q2, q3, q4] [] ds m Q = (WP 130 85 [(2, l0), q1, q2, q3, q4] [(2, l0)] ds m Q) := P_nx k130_84 rfl
set_option maxRecDepth 20000 in
theorem k130_85 : mjCode 130 85 = some (.getfield 22, 3, 7, 4) := by decide +kernel
theorem p130_85 {s0 : Int} {q0 q1 q2 q3 q4 : MV} {ds : Ds} {m : Mm} {Q : Ds → Mm → List MV → Prop} : WP 130 85 [q0, q1, q2, q3, q4] [(2, s0)] ds m Q = ((dk ds s0 = 7 ∧ WP 130 88 [q0, q1, q2, q3, q4] [(2, m s0 4)] ds m Q)) := P_gd k130_85 rfl
set_option maxRecDepth 20000 in
theorem k130_88 : mjCode 130 88 = some (.iload_n 1, 1, 0, 0) := by decide +kernel
theorem p130_88 {l1 s0 : Int} {q0 q2 q3 q4 : MV} {ds : Ds} {m : Mm} {Q : Ds → Mm → List MV → Prop} : WP 130 88 [q0, (0, l1), q2, q3, q4] [(2, s0)] ds m Q = (WP 130 89 [q0, (0, l1), q2, q3, q4] [(0, l1), (2, s0)] ds m Q) := P_nx k130_88 rfl
set_option maxRecDepth 20000 in
theorem k130_89 : mjCode 130 89 = some (.iload_n 3, 1, 0, 0) := by decide +kernel
theorem p130_89 {l3 s0 s1 : Int} {q0 q1 q2 q4 : MV} {ds : Ds} {m : Mm} {Q : Ds → Mm → List MV → Prop} : WP 130 89 [q0, q1, q2, (0, l3), q4] [(0, s0), (2, s1)] ds m Q = (WP 130 90 [q0, q1, q2, (0, l3), q4] [(0, l3), (0, s0), (2, s1)] ds m Q) := P_nx k130_89 rfl
set_option maxRecDepth 20000 in
theorem k130_90 : mjCode 130 90 = some (.iastore, 1, 0, 0) := by decide +kernel
theorem p130_90 {s0 s1 s2 : Int} {q0 q1 q2 q3 q4 : MV} {ds : Ds} {m : Mm} {Q : Ds → Mm → List MV → Prop} : WP 130 90 [q0, q1, q2, q3, q4] [(0, s0), (0, s1), (2, s2)] ds m Q = ((dk ds s2 = 10 ∧ 0 ≤ s1 ∧ s1 < dl ds s2 ∧ WP 130 91 [q0, q1, q2, q3, q4] [] ds (up m s2 s1 s0) Q)) := P_s3 k130_90 rfl
set_option maxRecDepth 20000 in
theorem k130_91 : mjCode 130 91 = some (.aload_n 0, 1, 0, 0) := by decide +kernel
theorem p130_91 {l0 : Int} {q1 q2 q3 q4 : MV} {ds : Ds} {m : Mm} {Q : Ds → Mm → List MV → Prop} : WP 130 91 [(2, l0), q1, q2, q3, q4] [] ds m Q = (WP 130 92 [(2, l0), q1, q2, q3, q4] [(2, l0)] ds m Q) := P_nx k130_91 rfl
set_option maxRecDepth 20000 in
theorem k130_92 : mjCode 130 92 = some (.getfield 22, 3, 7, 4) := by decide +kernel
theorem p130_92 {s0 : Int} {q0 q1 q2 q3 q4 : MV} {ds : Ds} {m : Mm} {Q : Ds → Mm → List MV → Prop} : WP 130 92 [q0, q1, q2, q3, q4] [(2, s0)] ds m Q = ((dk ds s0 = 7 ∧ WP 130 95 [q0, q1, q2, q3, q4] [(2, m s0 4)] ds m Q)) := P_gd k130_92 rfl
set_option maxRecDepth 20000 in
theorem k130_95 : mjCode 130 95 = some (.iload_n 3, 1, 0, 0) := by decide +kernel
theorem p130_95 {l3 s0 : Int} {q0 q1 q2 q4 : MV} {ds : Ds} {m : Mm} {Q : Ds → Mm → List MV → Prop} : WP 130 95 [q0, q1, q2, (0, l3), q4] [(2, s0)] ds m Q = (WP 130 96 [q0, q1, q2, (0, l3), q4] [(0, l3), (2, s0)] ds m Q) := P_nx k130_95 rfl
set_option maxRecDepth 20000 in
theorem k130_96 : mjCode 130 96 = some (.iload_n 1, 1, 0, 0) := by decide +kernel
theorem p130_96 {l1 s0 s1 : Int} {q0 q2 q3 q4 : MV} {ds : Ds} {m : Mm} {Q : Ds → Mm → List MV → Prop} : WP 130 96 [q0, (0, l1), q2, q3, q4] [(0, s0), (2, s1)] ds m Q = (WP 130 97 [q0, (0, l1), q2, q3, q4] [(0, l1), (0, s0), (2, s1)] ds m Q) := P_nx k130_96 rfl
set_option maxRecDepth 20000 in
theorem k130_97 : mjCode 130 97 = some (.iastore, 1, 0, 0) := by decide +kernel
theorem p130_97 {s0 s1 s2 : Int} {q0 q1 q2 q3 q4 : MV} {ds : Ds} {m : Mm} {Q : Ds → Mm → List MV → Prop} : WP 130 97 [q0, q1, q2, q3, q4] [(0, s0), (0, s1), (2, s2)] ds m Q = ((dk ds s2 = 10 ∧ 0 ≤ s1 ∧ s1 < dl ds s2 ∧ WP 130 98 [q0, q1, q2, q3, q4] [] ds (up m s2 s1 s0) Q)) := P_s3 k130_97 rfl
set_option maxRecDepth 20000 in
theorem k130_98 : mjCode 130 98 = some (.iconst 1, 1, 0, 0) := by decide +kernel
theorem p130_98 {q0 q1 q2 q3 q4 : MV} {ds : Ds} {m : Mm} {Q : Ds → Mm → List MV → Prop} : WP 130 98 [q0, q1, q2, q3, q4] [] ds m Q = (WP 130 99 [q0, q1, q2, q3, q4] [(0, 1)] ds m Q) := P_nx k130_98 rfl
set_option maxRecDepth 20000 in
theorem k130_99 : mjCode 130 99 = some (.ireturn, 1, 0, 0) := by decide +kernel
theorem p130_99 {s0 : Int} {q0 q1 q2 q3 q4 : MV} {ds : Ds} {m : Mm} {Q : Ds → Mm → List MV → Prop} : WP 130 99 [q0, q1, q2, q3, q4] [(0, s0)] ds m Q = (Q ds m [(0, s0)]) := P_ri k130_99 rk130
set_option maxRecDepth 20000 in
theorem k131_0 : mjCode 131 0 = some (.aload_n 0, 1, 0, 0) := by decide +kernel
theorem p131_0 {l0 : Int} {q1 : MV} {ds : Ds} {m : Mm} {Q : Ds → Mm → List MV → Prop} : WP 131 0 [(2, l0), q1] [] ds m Q = (WP 131 1 [(2, l0), q1] [(2, l0)] ds m Q) := P_nx k131_0 rfl
set_option maxRecDepth 20000 in
theorem k131_1 : mjCode 131 1 = some (.getfield 25, 3, 7, 5) := by decide +kernel
theorem p131_1 {s0 : Int} {q0 q1 : MV} {ds : Ds} {m : Mm} {Q : Ds → Mm → List MV → Prop} : WP 131 1 [q0, q1] [(2, s0)] ds m Q = ((dk ds s0 = 7 ∧ WP 131 4 [q0, q1] [(2, m s0 5)] ds m Q)) := P_gd k131_1 rfl
set_option maxRecDepth 20000 in
theorem k131_4 : mjCode 131 4 = some (.iload_n 1, 1, 0, 0) := by decide +kernel
theorem p131_4 {l1 s0 : Int} {q0 : MV} {ds : Ds} {m : Mm} {Q : Ds → Mm → List MV → Prop} : WP 131 4 [q0, (0, l1)] [(2, s0)] ds m Q = (WP 131 5 [q0, (0, l1)] [(0, l1), (2, s0)] ds m Q) := P_nx k131_4 rfl
set_option maxRecDepth 20000 in
theorem k131_5 : mjCode 131 5 = some (.baload, 1, 0, 0) := by decide +kernel
theorem p131_5 {s0 s1 : Int} {q0 q1 : MV} {ds : Ds} {m : Mm} {Q : Ds → Mm → List MV → Prop} : WP 131 5 [q0, q1] [(0, s0), (2, s1)] ds m Q = ((dk ds s1 = 11 ∧ 0 ≤ s0 ∧ s0 < dl ds s1 ∧ WP 131 6 [q0, q1] [(0, m s1 s0)] ds m Q)) := P_g3 k131_5 rfl
set_option maxRecDepth 20000 in
theorem k131_6 : mjCode 131 6 = some (.ifCond .ne 27, 3, 33, 0) := by decide +kernel
theorem p131_6 {s0 : Int} {q0 q1 : MV} {ds : Ds} {m : Mm} {Q : Ds → Mm → List MV → Prop} : WP 131 6 [q0, q1] [(0, s0)] ds m Q = (if s0 = 0 then WP 131 9 [q0, q1] [] ds m Q else WP 131 33 [q0, q1] [] ds m Q) := P_if k131_6 rfl
set_option maxRecDepth 20000 in
theorem k131_9 : mjCode 131 9 = some (.aload_n 0, 1, 0, 0) := by decide +kernel
theorem p131_9 {l0 : Int} {q1 : MV} {ds : Ds} {m : Mm} {Q : Ds → Mm → List MV → Prop} : WP 131 9 [(2, l0), q1] [] ds m Q = (WP 131 10 [(2, l0), q1] [(2, l0)] ds m Q) := P_nx k131_9 rfl
set_option maxRecDepth 20000 in
theorem k131_10 : mjCode 131 10 = some (.getfield 13, 3, 7, 1) := by decide +kernel
theorem p131_10 {s0 : Int} {q0 q1 : MV} {ds : Ds} {m : Mm} {Q : Ds → Mm → List MV → Prop} : WP 131 10 [q0, q1] [(2, s0)] ds m Q = ((dk ds s0 = 7 ∧ WP 131 13 [q0, q1] [(2, m s0 1)] ds m Q)) := P_gd k131_10 rfl
set_option maxRecDepth 20000 in
theorem k131_13 : mjCode 131 13 = some (.iload_n 1, 1, 0, 0) := by decide +kernel
theorem p131_13 {l1 s0 : Int} {q0 : MV} {ds : Ds} {m : Mm} {Q : Ds → Mm → List MV → Prop} : WP 131 13 [q0, (0, l1)] [(2, s0)] ds m Q = (WP 131 14 [q0, (0, l1)] [(0, l1), (2, s0)] ds m Q) := P_nx k131_13 rfl
set_option maxRecDepth 20000 in
theorem k131_14 : mjCode 131 14 = some (.iaload, 1, 0, 0) := by decide +kernel
theorem p131_14 {s0 s1 : Int} {q0 q1 : MV} {ds : Ds} {m : Mm} {Q : Ds → Mm → List MV → Prop} : WP 131 14 [q0, q1] [(0, s0), (2, s1)] ds m Q = ((dk ds s1 = 10 ∧ 0 ≤ s0 ∧ s0 < dl ds s1 ∧ WP 131 15 [q0, q1] [(0, m s1 s0)] ds m Q)) := P_g3 k131_14 rfl
set_option maxRecDepth 20000 in
theorem k131_15 : mjCode 131 15 = some (.ifCond .eq 14, 3, 29, 0) := by decide +kernel
theorem p131_15 {s0 : Int} {q0 q1 : MV} {ds : Ds} {m : Mm} {Q : Ds → Mm → List MV → Prop} : WP 131 15 [q0, q1] [(0, s0)] ds m Q = (if s0 = 0 then WP 131 29 [q0, q1] [] ds m Q else WP 131 18 [q0, q1] [] ds m Q) := P_if k131_15 rfl
set_option maxRecDepth 20000 in
theorem k131_18 : mjCode 131 18 = some (.aload_n 0, 1, 0, 0) := by decide +kernel
theorem p131_18 {l0 : Int} {q1 : MV} {ds : Ds} {m : Mm} {Q : Ds → Mm → List MV → Prop} : WP 131 18 [(2, l0), q1] [] ds m Q = (WP 131 19 [(2, l0), q1] [(2, l0)] ds m Q) := P_nx k131_18 rfl
set_option maxRecDepth 20000 in
theorem k131_19 : mjCode 131 19 = some (.getfield 13, 3, 7, 1) := by decide +kernel
theorem p131_19 {s0 : Int} {q0 q1 : MV} {ds : Ds} {m : Mm} {Q : Ds → Mm → List MV → Prop} : WP 131 19 [q0, q1] [(2, s0)] ds m Q = ((dk ds s0 = 7 ∧ WP 131 22 [q0, q1] [(2, m s0 1)] ds m Q)) := P_gd k131_19 rfl
set_option maxRecDepth 20000 in
theorem k131_22 : mjCode 131 22 = some (.iload_n 1, 1, 0, 0) := by decide +kernel
theorem p131_22 {l1 s0 : Int} {q0 : MV} {ds : Ds} {m : Mm} {Q : Ds → Mm → List MV → Prop} : WP 131 22 [q0, (0, l1)] [(2, s0)] ds m Q = (WP 131 23 [q0, (0, l1)] [(0, l1), (2, s0)] ds m Q) := P_nx k131_22 rfl
set_option maxRecDepth 20000 in
theorem k131_23 : mjCode 131 23 = some (.iaload, 1, 0, 0) := by decide +kernel
theorem p131_23 {s0 s1 : Int} {q0 q1 : MV} {ds : Ds} {m : Mm} {Q : Ds → Mm → List MV → Prop} : WP 131 23 [q0, q1] [(0, s0), (2, s1)] ds m Q = ((dk ds s1 = 10 ∧ 0 ≤ s0 ∧ s0 < dl ds s1 ∧ WP 131 24 [q0, q1] [(0, m s1 s0)] ds m Q)) := P_g3 k131_23 rfl
set_option maxRecDepth 20000 in
theorem k131_24 : mjCode 131 24 = some (.bipush 9, 2, 0, 0) := by decide +kernel
theorem p131_24 {s0 : Int} {q0 q1 : MV} {ds : Ds} {m : Mm} {Q : Ds → Mm → List MV → Prop} : WP 131 24 [q0, q1] [(0, s0)] ds m Q = (WP 131 26 [q0, q1] [(0, 9), (0, s0)] ds m Q) := P_nx k131_24 rfl
set_option maxRecDepth 20000 in
theorem k131_26 : mjCode 131 26 = some (.if_icmp .ne 7, 3, 33, 0) := by decide +kernel
theorem p131_26 {s0 s1 : Int} {q0 q1 : MV} {ds : Ds} {m : Mm} {Q : Ds → Mm → List MV → Prop} : WP 131 26 [q0, q1] [(0, s0), (0, s1)] ds m Q = (if s1 = s0 then WP 131 29 [q0, q1] [] ds m Q else WP 131 33 [q0, q1] [] ds m Q) := P_if k131_26 rfl
set_option maxRecDepth 20000 in
theorem k131_29 : mjCode 131 29 = some (.iconst 1, 1, 0, 0) := by decide +kernel
theorem p131_29 {q0 q1 : MV} {ds : Ds} {m : Mm} {Q : Ds → Mm → List MV → Prop} : WP 131 29 [q0, q1] [] ds m Q = (WP 131 30 [q0, q1] [(0, 1)] ds m Q) := P_nx k131_29 rfl
set_option maxRecDepth 20000 in
theorem k131_30 : mjCode 131 30 = some (.goto 4, 3, 34, 0) := by decide +kernel
theorem p131_30 {s0 : Int} {q0 q1 : MV} {ds : Ds} {m : Mm} {Q : Ds → Mm → List MV → Prop} : WP 131 30 [q0, q1] [(0, s0)] ds m Q = (WP 131 34 [q0, q1] [(0, s0)] ds m Q) := P_nx k131_30 rfl
set_option maxRecDepth 20000 in
theorem k131_33 : mjCode 131 33 = some (.iconst 0, 1, 0, 0) := by decide +kernel
theorem p131_33 {q0 q1 : MV} {ds : Ds} {m : Mm} {Q : Ds → Mm → List MV → Prop} : WP 131 33 [q0, q1] [] ds m Q = (WP 131 34 [q0, q1] [(0, 0)] ds m Q) := P_nx k131_33 rfl
set_option maxRecDepth 20000 in
theorem k131_34 : mjCode 131 34 = some (.ireturn, 1, 0, 0) := by decide +kernel
theorem p131_34 {s0 : Int} {q0 q1 : MV} {ds : Ds} {m : Mm} {Q : Ds → Mm → List MV → Prop} : WP 131 34 [q0, q1] [(0, s0)] ds m Q = (((s0 = 0 ∨ s0 = 1) ∧ Q ds m [(0, s0)])) := P_rb k131_34 rk131
set_option maxRecDepth 20000 in
theorem k132_0 : mjCode 132 0 = some (.iload_n 1, 1, 0, 0) := by decide +kernel
theorem p132_0 {l1 : Int} {q0 : MV} {ds : Ds} {m : Mm} {Q : Ds → Mm → List MV → Prop} : WP 132 0 [q0, (0, l1)] [] ds m Q = (WP 132 1 [q0, (0, l1)] [(0, l1)] ds m Q) := P_nx k132_0 rfl
set_option maxRecDepth 20000 in
theorem k132_1 : mjCode 132 1 = some (.invokestatic 152, 3, 123, 1) := by decide +kernel
theorem p132_1 {s0 : Int} {q0 q1 : MV} {ds : Ds} {m : Mm} {Q : Ds → Mm → List MV → Prop} : WP 132 1 [q0, q1] [(0, s0)] ds m Q = (WP 122 0 [(0, s0)] [] ds m (fun d2 m2 r2 => WP 132 4 [q0, q1] (r2 ++ []) d2 m2 Q)) := P_cs k132_1 mx122 rfl rfl rfl rfl rfl rfl rfl
set_option maxRecDepth 20000 in
theorem k132_4 : mjCode 132 4 = some (.ifCond .ne 9, 3, 13, 0) := by decide +kernel
theorem p132_4 {s0 : Int} {q0 q1 : MV} {ds : Ds} {m : Mm} {Q : Ds → Mm → List MV → Prop} : WP 132 4 [q0, q1] [(0, s0)] ds m Q = (if s0 = 0 then WP 132 7 [q0, q1] [] ds m Q else WP 132 13 [q0, q1] [] ds m Q) := P_if k132_4 rfl
set_option maxRecDepth 20000 in
theorem k132_7 : mjCode 132 7 = some (.aload_n 0, 1, 0, 0) := by decide +kernel
theorem p132_7 {l0 : Int} {q1 : MV} {ds : Ds} {m : Mm} {Q : Ds → Mm → List MV → Prop} : WP 132 7 [(2, l0), q1] [] ds m Q = (WP 132 8 [(2, l0), q1] [(2, l0)] ds m Q) := P_nx k132_7 rfl
set_option maxRecDepth 20000 in
theorem k132_8 : mjCode 132 8 = some (.iconst (-1), 1, 0, 0) := by decide +kernel
theorem p132_8 {s0 : Int} {q0 q1 : MV} {ds : Ds} {m : Mm} {Q : Ds → Mm → List MV → Prop} : WP 132 8 [q0, q1] [(2, s0)] ds m Q = (WP 132 9 [q0, q1] [(0, (-1)), (2, s0)] ds m Q) := P_nx k132_8 rfl
set_option maxRecDepth 20000 in
theorem k132_9 : mjCode 132 9 = some (.invokevirtual 155, 3, 122, 2) := by decide +kernel
theorem p132_9 {s0 s1 : Int} {q0 q1 : MV} {ds : Ds} {m : Mm} {Q : Ds → Mm → List MV → Prop} : WP 132 9 [q0, q1] [(0, s0), (2, s1)] ds m Q = ((dk ds s1 = 7 ∧ WP 121 0 [(2, s1), (0, s0)] [] ds m (fun d2 m2 r2 => WP 132 12 [q0, q1] (r2 ++ []) d2 m2 Q))) := P_cv k132_9 mx121 mo121 rfl rfl rfl rfl rfl rfl rfl rfl
set_option maxRecDepth 20000 in
theorem k132_12 : mjCode 132 12 = some (.ireturn, 1, 0, 0) := by decide +kernel
theorem p132_12 {s0 : Int} {q0 q1 : MV} {ds : Ds} {m : Mm} {Q : Ds → Mm → List MV → Prop} : WP 132 12 [q0, q1] [(0, s0)] ds m Q = (Q ds m [(0, s0)]) := P_ri k132_12 rk132
set_option maxRecDepth 20000 in
theorem k132_13 : mjCode 132 13 = some (.aload_n 0, 1, 0, 0) := by decide +kernel
theorem p132_13 {l0 : Int} {q1 : MV} {ds : Ds} {m : Mm} {Q : Ds → Mm → List MV → Prop} : WP 132 13 [(2, l0), q1] [] ds m Q = (WP 132 14 [(2, l0), q1] [(2, l0)] ds m Q) := P_nx k132_13 rfl
set_option maxRecDepth 20000 in
theorem k132_14 : mjCode 132 14 = some (.iload_n 1, 1, 0, 0) := by decide +kernel
theorem p132_14 {l1 s0 : Int} {q0 : MV} {ds : Ds} {m : Mm} {Q : Ds → Mm → List MV → Prop} : WP 132 14 [q0, (0, l1)] [(2, s0)] ds m Q = (WP 132 15 [q0, (0, l1)] [(0, l1), (2, s0)] ds m Q) := P_nx k132_14 rfl
set_option maxRecDepth 20000 in
theorem k132_15 : mjCode 132 15 = some (.invokevirtual 170, 3, 132, 2) := by decide +kernel
theorem p132_15 {s0 s1 : Int} {q0 q1 : MV} {ds : Ds} {m : Mm} {Q : Ds → Mm → List MV → Prop} : WP 132 15 [q0, q1] [(0, s0), (2, s1)] ds m Q = ((dk ds s1 = 7 ∧ WP 131 0 [(2, s1), (0, s0)] [] ds m (fun d2 m2 r2 => WP 132 18 [q0, q1] (r2 ++ []) d2 m2 Q))) := P_cv k132_15 mx131 mo131 rfl rfl rfl rfl rfl rfl rfl rfl
set_option maxRecDepth 20000 in
theorem k132_18 : mjCode 132 18 = some (.ifCond .ne 10, 3, 28, 0) := by decide +kernel
theorem p132_18 {s0 : Int} {q0 q1 : MV} {ds : Ds} {m : Mm} {Q : Ds → Mm → List MV → Prop} : WP 132 18 [q0, q1] [(0, s0)] ds m Q = (if s0 = 0 then WP 132 21 [q0, q1] [] ds m Q else WP 132 28 [q0, q1] [] ds m Q) := P_if k132_18 rfl
set_option maxRecDepth 20000 in
theorem k132_21 : mjCode 132 21 = some (.aload_n 0, 1, 0, 0) := by decide +kernel
theorem p132_21 {l0 : Int} {q1 : MV} {ds : Ds} {m : Mm} {Q : Ds → Mm → List MV → Prop} : WP 132 21 [(2, l0), q1] [] ds m Q = (WP 132 22 [(2, l0), q1] [(2, l0)] ds m Q) := P_nx k132_21 rfl
set_option maxRecDepth 20000 in
theorem k132_22 : mjCode 132 22 = some (.bipush (-6), 2, 0, 0) := by decide +kernel
theorem p132_22 {s0 : Int} {q0 q1 : MV} {ds : Ds} {m : Mm} {Q : Ds → Mm → List MV → Prop} : WP 132 22 [q0, q1] [(2, s0)] ds m Q = (WP 132 24 [q0, q1] [(0, (-6)), (2, s0)] ds m Q) := P_nx k132_22 rfl
set_option maxRecDepth 20000 in
theorem k132_24 : mjCode 132 24 = some (.invokevirtual 155, 3, 122, 2) := by decide +kernel
theorem p132_24 {s0 s1 : Int} {q0 q1 : MV} {ds : Ds} {m : Mm} {Q : Ds → Mm → List MV → Prop} : WP 132 24 [q0, q1] [(0, s0), (2, s1)] ds m Q = ((dk ds s1 = 7 ∧ WP 121 0 [(2, s1), (0, s0)] [] ds m (fun d2 m2 r2 => WP 132 27 [q0, q1] (r2 ++ []) d2 m2 Q))) := P_cv k132_24 mx121 mo121 rfl rfl rfl rfl rfl rfl rfl rfl
set_option maxRecDepth 20000 in
theorem k132_27 : mjCode 132 27 = some (.ireturn, 1, 0, 0) := by decide +kernel
theorem p132_27 {s0 : Int} {q0 q1 : MV} {ds : Ds} {m : Mm} {Q : Ds → Mm → List MV → Prop} : WP 132 27 [q0, q1] [(0, s0)] ds m Q = (Q ds m [(0, s0)]) := P_ri k132_27 rk132
set_option maxRecDepth 20000 in
theorem k132_28 : mjCode 132 28 = some (.aload_n 0, 1, 0, 0) := by decide +kernel
theorem p132_28 {l0 : Int} {q1 : MV} {ds : Ds} {m : Mm} {Q : Ds → Mm → List MV → Prop} : WP 132 28 [(2, l0), q1] [] ds m Q = (WP 132 29 [(2, l0), q1] [(2, l0)] ds m Q) := P_nx k132_28 rfl
set_option maxRecDepth 20000 in
theorem k132_29 : mjCode 132 29 = some (.getfield 25, 3, 7, 5) := by decide +kernel
theorem p132_29 {s0 : Int} {q0 q1 : MV} {ds : Ds} {m : Mm} {Q : Ds → Mm → List MV → Prop} : WP 132 29 [q0, q1] [(2, s0)] ds m Q = ((dk ds s0 = 7 ∧ WP 132 32 [q0, q1] [(2, m s0 5)] ds m Q)) := P_gd k132_29 rfl
set_option maxRecDepth 20000 in
theorem k132_32 : mjCode 132 32 = some (.iload_n 1, 1, 0, 0) := by decide +kernel
theorem p132_32 {l1 s0 : Int} {q0 : MV} {ds : Ds} {m : Mm} {Q : Ds → Mm → List MV → Prop} : WP 132 32 [q0, (0, l1)] [(2, s0)] ds m Q = (WP 132 33 [q0, (0, l1)] [(0, l1), (2, s0)] ds m Q) := P_nx k132_32 rfl
set_option maxRecDepth 20000 in
theorem k132_33 : mjCode 132 33 = some (.iconst 1, 1, 0, 0) := by decide +kernel
theorem p132_33 {s0 s1 : Int} {q0 q1 : MV} {ds : Ds} {m : Mm} {Q : Ds → Mm → List MV → Prop} : WP 132 33 [q0, q1] [(0, s0), (2, s1)] ds m Q = (WP 132 34 [q0, q1] [(0, 1), (0, s0), (2, s1)] ds m Q) := P_nx k132_33 rfl
set_option maxRecDepth 20000 in
theorem k132_34 : mjCode 132 34 = some (.bastore, 1, 0, 0) := by decide +kernel
theorem p132_34 {s0 s1 s2 : Int} {q0 q1 : MV} {ds : Ds} {m : Mm} {Q : Ds → Mm → List MV → Prop} : WP 132 34 [q0, q1] [(0, s0), (0, s1), (2, s2)] ds m Q = (((s0 = 0 ∨ s0 = 1) ∧ dk ds s2 = 11 ∧ 0 ≤ s1 ∧ s1 < dl ds s2 ∧ WP 132 35 [q0, q1] [] ds (up m s2 s1 s0) Q)) := P_s4 k132_34 rfl
set_option maxRecDepth 20000 in
theorem k132_35 : mjCode 132 35 = some (.iconst 1, 1, 0, 0) := by decide +kernel
theorem p132_35 {q0 q1 : MV} {ds : Ds} {m : Mm} {Q : Ds → Mm → List MV → Prop} : WP 132 35 [q0, q1] [] ds m Q = (WP 132 36 [q0, q1] [(0, 1)] ds m Q) := P_nx k132_35 rfl
set_option maxRecDepth 20000 in
theorem k132_36 : mjCode 132 36 = some (.ireturn, 1, 0, 0) := by decide +kernel
theorem p132_36 {s0 : Int} {q0 q1 : MV} {ds : Ds} {m : Mm} {Q : Ds → Mm → List MV → Prop} : WP 132 36 [q0, q1] [(0, s0)] ds m Q = (Q ds m [(0, s0)]) := P_ri k132_36 rk132
set_option maxRecDepth 20000 in
theorem k133_0 : mjCode 133 0 = some (.iload_n 1, 1, 0, 0) := by decide +kernel
theorem p133_0 {l1 : Int} {q0 q2 : MV} {ds : Ds} {m : Mm} {Q : Ds → Mm → List MV → Prop} : WP 133 0 [q0, (0, l1), q2] [] ds m Q = (WP 133 1 [q0, (0, l1), q2] [(0, l1)] ds m Q) := P_nx k133_0 rfl
set_option maxRecDepth 20000 in
theorem k133_1 : mjCode 133 1 = some (.invokestatic 152, 3, 123, 1) := by decide +kernel
theorem p133_1 {s0 : Int} {q0 q1 q2 : MV} {ds : Ds} {m : Mm} {Q : Ds → Mm → List MV → Prop} : WP 133 1 [q0, q1, q2] [(0, s0)] ds m Q = (WP 122 0 [(0, s0)] [] ds m (fun d2 m2 r2 => WP 133 4 [q0, q1, q2] (r2 ++ []) d2 m2 Q)) := P_cs k133_1 mx122 rfl rfl rfl rfl rfl rfl rfl
set_option maxRecDepth 20000 in
theorem k133_4 : mjCode 133 4 = some (.ifCond .ne 9, 3, 13, 0) := by decide +kernel
theorem p133_4 {s0 : Int} {q0 q1 q2 : MV} {ds : Ds} {m : Mm} {Q : Ds → Mm → List MV → Prop} : WP 133 4 [q0, q1, q2] [(0, s0)] ds m Q = (if s0 = 0 then WP 133 7 [q0, q1, q2] [] ds m Q else WP 133 13 [q0, q1, q2] [] ds m Q) := P_if k133_4 rfl
set_option maxRecDepth 20000 in
theorem k133_7 : mjCode 133 7 = some (.aload_n 0, 1, 0, 0) := by decide +kernel
theorem p133_7 {l0 : Int} {q1 q2 : MV} {ds : Ds} {m : Mm} {Q : Ds → Mm → List MV → Prop} : WP 133 7 [(2, l0), q1, q2] [] ds m Q = (WP 133 8 [(2, l0), q1, q2] [(2, l0)] ds m Q) := P_nx k133_7 rfl
set_option maxRecDepth 20000 in
theorem k133_8 : mjCode 133 8 = some (.iconst (-1), 1, 0, 0) := by decide +kernel
theorem p133_8 {s0 : Int} {q0 q1 q2 : MV} {ds : Ds} {m : Mm} {Q : Ds → Mm → List MV → Prop} : WP 133 8 [q0, q1, q2] [(2, s0)] ds m Q = (WP 133 9 [q0, q1, q2] [(0, (-1)), (2, s0)] ds m Q) := P_nx k133_8 rfl
set_option maxRecDepth 20000 in
theorem k133_9 : mjCode 133 9 = some (.invokevirtual 155, 3, 122, 2) := by decide +kernel
theorem p133_9 {s0 s1 : Int} {q0 q1 q2 : MV} {ds : Ds} {m : Mm} {Q : Ds → Mm → List MV → Prop} : WP 133 9 [q0, q1, q2] [(0, s0), (2, s1)] ds m Q = ((dk ds s1 = 7 ∧ WP 121 0 [(2, s1), (0, s0)] [] ds m (fun d2 m2 r2 => WP 133 12 [q0, q1, q2] (r2 ++ []) d2 m2 Q))) := P_cv k133_9 mx121 mo121 rfl rfl rfl rfl rfl rfl rfl rfl
set_option maxRecDepth 20000 in
theorem k133_12 : mjCode 133 12 = some (.ireturn, 1, 0, 0) := by decide +kernel
theorem p133_12 {s0 : Int} {q0 q1 q2 : MV} {ds : Ds} {m : Mm} {Q : Ds → Mm → List MV → Prop} : WP 133 12 [q0, q1, q2] [(0, s0)] ds m Q = (Q ds m [(0, s0)]) := P_ri k133_12 rk133
set_option maxRecDepth 20000 in
theorem k133_13 : mjCode 133 13 = some (.aload_n 0, 1, 0, 0) := by decide +kernel
theorem p133_13 {l0 : Int} {q1 q2 : MV} {ds : Ds} {m : Mm} {Q : Ds → Mm → List MV → Prop} : WP 133 13 [(2, l0), q1, q2] [] ds m Q = (WP 133 14 [(2, l0), q1, q2] [(2, l0)] ds m Q) := P_nx k133_13 rfl
set_option maxRecDepth 20000 in
theorem k133_14 : mjCode 133 14 = some (.getfield 13, 3, 7, 1) := by decide +kernel
theorem p133_14 {s0 : Int} {q0 q1 q2 : MV} {ds : Ds} {m : Mm} {Q : Ds → Mm → List MV → Prop} : WP 133 14 [q0, q1, q2] [(2, s0)] ds m Q = ((dk ds s0 = 7 ∧ WP 133 17 [q0, q1, q2] [(2, m s0 1)] ds m Q)) := P_gd k133_14 rfl
set_option maxRecDepth 20000 in
theorem k133_17 : mjCode 133 17 = some (.iload_n 1, 1, 0, 0) := by decide +kernel
theorem p133_17 {l1 s0 : Int} {q0 q2 : MV} {ds : Ds} {m : Mm} {Q : Ds → Mm → List MV → Prop} : WP 133 17 [q0, (0, l1), q2] [(2, s0)] ds m Q = (WP 133 18 [q0, (0, l1), q2] [(0, l1), (2, s0)] ds m Q) := P_nx k133_17 rfl
set_option maxRecDepth 20000 in
theorem k133_18 : mjCode 133 18 = some (.iaload, 1, 0, 0) := by decide +kernel
theorem p133_18 {s0 s1 : Int} {q0 q1 q2 : MV} {ds : Ds} {m : Mm} {Q : Ds → Mm → List MV → Prop} : WP 133 18 [q0, q1, q2] [(0, s0), (2, s1)] ds m Q = ((dk ds s1 = 10 ∧ 0 ≤ s0 ∧ s0 < dl ds s1 ∧ WP 133 19 [q0, q1, q2] [(0, m s1 s0)] ds m Q)) := P_g3 k133_18 rfl
set_option maxRecDepth 20000 in
theorem k133_19 : mjCode 133 19 = some (.istore_n 2, 1, 0, 0) := by decide +kernel
theorem p133_19 {l1 s0 : Int} {q0 q2 : MV} {ds : Ds} {m : Mm} {Q : Ds → Mm → List MV → Prop} : WP 133 19 [q0, (0, l1), q2] [(0, s0)] ds m Q = (WP 133 20 [q0, (0, l1), (0, s0)] [] ds m Q) := P_nx k133_19 rfl
set_option maxRecDepth 20000 in
theorem k133_20 : mjCode 133 20 = some (.iload_n 2, 1, 0, 0) := by decide +kernel
theorem p133_20 {l2 : Int} {q0 q1 : MV} {ds : Ds} {m : Mm} {Q : Ds → Mm → List MV → Prop} : WP 133 20 [q0, q1, (0, l2)] [] ds m Q = (WP 133 21 [q0, q1, (0, l2)] [(0, l2)] ds m Q) := P_nx k133_20 rfl
set_option maxRecDepth 20000 in
theorem k133_21 : mjCode 133 21 = some (.iconst 3, 1, 0, 0) := by decide +kernel
theorem p133_21 {s0 : Int} {q0 q1 q2 : MV} {ds : Ds} {m : Mm} {Q : Ds → Mm → List MV → Prop} : WP 133 21 [q0, q1, q2] [(0, s0)] ds m Q = (WP 133 22 [q0, q1, q2] [(0, 3), (0, s0)] ds m Q) := P_nx k133_21 rfl
set_option maxRecDepth 20000 in
theorem k133_22 : mjCode 133 22 = some (.if_icmp .ne 15, 3, 37, 0) := by decide +kernel
theorem p133_22 {s0 s1 : Int} {q0 q1 q2 : MV} {ds : Ds} {m : Mm} {Q : Ds → Mm → List MV → Prop} : WP 133 22 [q0, q1, q2] [(0, s0), (0, s1)] ds m Q = (if s1 = s0 then WP 133 25 [q0, q1, q2] [] ds m Q else WP 133 37 [q0, q1, q2] [] ds m Q) := P_if k133_22 rfl
set_option maxRecDepth 20000 in
theorem k133_25 : mjCode 133 25 = some (.aload_n 0, 1, 0, 0) := by decide +kernel
theorem p133_25 {l0 : Int} {q1 q2 : MV} {ds : Ds} {m : Mm} {Q : Ds → Mm → List MV → Prop} : WP 133 25 [(2, l0), q1, q2] [] ds m Q = (WP 133 26 [(2, l0), q1, q2] [(2, l0)] ds m Q) := P_nx k133_25 rfl
set_option maxRecDepth 20000 in
theorem k133_26 : mjCode 133 26 = some (.getfield 13, 3, 7, 1) := by decide +kernel
theorem p133_26 {s0 : Int} {q0 q1 q2 : MV} {ds : Ds} {m : Mm} {Q : Ds → Mm → List MV → Prop} : WP 133 26 [q0, q1, q2] [(2, s0)] ds m Q = ((dk ds s0 = 7 ∧ WP 133 29 [q0, q1, q2] [(2, m s0 1)] ds m Q)) := P_gd k133_26 rfl
set_option maxRecDepth 20000 in
theorem k133_29 : mjCode 133 29 = some (.aload_n 0, 1, 0, 0) := by decide +kernel
theorem p133_29 {l0 s0 : Int} {q1 q2 : MV} {ds : Ds} {m : Mm} {Q : Ds → Mm → List MV → Prop} : WP 133 29 [(2, l0), q1, q2] [(2, s0)] ds m Q = (WP 133 30 [(2, l0), q1, q2] [(2, l0), (2, s0)] ds m Q) := P_nx k133_29 rfl
set_option maxRecDepth 20000 in
theorem k133_30 : mjCode 133 30 = some (.getfield 22, 3, 7, 4) := by decide +kernel
theorem p133_30 {s0 s1 : Int} {q0 q1 q2 : MV} {ds : Ds} {m : Mm} {Q : Ds → Mm → List MV → Prop} : WP 133 30 [q0, q1, q2] [(2, s0), (2, s1)] ds m Q = ((dk ds s0 = 7 ∧ WP 133 33 [q0, q1, q2] [(2, m s0 4), (2, s1)] ds m Q)) := P_gd k133_30 rfl
set_option maxRecDepth 20000 in
theorem k133_33 : mjCode 133 33 = some (.iload_n 1, 1, 0, 0) := by decide +kernel
theorem p133_33 {l1 s0 s1 : Int} {q0 q2 : MV} {ds : Ds} {m : Mm} {Q : Ds → Mm → List MV → Prop} : WP 133 33 [q0, (0, l1), q2] [(2, s0), (2, s1)] ds m Q = (WP 133 34 [q0, (0, l1), q2] [(0, l1), (2, s0), (2, s1)] ds m Q) := P_nx k133_33 rfl
set_option maxRecDepth 20000 in
theorem k133_34 : mjCode 133 34 = some (.iaload, 1, 0, 0) := by decide +kernel
theorem p133_34 {s0 s1 s2 : Int} {q0 q1 q2 : MV} {ds : Ds} {m : Mm} {Q : Ds → Mm → List MV → Prop} : WP 133 34 [q0, q1, q2] [(0, s0), (2, s1), (2, s2)] ds m Q = ((dk ds s1 = 10 ∧ 0 ≤ s0 ∧ s0 < dl ds s1 ∧ WP 133 35 [q0, q1, q2] [(0, m s1 s0), (2, s2)] ds m Q)) := P_g3 k133_34 rfl
set_option maxRecDepth 20000 in
theorem k133_35 : mjCode 133 35 = some (.iconst 0, 1, 0, 0) := by decide +kernel
theorem p133_35 {s0 s1 : Int} {q0 q1 q2 : MV} {ds : Ds} {m : Mm} {Q : Ds → Mm → List MV → Prop} : WP 133 35 [q0, q1, q2] [(0, s0), (2, s1)] ds m Q = (WP 133 36 [q0, q1, q2] [(0, 0), (0, s0), (2, s1)] ds m Q) := P_nx k133_35 rfl
set_option maxRecDepth 20000 in
theorem k133_36 : mjCode 133 36 = some (.iastore, 1, 0, 0) := by decide +kernel
theorem p133_36 {s0 s1 s2 : Int} {q0 q1 q2 : MV} {ds : Ds} {m : Mm} {Q : Ds → Mm → List MV → Prop} : WP 133 36 [q0, q1, q2] [(0, s0), (0, s1), (2, s2)] ds m Q = ((dk ds s2 = 10 ∧ 0 ≤ s1 ∧ s1 < dl ds s2 ∧ WP 133 37 [q0, q1, q2] [] ds (up m s2 s1 s0) Q)) := P_s3 k133_36 rfl
set_option maxRecDepth 20000 in
theorem k133_37 : mjCode 133 37 = some (.aload_n 0, 1, 0, 0) := by decide +kernel
theorem p133_37 {l0 : Int} {q1 q2 : MV} {ds : Ds} {m : Mm} {Q : Ds → Mm → List MV → Prop} : WP 133 37 [(2, l0), q1, q2] [] ds m Q = (WP 133 38 [(2, l0), q1, q2] [(2, l0)] ds m Q) := P_nx k133_37 rfl
set_option maxRecDepth 20000 in
theorem k133_38 : mjCode 133 38 = some (.getfield 13, 3, 7, 1) := by decide +kernel
theorem p133_38 {s0 : Int} {q0 q1 q2 : MV} {ds : Ds} {m : Mm} {Q : Ds → Mm → List MV → Prop} : WP 133 38 [q0, q1, q2] [(2, s0)] ds m Q = ((dk ds s0 = 7 ∧ WP 133 41 [q0, q1, q2] [(2, m s0 1)] ds m Q)) := P_gd k133_38 rfl
set_option maxRecDepth 20000 in
theorem k133_41 : mjCode 133 41 = some (.iload_n 1, 1, 0, 0) := by decide +kernel
theorem p133_41 {l1 s0 : Int} {q0 q2 : MV} {ds : Ds} {m : Mm} {Q : Ds → Mm → List MV → Prop} : WP 133 41 [q0, (0, l1), q2] [(2, s0)] ds m Q = (WP 133 42 [q0, (0, l1), q2] [(0, l1), (2, s0)] ds m Q) := P_nx k133_41 rfl
set_option maxRecDepth 20000 in
theorem k133_42 : mjCode 133 42 = some (.iconst 0, 1, 0, 0) := by decide +kernel
theorem p133_42 {s0 s1 : Int} {q0 q1 q2 : MV} {ds : Ds} {m : Mm} {Q : Ds → Mm → List MV → Prop} : WP 133 42 [q0, q1, q2] [(0, s0), (2, s1)] ds m Q = (WP 133 43 [q0, q1, q2] [(0, 0), (0, s0), (2, s1)] ds m Q) := P_nx k133_42 rfl
set_option maxRecDepth 20000 in
theorem k133_43 : mjCode 133 43 = some (.iastore, 1, 0, 0) := by decide +kernel
theorem p133_43 {s0 s1 s2 : Int} {q0 q1 q2 : MV} {ds : Ds} {m : Mm} {Q : Ds → Mm → List MV → Prop} : WP 133 43 [q0, q1, q2] [(0, s0), (0, s1), (2, s2)] ds m Q = ((dk ds s2 = 10 ∧ 0 ≤ s1 ∧ s1 < dl ds s2 ∧ WP 133 44 [q0, q1, q2] [] ds (up m s2 s1 s0) Q)) := P_s3 k133_43 rfl
set_option maxRecDepth 20000 in
theorem k133_44 : mjCode 133 44 = some (.aload_n 0, 1, 0, 0) := by decide +kernel
theorem p133_44 {l0 : Int} {q1 q2 : MV} {ds : Ds} {m : Mm} {Q : Ds → Mm → List MV → Prop} : WP 133 44 [(2, l0), q1, q2] [] ds m Q = (WP 133 45 [(2, l0), q1, q2] [(2, l0)] ds m Q) := P_nx k133_44 rfl
set_option maxRecDepth 20000 in
theorem k133_45 : mjCode 133 45 = some (.getfield 25, 3, 7, 5) := by decide +kernel
theorem p133_45 {s0 : Int} {q0 q1 q2 : MV} {ds : Ds} {m : Mm} {Q : Ds → Mm → List MV → Prop} : WP 133 45 [q0, q1, q2] [(2, s0)] ds m Q = ((dk ds s0 = 7 ∧ WP 133 48 [q0, q1, q2] [(2, m s0 5)] ds m Q)) := P_gd k133_45 rfl
set_option maxRecDepth 20000 in
theorem k133_48 : mjCode 133 48 = some (.iload_n 1, 1, 0, 0) := by decide +kernel
theorem p133_48 {l1 s0 : Int} {q0 q2 : MV} {ds : Ds} {m : Mm} {Q : Ds → Mm → List MV → Prop} : WP 133 48 [q0, (0, l1), q2] [(2, s0)] ds m Q = (WP 133 49 [q0, (0, l1), q2] [(0, l1), (2, s0)] ds m Q) := P_nx k133_48 rfl
set_option maxRecDepth 20000 in
theorem k133_49 : mjCode 133 49 = some (.iconst 0, 1, 0, 0) := by decide +kernel
theorem p133_49 {s0 s1 : Int} {q0 q1 q2 : MV} {ds : Ds} {m : Mm} {Q : Ds → Mm → List MV → Prop} : WP 133 49 [q0, q1, q2] [(0, s0), (2, s1)] ds m Q = (WP 133 50 [q0, q1, q2] [(0, 0), (0, s0), (2, s1)] ds m Q) := P_nx k133_49 rfl
set_option maxRecDepth 20000 in
theorem k133_50 : mjCode 133 50 = some (.bastore, 1, 0, 0) := by decide +kernel
theorem p133_50 {s0 s1 s2 : Int} {q0 q1 q2 : MV} {ds : Ds} {m : Mm} {Q : Ds → Mm → List MV → Prop} : WP 133 50 [q0, q1, q2] [(0, s0), (0, s1), (2, s2)] ds m Q = (((s0 = 0 ∨ s0 = 1) ∧ dk ds s2 = 11 ∧ 0 ≤ s1 ∧ s1 < dl ds s2 ∧ WP 133 51 [q0, q1, q2] [] ds (up m s2 s1 s0) Q)) := P_s4 k133_50 rfl
set_option maxRecDepth 20000 in
theorem k133_51 : mjCode 133 51 = some (.iload_n 2, 1, 0, 0) := by decide +kernel
theorem p133_51 {l2 : Int} {q0 q1 : MV} {ds : Ds} {m : Mm} {Q : Ds → Mm → List MV → Prop} : WP 133 51 [q0, q1, (0, l2)] [] ds m Q = (WP 133 52 [q0, q1, (0, l2)] [(0, l2)] ds m Q) := P_nx k133_51 rfl
set_option maxRecDepth 20000 in
theorem k133_52 : mjCode 133 52 = some (.ireturn, 1, 0, 0) := by decide +kernel
theorem p133_52 {s0 : Int} {q0 q1 q2 : MV} {ds : Ds} {m : Mm} {Q : Ds → Mm → List MV → Prop} : WP 133 52 [q0, q1, q2] [(0, s0)] ds m Q = (Q ds m [(0, s0)]) := P_ri k133_52 rk133
set_option maxRecDepth 20000 in
theorem k134_0 : mjCode 134 0 = some (.iload_n 1, 1, 0, 0) := by decide +kernel
theorem p134_0 {l1 : Int} {q0 q2 q3 : MV} {ds : Ds} {m : Mm} {Q : Ds → Mm → List MV → Prop} : WP 134 0 [q0, (0, l1), q2, q3] [] ds m Q = (WP 134 1 [q0, (0, l1), q2, q3] [(0, l1)] ds m Q) := P_nx k134_0 rfl
set_option maxRecDepth 20000 in
theorem k134_1 : mjCode 134 1 = some (.invokestatic 152, 3, 123, 1) := by decide +kernel
theorem p134_1 {s0 : Int} {q0 q1 q2 q3 : MV} {ds : Ds} {m : Mm} {Q : Ds → Mm → List MV → Prop} : WP 134 1 [q0, q1, q2, q3] [(0, s0)] ds m Q = (WP 122 0 [(0, s0)] [] ds m (fun d2 m2 r2 => WP 134 4 [q0, q1, q2, q3] (r2 ++ []) d2 m2 Q)) := P_cs k134_1 mx122 rfl rfl rfl rfl rfl rfl rfl
set_option maxRecDepth 20000 in
theorem k134_4 : mjCode 134 4 = some (.ifCond .ne 9, 3, 13, 0) := by decide +kernel
theorem p134_4 {s0 : Int} {q0 q1 q2 q3 : MV} {ds : Ds} {m : Mm} {Q : Ds → Mm → List MV → Prop} : WP 134 4 [q0, q1, q2, q3] [(0, s0)] ds m Q = (if s0 = 0 then WP 134 7 [q0, q1, q2, q3] [] ds m Q else WP 134 13 [q0, q1, q2, q3] [] ds m Q) := P_if k134_4 rfl
set_option maxRecDepth 20000 in
theorem k134_7 : mjCode 134 7 = some (.aload_n 0, 1, 0, 0) := by decide +kernel
theorem p134_7 {l0 : Int} {q1 q2 q3 : MV} {ds : Ds} {m : Mm} {Q : Ds → Mm → List MV → Prop} : WP 134 7 [(2, l0), q1, q2, q3] [] ds m Q = (WP 134 8 [(2, l0), q1, q2, q3] [(2, l0)] ds m Q) := P_nx k134_7 rfl
set_option maxRecDepth 20000 in
theorem k134_8 : mjCode 134 8 = some (.iconst (-1), 1, 0, 0) := by decide +kernel
theorem p134_8 {s0 : Int} {q0 q1 q2 q3 : MV} {ds : Ds} {m : Mm} {Q : Ds → Mm → List MV → Prop} : WP 134 8 [q0, q1, q2, q3] [(2, s0)] ds m Q = (WP 134 9 [q0, q1, q2, q3] [(0, (-1)), (2, s0)] ds m Q) := P_nx k134_8 rfl
set_option maxRecDepth 20000 in
theorem k134_9 : mjCode 134 9 = some (.invokevirtual 155, 3, 122, 2) := by decide +kernel
theorem p134_9 {s0 s1 : Int} {q0 q1 q2 q3 : MV} {ds : Ds} {m : Mm} {Q : Ds → Mm → List MV → Prop} : WP 134 9 [q0, q1, q2, q3] [(0, s0), (2, s1)] ds m Q = ((dk ds s1 = 7 ∧ WP 121 0 [(2, s1), (0, s0)] [] ds m (fun d2 m2 r2 => WP 134 12 [q0, q1, q2, q3] (r2 ++ []) d2 m2 Q))) := P_cv k134_9 mx121 mo121 rfl rfl rfl rfl rfl rfl rfl rfl
set_option maxRecDepth 20000 in
theorem k134_12 : mjCode 134 12 = some (.ireturn, 1, 0, 0) := by decide +kernel
theorem p134_12 {s0 : Int} {q0 q1 q2 q3 : MV} {ds : Ds} {m : Mm} {Q : Ds → Mm → List MV → Prop} : WP 134 12 [q0, q1, q2, q3] [(0, s0)] ds m Q = (Q ds m [(0, s0)]) := P_ri k134_12 rk134
set_option maxRecDepth 20000 in
theorem k134_13 : mjCode 134 13 = some (.iload_n 2, 1, 0, 0) := by decide +kernel
theorem p134_13 {l2 : Int} {q0 q1 q3 : MV} {ds : Ds} {m : Mm} {Q : Ds → Mm → List MV → Prop} : WP 134 13 [q0, q1, (0, l2), q3] [] ds m Q = (WP 134 14 [q0, q1, (0, l2), q3] [(0, l2)] ds m Q) := P_nx k134_13 rfl
set_option maxRecDepth 20000 in
theorem k134_14 : mjCode 134 14 = some (.iconst 0, 1, 0, 0) := by decide +kernel
theorem p134_14 {s0 : Int} {q0 q1 q2 q3 : MV} {ds : Ds} {m : Mm} {Q : Ds → Mm → List MV → Prop} : WP 134 14 [q0, q1, q2, q3] [(0, s0)] ds m Q = (WP 134 15 [q0, q1, q2, q3] [(0, 0), (0, s0)] ds m Q) := P_nx k134_14 rfl
set_option maxRecDepth 20000 in
theorem k134_15 : mjCode 134 15 = some (.iconst 3, 1, 0, 0) := by decide +kernel
theorem p134_15 {s0 s1 : Int} {q0 q1 q2 q3 : MV} {ds : Ds} {m : Mm} {Q : Ds → Mm → List MV → Prop} : WP 134 15 [q0, q1, q2, q3] [(0, s0), (0, s1)] ds m Q = (WP 134 16 [q0, q1, q2, q3] [(0, 3), (0, s0), (0, s1)] ds m Q) := P_nx k134_15 rfl
set_option maxRecDepth 20000 in
theorem k134_16 : mjCode 134 16 = some (.invokestatic 141, 3, 121, 3) := by decide +kernel
theorem p134_16 {s0 s1 s2 : Int} {q0 q1 q2 q3 : MV} {ds : Ds} {m : Mm} {Q : Ds → Mm → List MV → Prop} : WP 134 16 [q0, q1, q2, q3] [(0, s0), (0, s1), (0, s2)] ds m Q = (WP 120 0 [(0, s2), (0, s1), (0, s0)] [] ds m (fun d2 m2 r2 => WP 134 19 [q0, q1, q2, q3] (r2 ++ []) d2 m2 Q)) := P_cs k134_16 mx120 rfl rfl rfl rfl rfl rfl rfl
set_option maxRecDepth 20000 in
theorem k134_19 : mjCode 134 19 = some (.ifCond .eq 13, 3, 32, 0) := by decide +kernel
theorem p134_19 {s0 : Int} {q0 q1 q2 q3 : MV} {ds : Ds} {m : Mm} {Q : Ds → Mm → List MV → Prop} : WP 134 19 [q0, q1, q2, q3] [(0, s0)] ds m Q = (if s0 = 0 then WP 134 32 [q0, q1, q2, q3] [] ds m Q else WP 134 22 [q0, q1, q2, q3] [] ds m Q) := P_if k134_19 rfl
set_option maxRecDepth 20000 in
theorem k134_22 : mjCode 134 22 = some (.iload_n 3, 1, 0, 0) := by decide +kernel
theorem p134_22 {l3 : Int} {q0 q1 q2 : MV} {ds : Ds} {m : Mm} {Q : Ds → Mm → List MV → Prop} : WP 134 22 [q0, q1, q2, (0, l3)] [] ds m Q = (WP 134 23 [q0, q1, q2, (0, l3)] [(0, l3)] ds m Q) := P_nx k134_22 rfl
set_option maxRecDepth 20000 in
theorem k134_23 : mjCode 134 23 = some (.iconst 0, 1, 0, 0) := by decide +kernel
theorem p134_23 {s0 : Int} {q0 q1 q2 q3 : MV} {ds : Ds} {m : Mm} {Q : Ds → Mm → List MV → Prop} : WP 134 23 [q0, q1, q2, q3] [(0, s0)] ds m Q = (WP 134 24 [q0, q1, q2, q3] [(0, 0), (0, s0)] ds m Q) := P_nx k134_23 rfl
set_option maxRecDepth 20000 in
theorem k134_24 : mjCode 134 24 = some (.bipush 99, 2, 0, 0) := by decide +kernel
theorem p134_24 {s0 s1 : Int} {q0 q1 q2 q3 : MV} {ds : Ds} {m : Mm} {Q : Ds → Mm → List MV → Prop} : WP 134 24 [q0, q1, q2, q3] [(0, s0), (0, s1)] ds m Q = (WP 134 26 [q0, q1, q2, q3] [(0, 99), (0, s0), (0, s1)] ds m Q) := P_nx k134_24 rfl
set_option maxRecDepth 20000 in
theorem k134_26 : mjCode 134 26 = some (.invokestatic 141, 3, 121, 3) := by decide +kernel
theorem p134_26 {s0 s1 s2 : Int} {q0 q1 q2 q3 : MV} {ds : Ds} {m : Mm} {Q : Ds → Mm → List MV → Prop} : WP 134 26 [q0, q1, q2, q3] [(0, s0), (0, s1), (0, s2)] ds m Q = (WP 120 0 [(0, s2), (0, s1), (0, s0)] [] ds m (fun d2 m2 r2 => WP 134 29 [q0, q1, q2, q3] (r2 ++ []) d2 m2 Q)) := P_cs k134_26 mx120 rfl rfl rfl rfl rfl rfl rfl
set_option maxRecDepth 20000 in
theorem k134_29 : mjCode 134 29 = some (.ifCond .ne 10, 3, 39, 0) := by decide +kernel
theorem p134_29 {s0 : Int} {q0 q1 q2 q3 : MV} {ds : Ds} {m : Mm} {Q : Ds → Mm → List MV → Prop} : WP 134 29 [q0, q1, q2, q3] [(0, s0)] ds m Q = (if s0 = 0 then WP 134 32 [q0, q1, q2, q3] [] ds m Q else WP 134 39 [q0, q1, q2, q3] [] ds m Q) := P_if k134_29 rfl
set_option maxRecDepth 20000 in
theorem k134_32 : mjCode 134 32 = some (.aload_n 0, 1, 0, 0) := by decide +kernel
theorem p134_32 {l0 : Int} {q1 q2 q3 : MV} {ds : Ds} {m : Mm} {Q : Ds → Mm → List MV → Prop} : WP 134 32 [(2, l0), q1, q2, q3] [] ds m Q = (WP 134 33 [(2, l0), q1, q2, q3] [(2, l0)] ds m Q) := P_nx k134_32 rfl
set_option maxRecDepth 20000 in
theorem k134_33 : mjCode 134 33 = some (.bipush (-6), 2, 0, 0) := by decide +kernel
theorem p134_33 {s0 : Int} {q0 q1 q2 q3 : MV} {ds : Ds} {m : Mm} {Q : Ds → Mm → List MV → Prop} : WP 134 33 [q0, q1, q2, q3] [(2, s0)] ds m Q = (WP 134 35 [q0, q1, q2, q3] [(0, (-6)), (2, s0)] ds m Q) := P_nx k134_33 rfl
set_option maxRecDepth 20000 in
theorem k134_35 : mjCode 134 35 = some (.invokevirtual 155, 3, 122, 2) := by decide +kernel
theorem p134_35 {s0 s1 : Int} {q0 q1 q2 q3 : MV} {ds : Ds} {m : Mm} {Q : Ds → Mm → List MV → Prop} : WP 134 35 [q0, q1, q2, q3] [(0, s0), (2, s1)] ds m Q = ((dk ds s1 = 7 ∧ WP 121 0 [(2, s1), (0, s0)] [] ds m (fun d2 m2 r2 => WP 134 38 [q0, q1, q2, q3] (r2 ++ []) d2 m2 Q))) := P_cv k134_35 mx121 mo121 rfl rfl rfl rfl rfl rfl rfl rfl
set_option maxRecDepth 20000 in
theorem k134_38 : mjCode 134 38 = some (.ireturn, 1, 0, 0) := by decide +kernel
theorem p134_38 {s0 : Int} {q0 q1 q2 q3 : MV} {ds : Ds} {m : Mm} {Q : Ds → Mm → List MV → Prop} : WP 134 38 [q0, q1, q2, q3] [(0, s0)] ds m Q = (Q ds m [(0, s0)]) := P_ri k134_38 rk134
set_option maxRecDepth 20000 in
theorem k134_39 : mjCode 134 39 = some (.aload_n 0, 1, 0, 0) := by decide +kernel
theorem p134_39 {l0 : Int} {q1 q2 q3 : MV} {ds : Ds} {m : Mm} {Q : Ds → Mm → List MV → Prop} : WP 134 39 [(2, l0), q1, q2, q3] [] ds m Q = (WP 134 40 [(2, l0), q1, q2, q3] [(2, l0)] ds m Q) := P_nx k134_39 rfl
set_option maxRecDepth 20000 in
theorem k134_40 : mjCode 134 40 = some (.getfield 173, 3, 7, 6) := by decide +kernel
theorem p134_40 {s0 : Int} {q0 q1 q2 q3 : MV} {ds : Ds} {m : Mm} {Q : Ds → Mm → List MV → Prop} : WP 134 40 [q0, q1, q2, q3] [(2, s0)] ds m Q = ((dk ds s0 = 7 ∧ WP 134 43 [q0, q1, q2, q3] [(0, m s0 6)] ds m Q)) := P_gd k134_40 rfl
set_option maxRecDepth 20000 in
theorem k134_43 : mjCode 134 43 = some (.iconst 4, 1, 0, 0) := by decide +kernel
theorem p134_43 {s0 : Int} {q0 q1 q2 q3 : MV} {ds : Ds} {m : Mm} {Q : Ds → Mm → List MV → Prop} : WP 134 43 [q0, q1, q2, q3] [(0, s0)] ds m Q = (WP 134 44 [q0, q1, q2, q3] [(0, 4), (0, s0)] ds m Q) := P_nx k134_43 rfl
set_option maxRecDepth 20000 in
theorem k134_44 : mjCode 134 44 = some (.if_icmp .ne 10, 3, 54, 0) := by decide +kernel
theorem p134_44 {s0 s1 : Int} {q0 q1 q2 q3 : MV} {ds : Ds} {m : Mm} {Q : Ds → Mm → List MV → Prop} : WP 134 44 [q0, q1, q2, q3] [(0, s0), (0, s1)] ds m Q = (if s1 = s0 then WP 134 47 [q0, q1, q2, q3] [] ds m Q else WP 134 54 [q0, q1, q2, q3] [] ds m Q) := P_if k134_44 rfl
set_option maxRecDepth 20000 in
theorem k134_47 : mjCode 134 47 = some (.aload_n 0, 1, 0, 0) := by decide +kernel
theorem p134_47 {l0 : Int} {q1 q2 q3 : MV} {ds : Ds} {m : Mm} {Q : Ds → Mm → List MV → Prop} : WP 134 47 [(2, l0), q1, q2, q3] [] ds m Q = (WP 134 48 [(2, l0), q1, q2, q3] [(2, l0)] ds m Q) := P_nx k134_47 rfl
set_option maxRecDepth 20000 in
theorem k134_48 : mjCode 134 48 = some (.bipush (-7), 2, 0, 0) := by decide +kernel
theorem p134_48 {s0 : Int} {q0 q1 q2 q3 : MV} {ds : Ds} {m : Mm} {Q : Ds → Mm → List MV → Prop} : WP 134 48 [q0, q1, q2, q3] [(2, s0)] ds m Q = (WP 134 50 [q0, q1, q2, q3] [(0, (-7)), (2, s0)] ds m Q) := P_nx k134_48 rfl
set_option maxRecDepth 20000 in
theorem k134_50 : mjCode 134 50 = some (.invokevirtual 155, 3, 122, 2) := by decide +kernel
theorem p134_50 {s0 s1 : Int} {q0 q1 q2 q3 : MV} {ds : Ds} {m : Mm} {Q : Ds → Mm → List MV → Prop} : WP 134 50 [q0, q1, q2, q3] [(0, s0), (2, s1)] ds m Q = ((dk ds s1 = 7 ∧ WP 121 0 [(2, s1), (0, s0)] [] ds m (fun d2 m2 r2 => WP 134 53 [q0, q1, q2, q3] (r2 ++ []) d2 m2 Q))) := P_cv k134_50 mx121 mo121 rfl rfl rfl rfl rfl rfl rfl rfl
set_option maxRecDepth 20000 in
theorem k134_53 : mjCode 134 53 = some (.ireturn, 1, 0, 0) := by decide +kernel
theorem p134_53 {s0 : Int} {q0 q1 q2 q3 : MV} {ds : Ds} {m : Mm} {Q : Ds → Mm → List MV → Prop} : WP 134 53 [q0, q1, q2, q3] [(0, s0)] ds m Q = (Q ds m [(0, s0)]) := P_ri k134_53 rk134
set_option maxRecDepth 20000 in
theorem k134_54 : mjCode 134 54 = some (.aload_n 0, 1, 0, 0) := by decide +kernel
theorem p134_54 {l0 : Int} {q1 q2 q3 : MV} {ds : Ds} {m : Mm} {Q : Ds → Mm → List MV → Prop} : WP 134 54 [(2, l0), q1, q2, q3] [] ds m Q = (WP 134 55 [(2, l0), q1, q2, q3] [(2, l0)] ds m Q) := P_nx k134_54 rfl
set_option maxRecDepth 20000 in
theorem k134_55 : mjCode 134 55 = some (.getfield 29, 3, 7, 7) := by decide +kernel
theorem p134_55 {s0 : Int} {q0 q1 q2 q3 : MV} {ds : Ds} {m : Mm} {Q : Ds → Mm → List MV → Prop} : WP 134 55 [q0, q1, q2, q3] [(2, s0)] ds m Q = ((dk ds s0 = 7 ∧ WP 134 58 [q0, q1, q2, q3] [(2, m s0 7)] ds m Q)) := P_gd k134_55 rfl
set_option maxRecDepth 20000 in
theorem k134_58 : mjCode 134 58 = some (.aload_n 0, 1, 0, 0) := by decide +kernel
theorem p134_58 {l0 s0 : Int} {q1 q2 q3 : MV} {ds : Ds} {m : Mm} {Q : Ds → Mm → List MV → Prop} : WP 134 58 [(2, l0), q1, q2, q3] [(2, s0)] ds m Q = (WP 134 59 [(2, l0), q1, q2, q3] [(2, l0), (2, s0)] ds m Q) := P_nx k134_58 rfl
set_option maxRecDepth 20000 in
theorem k134_59 : mjCode 134 59 = some (.getfield 173, 3, 7, 6) := by decide +kernel
theorem p134_59 {s0 s1 : Int} {q0 q1 q2 q3 : MV} {ds : Ds} {m : Mm} {Q : Ds → Mm → List MV → Prop} : WP 134 59 [q0, q1, q2, q3] [(2, s0), (2, s1)] ds m Q = ((dk ds s0 = 7 ∧ WP 134 62 [q0, q1, q2, q3] [(0, m s0 6), (2, s1)] ds m Q)) := P_gd k134_59 rfl
set_option maxRecDepth 20000 in
theorem k134_62 : mjCode 134 62 = some (.iload_n 1, 1, 0, 0) := by decide +kernel
theorem p134_62 {l1 s0 s1 : Int} {q0 q2 q3 : MV} {ds : Ds} {m : Mm} {Q : Ds → Mm → List MV → Prop} : WP 134 62 [q0, (0, l1), q2, q3] [(0, s0), (2, s1)] ds m Q = (WP 134 63 [q0, (0, l1), q2, q3] [(0, l1), (0, s0), (2, s1)] ds m Q) := P_nx k134_62 rfl
set_option maxRecDepth 20000 in
theorem k134_63 : mjCode 134 63 = some (.iastore, 1, 0, 0) := by decide +kernel
theorem p134_63 {s0 s1 s2 : Int} {q0 q1 q2 q3 : MV} {ds : Ds} {m : Mm} {Q : Ds → Mm → List MV → Prop} : WP 134 63 [q0, q1, q2, q3] [(0, s0), (0, s1), (2, s2)] ds m Q = ((dk ds s2 = 10 ∧ 0 ≤ s1 ∧ s1 < dl ds s2 ∧ WP 134 64 [q0, q1, q2, q3] [] ds (up m s2 s1 s0) Q)) := P_s3 k134_63 rfl
set_option maxRecDepth 20000 in
theorem k134_64 : mjCode 134 64 = some (.aload_n 0, 1, 0, 0) := by decide +kernel
theorem p134_64 {l0 : Int} {q1 q2 q3 : MV} {ds : Ds} {m : Mm} {Q : Ds → Mm → List MV → Prop} : WP 134 64 [(2, l0), q1, q2, q3] [] ds m Q = (WP 134 65 [(2, l0), q1, q2, q3] [(2, l0)] ds m Q) := P_nx k134_64 rfl
set_option maxRecDepth 20000 in
theorem k134_65 : mjCode 134 65 = some (.getfield 32, 3, 7, 8) := by decide +kernel
theorem p134_65 {s0 : Int} {q0 q1 q2 q3 : MV} {ds : Ds} {m : Mm} {Q : Ds → Mm → List MV → Prop} : WP 134 65 [q0, q1, q2, q3] [(2, s0)] ds m Q = ((dk ds s0 = 7 ∧ WP 134 68 [q0, q1, q2, q3] [(2, m s0 8)] ds m Q)) := P_gd k134_65 rfl
set_option maxRecDepth 20000 in
theorem k134_68 : mjCode 134 68 = some (.aload_n 0, 1, 0, 0) := by decide +kernel
theorem p134_68 {l0 s0 : Int} {q1 q2 q3 : MV} {ds : Ds} {m : Mm} {Q : Ds → Mm → List MV → Prop} : WP 134 68 [(2, l0), q1, q2, q3] [(2, s0)] ds m Q = (WP 134 69 [(2, l0), q1, q2, q3] [(2, l0), (2, s0)] ds m Q) := P_nx k134_68 rfl
set_option maxRecDepth 20000 in
theorem k134_69 : mjCode 134 69 = some (.getfield 173, 3, 7, 6) := by decide +kernel
theorem p134_69 {s0 s1 : Int} {q0 q1 q2 q3 : MV} {ds : Ds} {m : Mm} {Q : Ds → Mm → List MV → Prop} : WP 134 69 [q0, q1, q2, q3] [(2, s0), (2, s1)] ds m Q = ((dk ds s0 = 7 ∧ WP 134 72 [q0, q1, q2, q3] [(0, m s0 6), (2, s1)] ds m Q)) := P_gd k134_69 rfl
set_option maxRecDepth 20000 in
theorem k134_72 : mjCode 134 72 = some (.iload_n 2, 1, 0, 0) := by decide +kernel
theorem p134_72 {l2 s0 s1 : Int} {q0 q1 q3 : MV} {ds : Ds} {m : Mm} {Q : Ds → Mm → List MV → Prop} : WP 134 72 [q0, q1, (0, l2), q3] [(0, s0), (2, s1)] ds m Q = (WP 134 73 [q0, q1, (0, l2), q3] [(0, l2), (0, s0), (2, s1)] ds m Q) := P_nx k134_72 rfl
set_option maxRecDepth 20000 in
theorem k134_73 : mjCode 134 73 = some (.iastore, 1, 0, 0) := by decide +kernel
theorem p134_73 {s0 s1 s2 : Int} {q0 q1 q2 q3 : MV} {ds : Ds} {m : Mm} {Q : Ds → Mm → List MV → Prop} : WP 134 73 [q0, q1, q2, q3] [(0, s0), (0, s1), (2, s2)] ds m Q = ((dk ds s2 = 10 ∧ 0 ≤ s1 ∧ s1 < dl ds s2 ∧ WP 134 74 [q0, q1, q2, q3] [] ds (up m s2 s1 s0) Q)) := P_s3 k134_73 rfl
set_option maxRecDepth 20000 in
theorem k134_74 : mjCode 134 74 = some (.aload_n 0, 1, 0, 0) := by decide +kernel
theorem p134_74 {l0 : Int} {q1 q2 q3 : MV} {ds : Ds} {m : Mm} {Q : Ds → Mm → List MV → Prop} : WP 134 74 [(2, l0), q1, q2, q3] [] ds m Q = (WP 134 75 [(2, l0), q1, q2, q3] [(2, l0)] ds m Q) := P_nx k134_74 rfl
set_option maxRecDepth 20000 in
theorem k134_75 : mjCode 134 75 = some (.getfield 35, 3, 7, 9) := by decide +kernel
theorem p134_75 {s0 : Int} {q0 q1 q2 q3 : MV} {ds : Ds} {m : Mm} {Q : Ds → Mm → List MV → Prop} : WP 134 75 [q0, q1, q2, q3] [(2, s0)] ds m Q = ((dk ds s0 = 7 ∧ WP 134 78 [q0, q1, q2, q3] [(2, m s0 9)] ds m Q)) := P_gd k134_75 rfl
set_option maxRecDepth 20000 in
theorem k134_78 : mjCode 134 78 = some (.aload_n 0, 1, 0, 0) := by decide +kernel
theorem p134_78 {l0 s0 : Int} {q1 q2 q3 : MV} {ds : Ds} {m : Mm} {Q : Ds → Mm → List MV → Prop} : WP 134 78 [(2, l0), q1, q2, q3] [(2, s0)] ds m Q = (WP 134 79 [(2, l0), q1, q2, q3] [(2, l0), (2, s0)] ds m Q) := P_nx k134_78 rfl
set_option maxRecDepth 20000 in
theorem k134_79 : mjCode 134 79 = some (.getfield 173, 3, 7, 6) := by decide +kernel
theorem p134_79 {s0 s1 : Int} {q0 q1 q2 q3 : MV} {ds : Ds} {m : Mm} {Q : Ds → Mm → List MV → Prop} : WP 134 79 [q0, q1, q2, q3] [(2, s0), (2, s1)] ds m Q = ((dk ds s0 = 7 ∧ WP 134 82 [q0, q1, q2, q3] [(0, m s0 6), (2, s1)] ds m Q)) := P_gd k134_79 rfl
set_option maxRecDepth 20000 in
theorem k134_82 : mjCode 134 82 = some (.iload_n 3, 1, 0, 0) := by decide +kernel
theorem p134_82 {l3 s0 s1 : Int} {q0 q1 q2 : MV} {ds : Ds} {m : Mm} {Q : Ds → Mm → List MV → Prop} : WP 134 82 [q0, q1, q2, (0, l3)] [(0, s0), (2, s1)] ds m Q = (WP 134 83 [q0, q1, q2, (0, l3)] [(0, l3), (0, s0), (2, s1)] ds m Q) := P_nx k134_82 rfl
set_option maxRecDepth 20000 in
theorem k134_83 : mjCode 134 83 = some (.iastore, 1, 0, 0) := by decide +kernel
theorem p134_83 {s0 s1 s2 : Int} {q0 q1 q2 q3 : MV} {ds : Ds} {m : Mm} {Q : Ds → Mm → List MV → Prop} : WP 134 83 [q0, q1, q2, q3] [(0, s0), (0, s1), (2, s2)] ds m Q = ((dk ds s2 = 10 ∧ 0 ≤ s1 ∧ s1 < dl ds s2 ∧ WP 134 84 [q0, q1, q2, q3] [] ds (up m s2 s1 s0) Q)) := P_s3 k134_83 rfl
set_option maxRecDepth 20000 in
theorem k134_84 : mjCode 134 84 = some (.aload_n 0, 1, 0, 0) := by decide +kernel
theorem p134_84 {l0 : Int} {q1 q2 q3 : MV} {ds : Ds} {m : Mm} {Q : Ds → Mm → List MV → Prop} : WP 134 84 [(2, l0), q1, q2, q3] [] ds m Q = (WP 134 85 [(2, l0), q1, q2, q3] [(2, l0)] ds m Q) := P_nx k134_84 rfl
set_option maxRecDepth 20000 in
theorem k134_85 : mjCode 134 85 = some (.dup, 1, 0, 0) := by decide +kernel
theorem p134_85 {s0 : Int} {q0 q1 q2 q3 : MV} {ds : Ds} {m : Mm} {Q : Ds → Mm → List MV → Prop} : WP 134 85 [q0, q1, q2, q3] [(2, s0)] ds m Q = (WP 134 86 [q0, q1, q2, q3] [(2, s0), (2, s0)] ds m Q) := P_nx k134_85 rfl
set_option maxRecDepth 20000 in
theorem k134_86 : mjCode 134 86 = some (.getfield 173, 3, 7, 6) := by decide +kernel
theorem p134_86 {s0 s1 : Int} {q0 q1 q2 q3 : MV} {ds : Ds} {m : Mm} {Q : Ds → Mm → List MV → Prop} : WP 134 86 [q0, q1, q2, q3] [(2, s0), (2, s1)] ds m Q = ((dk ds s0 = 7 ∧ WP 134 89 [q0, q1, q2, q3] [(0, m s0 6), (2, s1)] ds m Q)) := P_gd k134_86 rfl
set_option maxRecDepth 20000 in
theorem k134_89 : mjCode 134 89 = some (.iconst 1, 1, 0, 0) := by decide +kernel
theorem p134_89 {s0 s1 : Int} {q0 q1 q2 q3 : MV} {ds : Ds} {m : Mm} {Q : Ds → Mm → List MV → Prop} : WP 134 89 [q0, q1, q2, q3] [(0, s0), (2, s1)] ds m Q = (WP 134 90 [q0, q1, q2, q3] [(0, 1), (0, s0), (2, s1)] ds m Q) := P_nx k134_89 rfl
set_option maxRecDepth 20000 in
theorem k134_90 : mjCode 134 90 = some (.iadd, 1, 0, 0) := by decide +kernel
theorem p134_90 {s0 s1 s2 : Int} {q0 q1 q2 q3 : MV} {ds : Ds} {m : Mm} {Q : Ds → Mm → List MV → Prop} : WP 134 90 [q0, q1, q2, q3] [(0, s0), (0, s1), (2, s2)] ds m Q = (WP 134 91 [q0, q1, q2, q3] [(0, w32 (s1 + s0)), (2, s2)] ds m Q) := P_nx k134_90 rfl
set_option maxRecDepth 20000 in
theorem k134_91 : mjCode 134 91 = some (.putfield 173, 3, 7, 6) := by decide +kernel
theorem p134_91 {s0 s1 : Int} {q0 q1 q2 q3 : MV} {ds : Ds} {m : Mm} {Q : Ds → Mm → List MV → Prop} : WP 134 91 [q0, q1, q2, q3] [(0, s0), (2, s1)] ds m Q = ((dk ds s1 = 7 ∧ WP 134 94 [q0, q1, q2, q3] [] ds (up m s1 6 s0) Q)) := P_pf k134_91 rfl
set_option maxRecDepth 20000 in
theorem k134_94 : mjCode 134 94 = some (.aload_n 0, 1, 0, 0) := by decide +kernel
theorem p134_94 {l0 : Int} {q1 q2 q3 : MV} {ds : Ds} {m : Mm} {Q : Ds → Mm → List MV → Prop} : WP 134 94 [(2, l0), q1, q2, q3] [] ds m Q = (WP 134 95 [(2, l0), q1, q2, q3] [(2, l0)] ds m Q) := P_nx k134_94 rfl
set_option maxRecDepth 20000 in
theorem k134_95 : mjCode 134 95 = some (.getfield 173, 3, 7, 6) := by decide +kernel
theorem p134_95 {s0 : Int} {q0 q1 q2 q3 : MV} {ds : Ds} {m : Mm} {Q : Ds → Mm → List MV → Prop} : WP 134 95 [q0, q1, q2, q3] [(2, s0)] ds m Q = ((dk ds s0 = 7 ∧ WP 134 98 [q0, q1, q2, q3] [(0, m s0 6)] ds m Q)) := P_gd k134_95 rfl
set_option maxRecDepth 20000 in
theorem k134_98 : mjCode 134 98 = some (.ireturn, 1, 0, 0) := by decide +kernel
theorem p134_98 {s0 : Int} {q0 q1 q2 q3 : MV} {ds : Ds} {m : Mm} {Q : Ds → Mm → List MV → Prop} : WP 134 98 [q0, q1, q2, q3] [(0, s0)] ds m Q = (Q ds m [(0, s0)]) := P_ri k134_98 rk134
set_option maxRecDepth 20000 in
theorem k135_0 : mjCode 135 0 = some (.aload_n 0, 1, 0, 0) := by decide +kernel
theorem p135_0 {l0 : Int} {q1 : MV} {ds : Ds} {m : Mm} {Q : Ds → Mm → List MV → Prop} : WP 135 0 [(2, l0), q1] [] ds m Q = (WP 135 1 [(2, l0), q1] [(2, l0)] ds m Q) := P_nx k135_0 rfl
set_option maxRecDepth 20000 in
theorem k135_1 : mjCode 135 1 = some (.getfield 173, 3, 7, 6) := by decide +kernel
theorem p135_1 {s0 : Int} {q0 q1 : MV} {ds : Ds} {m : Mm} {Q : Ds → Mm → List MV → Prop} : WP 135 1 [q0, q1] [(2, s0)] ds m Q = ((dk ds s0 = 7 ∧ WP 135 4 [q0, q1] [(0, m s0 6)] ds m Q)) := P_gd k135_1 rfl
set_option maxRecDepth 20000 in
theorem k135_4 : mjCode 135 4 = some (.istore_n 1, 1, 0, 0) := by decide +kernel
theorem p135_4 {l0 s0 : Int} {q1 : MV} {ds : Ds} {m : Mm} {Q : Ds → Mm → List MV → Prop} : WP 135 4 [(2, l0), q1] [(0, s0)] ds m Q = (WP 135 5 [(2, l0), (0, s0)] [] ds m Q) := P_nx k135_4 rfl
set_option maxRecDepth 20000 in
theorem k135_5 : mjCode 135 5 = some (.aload_n 0, 1, 0, 0) := by decide +kernel
theorem p135_5 {l0 : Int} {q1 : MV} {ds : Ds} {m : Mm} {Q : Ds → Mm → List MV → Prop} : WP 135 5 [(2, l0), q1] [] ds m Q = (WP 135 6 [(2, l0), q1] [(2, l0)] ds m Q) := P_nx k135_5 rfl
set_option maxRecDepth 20000 in
theorem k135_6 : mjCode 135 6 = some (.iconst 0, 1, 0, 0) := by decide +kernel
theorem p135_6 {s0 : Int} {q0 q1 : MV} {ds : Ds} {m : Mm} {Q : Ds → Mm → List MV → Prop} : WP 135 6 [q0, q1] [(2, s0)] ds m Q = (WP 135 7 [q0, q1] [(0, 0), (2, s0)] ds m Q) := P_nx k135_6 rfl
set_option maxRecDepth 20000 in
theorem k135_7 : mjCode 135 7 = some (.putfield 173, 3, 7, 6) := by decide +kernel
theorem p135_7 {s0 s1 : Int} {q0 q1 : MV} {ds : Ds} {m : Mm} {Q : Ds → Mm → List MV → Prop} : WP 135 7 [q0, q1] [(0, s0), (2, s1)] ds m Q = ((dk ds s1 = 7 ∧ WP 135 10 [q0, q1] [] ds (up m s1 6 s0) Q)) := P_pf k135_7 rfl
set_option maxRecDepth 20000 in
theorem k135_10 : mjCode 135 10 = some (.iload_n 1, 1, 0, 0) := by decide +kernel
theorem p135_10 {l1 : Int} {q0 : MV} {ds : Ds} {m : Mm} {Q : Ds → Mm → List MV → Prop} : WP 135 10 [q0, (0, l1)] [] ds m Q = (WP 135 11 [q0, (0, l1)] [(0, l1)] ds m Q) := P_nx k135_10 rfl
set_option maxRecDepth 20000 in
theorem k135_11 : mjCode 135 11 = some (.ireturn, 1, 0, 0) := by decide +kernel
theorem p135_11 {s0 : Int} {q0 q1 : MV} {ds : Ds} {m : Mm} {Q : Ds → Mm → List MV → Prop} : WP 135 11 [q0, q1] [(0, s0)] ds m Q = (Q ds m [(0, s0)]) := P_ri k135_11 rk135
set_option maxRecDepth 20000 in
theorem k136_0 : mjCode 136 0 = some (.iconst 0, 1, 0, 0) := by decide +kernel
theorem p136_0 {q0 q1 q2 q3 : MV} {ds : Ds} {m : Mm} {Q : Ds → Mm → List MV → Prop} : WP 136 0 [q0, q1, q2, q3] [] ds m Q = (WP 136 1 [q0, q1, q2, q3] [(0, 0)] ds m Q) := P_nx k136_0 rfl
set_option maxRecDepth 20000 in
theorem k136_1 : mjCode 136 1 = some (.istore_n 2, 1, 0, 0) := by decide +kernel
theorem p136_1 {l1 s0 : Int} {q0 q2 q3 : MV} {ds : Ds} {m : Mm} {Q : Ds → Mm → List MV → Prop} : WP 136 1 [q0, (0, l1), q2, q3] [(0, s0)] ds m Q = (WP 136 2 [q0, (0, l1), (0, s0), q3] [] ds m Q) := P_nx k136_1 rfl
set_option maxRecDepth 20000 in
theorem k136_2 : mjCode 136 2 = some (.iconst 0, 1, 0, 0) := by decide +kernel
theorem p136_2 {q0 q1 q2 q3 : MV} {ds : Ds} {m : Mm} {Q : Ds → Mm → List MV → Prop} : WP 136 2 [q0, q1, q2, q3] [] ds m Q = (WP 136 3 [q0, q1, q2, q3] [(0, 0)] ds m Q) := P_nx k136_2 rfl
set_option maxRecDepth 20000 in
theorem k136_3 : mjCode 136 3 = some (.istore_n 3, 1, 0, 0) := by decide +kernel
theorem p136_3 {l2 s0 : Int} {q0 q1 q3 : MV} {ds : Ds} {m : Mm} {Q : Ds → Mm → List MV → Prop} : WP 136 3 [q0, q1, (0, l2), q3] [(0, s0)] ds m Q = (WP 136 4 [q0, q1, (0, l2), (0, s0)] [] ds m Q) := P_nx k136_3 rfl
set_option maxRecDepth 20000 in
theorem k136_4 : mjCode 136 4 = some (.iload_n 3, 1, 0, 0) := by decide +kernel
theorem p136_4 {l3 : Int} {q0 q1 q2 : MV} {ds : Ds} {m : Mm} {Q : Ds → Mm → List MV → Prop} : WP 136 4 [q0, q1, q2, (0, l3)] [] ds m Q = (WP 136 5 [q0, q1, q2, (0, l3)] [(0, l3)] ds m Q) := P_nx k136_4 rfl
set_option maxRecDepth 20000 in
theorem k136_5 : mjCode 136 5 = some (.bipush 96, 2, 0, 0) := by decide +kernel
theorem p136_5 {s0 : Int} {q0 q1 q2 q3 : MV} {ds : Ds} {m : Mm} {Q : Ds → Mm → List MV → Prop} : WP 136 5 [q0, q1, q2, q3] [(0, s0)] ds m Q = (WP 136 7 [q0, q1, q2, q3] [(0, 96), (0, s0)] ds m Q) := P_nx k136_5 rfl
set_option maxRecDepth 20000 in
theorem k136_7 : mjCode 136 7 = some (.if_icmp .ge 48, 3, 55, 0) := by decide +kernel
theorem p136_7 {s0 s1 : Int} {q0 q1 q2 q3 : MV} {ds : Ds} {m : Mm} {Q : Ds → Mm → List MV → Prop} : WP 136 7 [q0, q1, q2, q3] [(0, s0), (0, s1)] ds m Q = (if s1 < s0 then WP 136 10 [q0, q1, q2, q3] [] ds m Q else WP 136 55 [q0, q1, q2, q3] [] ds m Q) := P_if k136_7 rfl
set_option maxRecDepth 20000 in
theorem k136_10 : mjCode 136 10 = some (.iload_n 2, 1, 0, 0) := by decide +kernel
theorem p136_10 {l2 : Int} {q0 q1 q3 : MV} {ds : Ds} {m : Mm} {Q : Ds → Mm → List MV → Prop} : WP 136 10 [q0, q1, (0, l2), q3] [] ds m Q = (WP 136 11 [q0, q1, (0, l2), q3] [(0, l2)] ds m Q) := P_nx k136_10 rfl
set_option maxRecDepth 20000 in
theorem k136_11 : mjCode 136 11 = some (.iload_n 1, 1, 0, 0) := by decide +kernel
theorem p136_11 {l1 s0 : Int} {q0 q2 q3 : MV} {ds : Ds} {m : Mm} {Q : Ds → Mm → List MV → Prop} : WP 136 11 [q0, (0, l1), q2, q3] [(0, s0)] ds m Q = (WP 136 12 [q0, (0, l1), q2, q3] [(0, l1), (0, s0)] ds m Q) := P_nx k136_11 rfl
set_option maxRecDepth 20000 in
theorem k136_12 : mjCode 136 12 = some (.ifCond .ne 20, 3, 32, 0) := by decide +kernel
theorem p136_12 {s0 s1 : Int} {q0 q1 q2 q3 : MV} {ds : Ds} {m : Mm} {Q : Ds → Mm → List MV → Prop} : WP 136 12 [q0, q1, q2, q3] [(0, s0), (0, s1)] ds m Q = (if s0 = 0 then WP 136 15 [q0, q1, q2, q3] [(0, s1)] ds m Q else WP 136 32 [q0, q1, q2, q3] [(0, s1)] ds m Q) := P_if k136_12 rfl
set_option maxRecDepth 20000 in
theorem k136_15 : mjCode 136 15 = some (.aload_n 0, 1, 0, 0) := by decide +kernel
theorem p136_15 {l0 s0 : Int} {q1 q2 q3 : MV} {ds : Ds} {m : Mm} {Q : Ds → Mm → List MV → Prop} : WP 136 15 [(2, l0), q1, q2, q3] [(0, s0)] ds m Q = (WP 136 16 [(2, l0), q1, q2, q3] [(2, l0), (0, s0)] ds m Q) := P_nx k136_15 rfl
set_option maxRecDepth 20000 in
theorem k136_16 : mjCode 136 16 = some (.getfield 13, 3, 7, 1) := by decide +kernel
theorem p136_16 {s0 s1 : Int} {q0 q1 q2 q3 : MV} {ds : Ds} {m : Mm} {Q : Ds → Mm → List MV → Prop} : WP 136 16 [q0, q1, q2, q3] [(2, s0), (0, s1)] ds m Q = ((dk ds s0 = 7 ∧ WP 136 19 [q0, q1, q2, q3] [(2, m s0 1), (0, s1)] ds m Q)) := P_gd k136_16 rfl
set_option maxRecDepth 20000 in
theorem k136_19 : mjCode 136 19 = some (.iload_n 3, 1, 0, 0) := by decide +kernel
theorem p136_19 {l3 s0 s1 : Int} {q0 q1 q2 : MV} {ds : Ds} {m : Mm} {Q : Ds → Mm → List MV → Prop} : WP 136 19 [q0, q1, q2, (0, l3)] [(2, s0), (0, s1)] ds m Q = (WP 136 20 [q0, q1, q2, (0, l3)] [(0, l3), (2, s0), (0, s1)] ds m Q) := P_nx k136_19 rfl
set_option maxRecDepth 20000 in
theorem k136_20 : mjCode 136 20 = some (.iaload, 1, 0, 0) := by decide +kernel
theorem p136_20 {s0 s1 s2 : Int} {q0 q1 q2 q3 : MV} {ds : Ds} {m : Mm} {Q : Ds → Mm → List MV → Prop} : WP 136 20 [q0, q1, q2, q3] [(0, s0), (2, s1), (0, s2)] ds m Q = ((dk ds s1 = 10 ∧ 0 ≤ s0 ∧ s0 < dl ds s1 ∧ WP 136 21 [q0, q1, q2, q3] [(0, m s1 s0), (0, s2)] ds m Q)) := P_g3 k136_20 rfl
set_option maxRecDepth 20000 in
theorem k136_21 : mjCode 136 21 = some (.ifCond .eq 7, 3, 28, 0) := by decide +kernel
theorem p136_21 {s0 s1 : Int} {q0 q1 q2 q3 : MV} {ds : Ds} {m : Mm} {Q : Ds → Mm → List MV → Prop} : WP 136 21 [q0, q1, q2, q3] [(0, s0), (0, s1)] ds m Q = (if s0 = 0 then WP 136 28 [q0, q1, q2, q3] [(0, s1)] ds m Q else WP 136 24 [q0, q1, q2, q3] [(0, s1)] ds m Q) := P_if k136_21 rfl
set_option maxRecDepth 20000 in
theorem k136_24 : mjCode 136 24 = some (.iconst 1, 1, 0, 0) := by decide +kernel
theorem p136_24 {s0 : Int} {q0 q1 q2 q3 : MV} {ds : Ds} {m : Mm} {Q : Ds → Mm → List MV → Prop} : WP 136 24 [q0, q1, q2, q3] [(0, s0)] ds m Q = (WP 136 25 [q0, q1, q2, q3] [(0, 1), (0, s0)] ds m Q) := P_nx k136_24 rfl
set_option maxRecDepth 20000 in
theorem k136_25 : mjCode 136 25 = some (.goto 22, 3, 47, 0) := by decide +kernel
theorem p136_25 {s0 s1 : Int} {q0 q1 q2 q3 : MV} {ds : Ds} {m : Mm} {Q : Ds → Mm → List MV → Prop} : WP 136 25 [q0, q1, q2, q3] [(0, s0), (0, s1)] ds m Q = (WP 136 47 [q0, q1, q2, q3] [(0, s0), (0, s1)] ds m Q) := P_nx k136_25 rfl
set_option maxRecDepth 20000 in
theorem k136_28 : mjCode 136 28 = some (.iconst 0, 1, 0, 0) := by decide +kernel
theorem p136_28 {s0 : Int} {q0 q1 q2 q3 : MV} {ds : Ds} {m : Mm} {Q : Ds → Mm → List MV → Prop} : WP 136 28 [q0, q1, q2, q3] [(0, s0)] ds m Q = (WP 136 29 [q0, q1, q2, q3] [(0, 0), (0, s0)] ds m Q) := P_nx k136_28 rfl
set_option maxRecDepth 20000 in
theorem k136_29 : mjCode 136 29 = some (.goto 18, 3, 47, 0) := by decide +kernel
theorem p136_29 {s0 s1 : Int} {q0 q1 q2 q3 : MV} {ds : Ds} {m : Mm} {Q : Ds → Mm → List MV → Prop} : WP 136 29 [q0, q1, q2, q3] [(0, s0), (0, s1)] ds m Q = (WP 136 47 [q0, q1, q2, q3] [(0, s0), (0, s1)] ds m Q) := P_nx k136_29 rfl
set_option maxRecDepth 20000 in
theorem k136_32 : mjCode 136 32 = some (.aload_n 0, 1, 0, 0) := by decide +kernel
theorem p136_32 {l0 s0 : Int} {q1 q2 q3 : MV} {ds : Ds} {m : Mm} {Q : Ds → Mm → List MV → Prop} : WP 136 32 [(2, l0), q1, q2, q3] [(0, s0)] ds m Q = (WP 136 33 [(2, l0), q1, q2, q3] [(2, l0), (0, s0)] ds m Q) := P_nx k136_32 rfl
set_option maxRecDepth 20000 in
theorem k136_33 : mjCode 136 33 = some (.getfield 13, 3, 7, 1) := by decide +kernel
theorem p136_33 {s0 s1 : Int} {q0 q1 q2 q3 : MV} {ds : Ds} {m : Mm} {Q : Ds → Mm → List MV → Prop} : WP 136 33 [q0, q1, q2, q3] [(2, s0), (0, s1)] ds m Q = ((dk ds s0 = 7 ∧ WP 136 36 [q0, q1, q2, q3] [(2, m s0 1), (0, s1)] ds m Q)) := P_gd k136_33 rfl
set_option maxRecDepth 20000 in
theorem k136_36 : mjCode 136 36 = some (.iload_n 3, 1, 0, 0) := by decide +kernel
theorem p136_36 {l3 s0 s1 : Int} {q0 q1 q2 : MV} {ds : Ds} {m : Mm} {Q : Ds → Mm → List MV → Prop} : WP 136 36 [q0, q1, q2, (0, l3)] [(2, s0), (0, s1)] ds m Q = (WP 136 37 [q0, q1, q2, (0, l3)] [(0, l3), (2, s0), (0, s1)] ds m Q) := P_nx k136_36 rfl
set_option maxRecDepth 20000 in
theorem k136_37 : mjCode 136 37 = some (.iaload, 1, 0, 0) := by decide +kernel
theorem p136_37 {s0 s1 s2 : Int} {q0 q1 q2 q3 : MV} {ds : Ds} {m : Mm} {Q : Ds → Mm → List MV → Prop} : WP 136 37 [q0, q1, q2, q3] [(0, s0), (2, s1), (0, s2)] ds m Q = ((dk ds s1 = 10 ∧ 0 ≤ s0 ∧ s0 < dl ds s1 ∧ WP 136 38 [q0, q1, q2, q3] [(0, m s1 s0), (0, s2)] ds m Q)) := P_g3 k136_37 rfl
set_option maxRecDepth 20000 in
theorem k136_38 : mjCode 136 38 = some (.iload_n 1, 1, 0, 0) := by decide +kernel
theorem p136_38 {l1 s0 s1 : Int} {q0 q2 q3 : MV} {ds : Ds} {m : Mm} {Q : Ds → Mm → List MV → Prop} : WP 136 38 [q0, (0, l1), q2, q3] [(0, s0), (0, s1)] ds m Q = (WP 136 39 [q0, (0, l1), q2, q3] [(0, l1), (0, s0), (0, s1)] ds m Q) := P_nx k136_38 rfl
set_option maxRecDepth 20000 in
theorem k136_39 : mjCode 136 39 = some (.if_icmp .ne 7, 3, 46, 0) := by decide +kernel
theorem p136_39 {s0 s1 s2 : Int} {q0 q1 q2 q3 : MV} {ds : Ds} {m : Mm} {Q : Ds → Mm → List MV → Prop} : WP 136 39 [q0, q1, q2, q3] [(0, s0), (0, s1), (0, s2)] ds m Q = (if s1 = s0 then WP 136 42 [q0, q1, q2, q3] [(0, s2)] ds m Q else WP 136 46 [q0, q1, q2, q3] [(0, s2)] ds m Q) := P_if k136_39 rfl
set_option maxRecDepth 20000 in
theorem k136_42 : mjCode 136 42 = some (.iconst 1, 1, 0, 0) := by decide +kernel
theorem p136_42 {s0 : Int} {q0 q1 q2 q3 : MV} {ds : Ds} {m : Mm} {Q : Ds → Mm → List MV → Prop} : WP 136 42 [q0, q1, q2, q3] [(0, s0)] ds m Q = (WP 136 43 [q0, q1, q2, q3] [(0, 1), (0, s0)] ds m Q) := P_nx k136_42 rfl
set_option maxRecDepth 20000 in
theorem k136_43 : mjCode 136 43 = some (.goto 4, 3, 47, 0) := by decide +kernel
theorem p136_43 {s0 s1 : Int} {q0 q1 q2 q3 : MV} {ds : Ds} {m : Mm} {Q : Ds → Mm → List MV → Prop} : WP 136 43 [q0, q1, q2, q3] [(0, s0), (0, s1)] ds m Q = (WP 136 47 [q0, q1, q2, q3] [(0, s0), (0, s1)] ds m Q) := P_nx k136_43 rfl
set_option maxRecDepth 20000 in
theorem k136_46 : mjCode 136 46 = some (.iconst 0, 1, 0, 0) := by decide +kernel
theorem p136_46 {s0 : Int} {q0 q1 q2 q3 : MV} {ds : Ds} {m : Mm} {Q : Ds → Mm → List MV → Prop} : WP 136 46 [q0, q1, q2, q3] [(0, s0)] ds m Q = (WP 136 47 [q0, q1, q2, q3] [(0, 0), (0, s0)] ds m Q) := P_nx k136_46 rfl
set_option maxRecDepth 20000 in
theorem k136_47 : mjCode 136 47 = some (.iadd, 1, 0, 0) := by decide +kernel
theorem p136_47 {s0 s1 : Int} {q0 q1 q2 q3 : MV} {ds : Ds} {m : Mm} {Q : Ds → Mm → List MV → Prop} : WP 136 47 [q0, q1, q2, q3] [(0, s0), (0, s1)] ds m Q = (WP 136 48 [q0, q1, q2, q3] [(0, w32 (s1 + s0))] ds m Q) := P_nx k136_47 rfl
set_option maxRecDepth 20000 in
theorem k136_48 : mjCode 136 48 = some (.istore_n 2, 1, 0, 0) := by decide +kernel
theorem p136_48 {l1 s0 : Int} {q0 q2 q3 : MV} {ds : Ds} {m : Mm} {Q : Ds → Mm → List MV → Prop} : WP 136 48 [q0, (0, l1), q2, q3] [(0, s0)] ds m Q = (WP 136 49 [q0, (0, l1), (0, s0), q3] [] ds m Q) := P_nx k136_48 rfl
set_option maxRecDepth 20000 in
theorem k136_49 : mjCode 136 49 = some (.iinc 3 1, 3, 0, 0) := by decide +kernel
theorem p136_49 {l3 : Int} {q0 q1 q2 : MV} {ds : Ds} {m : Mm} {Q : Ds → Mm → List MV → Prop} : WP 136 49 [q0, q1, q2, (0, l3)] [] ds m Q = (WP 136 52 [q0, q1, q2, (0, w32 (l3 + 1))] [] ds m Q) := P_nx k136_49 rfl
set_option maxRecDepth 20000 in
theorem k136_52 : mjCode 136 52 = some (.goto (-48), 3, 4, 0) := by decide +kernel
theorem p136_52 {q0 q1 q2 q3 : MV} {ds : Ds} {m : Mm} {Q : Ds → Mm → List MV → Prop} : WP 136 52 [q0, q1, q2, q3] [] ds m Q = (WP 136 4 [q0, q1, q2, q3] [] ds m Q) := P_nx k136_52 rfl
set_option maxRecDepth 20000 in
theorem k136_55 : mjCode 136 55 = some (.iload_n 2, 1, 0, 0) := by decide +kernel
theorem p136_55 {l2 : Int} {q0 q1 q3 : MV} {ds : Ds} {m : Mm} {Q : Ds → Mm → List MV → Prop} : WP 136 55 [q0, q1, (0, l2), q3] [] ds m Q = (WP 136 56 [q0, q1, (0, l2), q3] [(0, l2)] ds m Q) := P_nx k136_55 rfl
set_option maxRecDepth 20000 in
theorem k136_56 : mjCode 136 56 = some (.ireturn, 1, 0, 0) := by decide +kernel
theorem p136_56 {s0 : Int} {q0 q1 q2 q3 : MV} {ds : Ds} {m : Mm} {Q : Ds → Mm → List MV → Prop} : WP 136 56 [q0, q1, q2, q3] [(0, s0)] ds m Q = (Q ds m [(0, s0)]) := P_ri k136_56 rk136
set_option maxRecDepth 20000 in
theorem k137_0 : mjCode 137 0 = some (.iconst 0, 1, 0, 0) := by decide +kernel
theorem p137_0 {q0 q1 q2 : MV} {ds : Ds} {m : Mm} {Q : Ds → Mm → List MV → Prop} : WP 137 0 [q0, q1, q2] [] ds m Q = (WP 137 1 [q0, q1, q2] [(0, 0)] ds m Q) := P_nx k137_0 rfl
set_option maxRecDepth 20000 in
theorem k137_1 : mjCode 137 1 = some (.istore_n 1, 1, 0, 0) := by decide +kernel
theorem p137_1 {l0 s0 : Int} {q1 q2 : MV} {ds : Ds} {m : Mm} {Q : Ds → Mm → List MV → Prop} : WP 137 1 [(2, l0), q1, q2] [(0, s0)] ds m Q = (WP 137 2 [(2, l0), (0, s0), q2] [] ds m Q) := P_nx k137_1 rfl
set_option maxRecDepth 20000 in
theorem k137_2 : mjCode 137 2 = some (.iconst 0, 1, 0, 0) := by decide +kernel
theorem p137_2 {q0 q1 q2 : MV} {ds : Ds} {m : Mm} {Q : Ds → Mm → List MV → Prop} : WP 137 2 [q0, q1, q2] [] ds m Q = (WP 137 3 [q0, q1, q2] [(0, 0)] ds m Q) := P_nx k137_2 rfl
set_option maxRecDepth 20000 in
theorem k137_3 : mjCode 137 3 = some (.istore_n 2, 1, 0, 0) := by decide +kernel
theorem p137_3 {l1 s0 : Int} {q0 q2 : MV} {ds : Ds} {m : Mm} {Q : Ds → Mm → List MV → Prop} : WP 137 3 [q0, (0, l1), q2] [(0, s0)] ds m Q = (WP 137 4 [q0, (0, l1), (0, s0)] [] ds m Q) := P_nx k137_3 rfl
set_option maxRecDepth 20000 in
theorem k137_4 : mjCode 137 4 = some (.iload_n 2, 1, 0, 0) := by decide +kernel
theorem p137_4 {l2 : Int} {q0 q1 : MV} {ds : Ds} {m : Mm} {Q : Ds → Mm → List MV → Prop} : WP 137 4 [q0, q1, (0, l2)] [] ds m Q = (WP 137 5 [q0, q1, (0, l2)] [(0, l2)] ds m Q) := P_nx k137_4 rfl
set_option maxRecDepth 20000 in
theorem k137_5 : mjCode 137 5 = some (.bipush 96, 2, 0, 0) := by decide +kernel
theorem p137_5 {s0 : Int} {q0 q1 q2 : MV} {ds : Ds} {m : Mm} {Q : Ds → Mm → List MV → Prop} : WP 137 5 [q0, q1, q2] [(0, s0)] ds m Q = (WP 137 7 [q0, q1, q2] [(0, 96), (0, s0)] ds m Q) := P_nx k137_5 rfl
set_option maxRecDepth 20000 in
theorem k137_7 : mjCode 137 7 = some (.if_icmp .ge 26, 3, 33, 0) := by decide +kernel
theorem p137_7 {s0 s1 : Int} {q0 q1 q2 : MV} {ds : Ds} {m : Mm} {Q : Ds → Mm → List MV → Prop} : WP 137 7 [q0, q1, q2] [(0, s0), (0, s1)] ds m Q = (if s1 < s0 then WP 137 10 [q0, q1, q2] [] ds m Q else WP 137 33 [q0, q1, q2] [] ds m Q) := P_if k137_7 rfl
set_option maxRecDepth 20000 in
theorem k137_10 : mjCode 137 10 = some (.iload_n 1, 1, 0, 0) := by decide +kernel
theorem p137_10 {l1 : Int} {q0 q2 : MV} {ds : Ds} {m : Mm} {Q : Ds → Mm → List MV → Prop} : WP 137 10 [q0, (0, l1), q2] [] ds m Q = (WP 137 11 [q0, (0, l1), q2] [(0, l1)] ds m Q) := P_nx k137_10 rfl
set_option maxRecDepth 20000 in
theorem k137_11 : mjCode 137 11 = some (.aload_n 0, 1, 0, 0) := by decide +kernel
theorem p137_11 {l0 s0 : Int} {q1 q2 : MV} {ds : Ds} {m : Mm} {Q : Ds → Mm → List MV → Prop} : WP 137 11 [(2, l0), q1, q2] [(0, s0)] ds m Q = (WP 137 12 [(2, l0), q1, q2] [(2, l0), (0, s0)] ds m Q) := P_nx k137_11 rfl
set_option maxRecDepth 20000 in
theorem k137_12 : mjCode 137 12 = some (.getfield 25, 3, 7, 5) := by decide +kernel
theorem p137_12 {s0 s1 : Int} {q0 q1 q2 : MV} {ds : Ds} {m : Mm} {Q : Ds → Mm → List MV → Prop} : WP 137 12 [q0, q1, q2] [(2, s0), (0, s1)] ds m Q = ((dk ds s0 = 7 ∧ WP 137 15 [q0, q1, q2] [(2, m s0 5), (0, s1)] ds m Q)) := P_gd k137_12 rfl
set_option maxRecDepth 20000 in
theorem k137_15 : mjCode 137 15 = some (.iload_n 2, 1, 0, 0) := by decide +kernel
theorem p137_15 {l2 s0 s1 : Int} {q0 q1 : MV} {ds : Ds} {m : Mm} {Q : Ds → Mm → List MV → Prop} : WP 137 15 [q0, q1, (0, l2)] [(2, s0), (0, s1)] ds m Q = (WP 137 16 [q0, q1, (0, l2)] [(0, l2), (2, s0), (0, s1)] ds m Q) := P_nx k137_15 rfl
set_option maxRecDepth 20000 in
theorem k137_16 : mjCode 137 16 = some (.baload, 1, 0, 0) := by decide +kernel
theorem p137_16 {s0 s1 s2 : Int} {q0 q1 q2 : MV} {ds : Ds} {m : Mm} {Q : Ds → Mm → List MV → Prop} : WP 137 16 [q0, q1, q2] [(0, s0), (2, s1), (0, s2)] ds m Q = ((dk ds s1 = 11 ∧ 0 ≤ s0 ∧ s0 < dl ds s1 ∧ WP 137 17 [q0, q1, q2] [(0, m s1 s0), (0, s2)] ds m Q)) := P_g3 k137_16 rfl
set_option maxRecDepth 20000 in
theorem k137_17 : mjCode 137 17 = some (.ifCond .eq 7, 3, 24, 0) := by decide +kernel
theorem p137_17 {s0 s1 : Int} {q0 q1 q2 : MV} {ds : Ds} {m : Mm} {Q : Ds → Mm → List MV → Prop} : WP 137 17 [q0, q1, q2] [(0, s0), (0, s1)] ds m Q = (if s0 = 0 then WP 137 24 [q0, q1, q2] [(0, s1)] ds m Q else WP 137 20 [q0, q1, q2] [(0, s1)] ds m Q) := P_if k137_17 rfl
set_option maxRecDepth 20000 in
theorem k137_20 : mjCode 137 20 = some (.iconst 1, 1, 0, 0) := by decide +kernel
theorem p137_20 {s0 : Int} {q0 q1 q2 : MV} {ds : Ds} {m : Mm} {Q : Ds → Mm → List MV → Prop} : WP 137 20 [q0, q1, q2] [(0, s0)] ds m Q = (WP 137 21 [q0, q1, q2] [(0, 1), (0, s0)] ds m Q) := P_nx k137_20 rfl
set_option maxRecDepth 20000 in
theorem k137_21 : mjCode 137 21 = some (.goto 4, 3, 25, 0) := by decide +kernel
theorem p137_21 {s0 s1 : Int} {q0 q1 q2 : MV} {ds : Ds} {m : Mm} {Q : Ds → Mm → List MV → Prop} : WP 137 21 [q0, q1, q2] [(0, s0), (0, s1)] ds m Q = (WP 137 25 [q0, q1, q2] [(0, s0), (0, s1)] ds m Q) := P_nx k137_21 rfl
set_option maxRecDepth 20000 in
theorem k137_24 : mjCode 137 24 = some (.iconst 0, 1, 0, 0) := by decide +kernel
theorem p137_24 {s0 : Int} {q0 q1 q2 : MV} {ds : Ds} {m : Mm} {Q : Ds → Mm → List MV → Prop} : WP 137 24 [q0, q1, q2] [(0, s0)] ds m Q = (WP 137 25 [q0, q1, q2] [(0, 0), (0, s0)] ds m Q) := P_nx k137_24 rfl
set_option maxRecDepth 20000 in
theorem k137_25 : mjCode 137 25 = some (.iadd, 1, 0, 0) := by decide +kernel
theorem p137_25 {s0 s1 : Int} {q0 q1 q2 : MV} {ds : Ds} {m : Mm} {Q : Ds → Mm → List MV → Prop} : WP 137 25 [q0, q1, q2] [(0, s0), (0, s1)] ds m Q = (WP 137 26 [q0, q1, q2] [(0, w32 (s1 + s0))] ds m Q) := P_nx k137_25 rfl
set_option maxRecDepth 20000 in
theorem k137_26 : mjCode 137 26 = some (.istore_n 1, 1, 0, 0) := by decide +kernel
theorem p137_26 {l0 s0 : Int} {q1 q2 : MV} {ds : Ds} {m : Mm} {Q : Ds → Mm → List MV → Prop} : WP 137 26 [(2, l0), q1, q2] [(0, s0)] ds m Q = (WP 137 27 [(2, l0), (0, s0), q2] [] ds m Q) := P_nx k137_26 rfl
set_option maxRecDepth 20000 in
theorem k137_27 : mjCode 137 27 = some (.iinc 2 1, 3, 0, 0) := by decide +kernel
theorem p137_27 {l2 : Int} {q0 q1 : MV} {ds : Ds} {m : Mm} {Q : Ds → Mm → List MV → Prop} : WP 137 27 [q0, q1, (0, l2)] [] ds m Q = (WP 137 30 [q0, q1, (0, w32 (l2 + 1))] [] ds m Q) := P_nx k137_27 rfl
set_option maxRecDepth 20000 in
theorem k137_30 : mjCode 137 30 = some (.goto (-26), 3, 4, 0) := by decide +kernel
theorem p137_30 {q0 q1 q2 : MV} {ds : Ds} {m : Mm} {Q : Ds → Mm → List MV → Prop} : WP 137 30 [q0, q1, q2] [] ds m Q = (WP 137 4 [q0, q1, q2] [] ds m Q) := P_nx k137_30 rfl
set_option maxRecDepth 20000 in
theorem k137_33 : mjCode 137 33 = some (.iload_n 1, 1, 0, 0) := by decide +kernel
theorem p137_33 {l1 : Int} {q0 q2 : MV} {ds : Ds} {m : Mm} {Q : Ds → Mm → List MV → Prop} : WP 137 33 [q0, (0, l1), q2] [] ds m Q = (WP 137 34 [q0, (0, l1), q2] [(0, l1)] ds m Q) := P_nx k137_33 rfl
set_option maxRecDepth 20000 in
theorem k137_34 : mjCode 137 34 = some (.ireturn, 1, 0, 0) := by decide +kernel
theorem p137_34 {s0 : Int} {q0 q1 q2 : MV} {ds : Ds} {m : Mm} {Q : Ds → Mm → List MV → Prop} : WP 137 34 [q0, q1, q2] [(0, s0)] ds m Q = (Q ds m [(0, s0)]) := P_ri k137_34 rk137
set_option maxRecDepth 20000 in
theorem k138_0 : mjCode 138 0 = some (.iload_n 1, 1, 0, 0) := by decide +kernel
theorem p138_0 {l1 : Int} {q0 q2 : MV} {ds : Ds} {m : Mm} {Q : Ds → Mm → List MV → Prop} : WP 138 0 [q0, (0, l1), q2] [] ds m Q = (WP 138 1 [q0, (0, l1), q2] [(0, l1)] ds m Q) := P_nx k138_0 rfl
set_option maxRecDepth 20000 in
theorem k138_1 : mjCode 138 1 = some (.invokestatic 152, 3, 123, 1) := by decide +kernel
theorem p138_1 {s0 : Int} {q0 q1 q2 : MV} {ds : Ds} {m : Mm} {Q : Ds → Mm → List MV → Prop} : WP 138 1 [q0, q1, q2] [(0, s0)] ds m Q = (WP 122 0 [(0, s0)] [] ds m (fun d2 m2 r2 => WP 138 4 [q0, q1, q2] (r2 ++ []) d2 m2 Q)) := P_cs k138_1 mx122 rfl rfl rfl rfl rfl rfl rfl
set_option maxRecDepth 20000 in
theorem k138_4 : mjCode 138 4 = some (.ifCond .eq 12, 3, 16, 0) := by decide +kernel
theorem p138_4 {s0 : Int} {q0 q1 q2 : MV} {ds : Ds} {m : Mm} {Q : Ds → Mm → List MV → Prop} : WP 138 4 [q0, q1, q2] [(0, s0)] ds m Q = (if s0 = 0 then WP 138 16 [q0, q1, q2] [] ds m Q else WP 138 7 [q0, q1, q2] [] ds m Q) := P_if k138_4 rfl
set_option maxRecDepth 20000 in
theorem k138_7 : mjCode 138 7 = some (.iload_n 2, 1, 0, 0) := by decide +kernel
theorem p138_7 {l2 : Int} {q0 q1 : MV} {ds : Ds} {m : Mm} {Q : Ds → Mm → List MV → Prop} : WP 138 7 [q0, q1, (0, l2)] [] ds m Q = (WP 138 8 [q0, q1, (0, l2)] [(0, l2)] ds m Q) := P_nx k138_7 rfl
set_option maxRecDepth 20000 in
theorem k138_8 : mjCode 138 8 = some (.iconst 0, 1, 0, 0) := by decide +kernel
theorem p138_8 {s0 : Int} {q0 q1 q2 : MV} {ds : Ds} {m : Mm} {Q : Ds → Mm → List MV → Prop} : WP 138 8 [q0, q1, q2] [(0, s0)] ds m Q = (WP 138 9 [q0, q1, q2] [(0, 0), (0, s0)] ds m Q) := P_nx k138_8 rfl
set_option maxRecDepth 20000 in
theorem k138_9 : mjCode 138 9 = some (.iconst 4, 1, 0, 0) := by decide +kernel
theorem p138_9 {s0 s1 : Int} {q0 q1 q2 : MV} {ds : Ds} {m : Mm} {Q : Ds → Mm → List MV → Prop} : WP 138 9 [q0, q1, q2] [(0, s0), (0, s1)] ds m Q = (WP 138 10 [q0, q1, q2] [(0, 4), (0, s0), (0, s1)] ds m Q) := P_nx k138_9 rfl
set_option maxRecDepth 20000 in
theorem k138_10 : mjCode 138 10 = some (.invokestatic 141, 3, 121, 3) := by decide +kernel
theorem p138_10 {s0 s1 s2 : Int} {q0 q1 q2 : MV} {ds : Ds} {m : Mm} {Q : Ds → Mm → List MV → Prop} : WP 138 10 [q0, q1, q2] [(0, s0), (0, s1), (0, s2)] ds m Q = (WP 120 0 [(0, s2), (0, s1), (0, s0)] [] ds m (fun d2 m2 r2 => WP 138 13 [q0, q1, q2] (r2 ++ []) d2 m2 Q)) := P_cs k138_10 mx120 rfl rfl rfl rfl rfl rfl rfl
set_option maxRecDepth 20000 in
theorem k138_13 : mjCode 138 13 = some (.ifCond .ne 5, 3, 18, 0) := by decide +kernel
theorem p138_13 {s0 : Int} {q0 q1 q2 : MV} {ds : Ds} {m : Mm} {Q : Ds → Mm → List MV → Prop} : WP 138 13 [q0, q1, q2] [(0, s0)] ds m Q = (if s0 = 0 then WP 138 16 [q0, q1, q2] [] ds m Q else WP 138 18 [q0, q1, q2] [] ds m Q) := P_if k138_13 rfl
set_option maxRecDepth 20000 in
theorem k138_16 : mjCode 138 16 = some (.iconst (-1), 1, 0, 0) := by decide +kernel
theorem p138_16 {q0 q1 q2 : MV} {ds : Ds} {m : Mm} {Q : Ds → Mm → List MV → Prop} : WP 138 16 [q0, q1, q2] [] ds m Q = (WP 138 17 [q0, q1, q2] [(0, (-1))] ds m Q) := P_nx k138_16 rfl
set_option maxRecDepth 20000 in
theorem k138_17 : mjCode 138 17 = some (.ireturn, 1, 0, 0) := by decide +kernel
theorem p138_17 {s0 : Int} {q0 q1 q2 : MV} {ds : Ds} {m : Mm} {Q : Ds → Mm → List MV → Prop} : WP 138 17 [q0, q1, q2] [(0, s0)] ds m Q = (Q ds m [(0, s0)]) := P_ri k138_17 rk138
set_option maxRecDepth 20000 in
theorem k138_18 : mjCode 138 18 = some (.iload_n 2, 1, 0, 0) := by decide +kernel
theorem p138_18 {l2 : Int} {q0 q1 : MV} {ds : Ds} {m : Mm} {Q : Ds → Mm → List MV → Prop} : WP 138 18 [q0, q1, (0, l2)] [] ds m Q = (WP 138 19 [q0, q1, (0, l2)] [(0, l2)] ds m Q) := P_nx k138_18 rfl
set_option maxRecDepth 20000 in
theorem k138_19 : mjCode 138 19 = some (.iconst 3, 1, 0, 0) := by decide +kernel
theorem p138_19 {s0 : Int} {q0 q1 q2 : MV} {ds : Ds} {m : Mm} {Q : Ds → Mm → List MV → Prop} : WP 138 19 [q0, q1, q2] [(0, s0)] ds m Q = (WP 138 20 [q0, q1, q2] [(0, 3), (0, s0)] ds m Q) := P_nx k138_19 rfl
set_option maxRecDepth 20000 in
theorem k138_20 : mjCode 138 20 = some (.if_icmp .ne 18, 3, 38, 0) := by decide +kernel
theorem p138_20 {s0 s1 : Int} {q0 q1 q2 : MV} {ds : Ds} {m : Mm} {Q : Ds → Mm → List MV → Prop} : WP 138 20 [q0, q1, q2] [(0, s0), (0, s1)] ds m Q = (if s1 = s0 then WP 138 23 [q0, q1, q2] [] ds m Q else WP 138 38 [q0, q1, q2] [] ds m Q) := P_if k138_20 rfl
set_option maxRecDepth 20000 in
theorem k138_23 : mjCode 138 23 = some (.aload_n 0, 1, 0, 0) := by decide +kernel
theorem p138_23 {l0 : Int} {q1 q2 : MV} {ds : Ds} {m : Mm} {Q : Ds → Mm → List MV → Prop} : WP 138 23 [(2, l0), q1, q2] [] ds m Q = (WP 138 24 [(2, l0), q1, q2] [(2, l0)] ds m Q) := P_nx k138_23 rfl
set_option maxRecDepth 20000 in
theorem k138_24 : mjCode 138 24 = some (.getfield 25, 3, 7, 5) := by decide +kernel
theorem p138_24 {s0 : Int} {q0 q1 q2 : MV} {ds : Ds} {m : Mm} {Q : Ds → Mm → List MV → Prop} : WP 138 24 [q0, q1, q2] [(2, s0)] ds m Q = ((dk ds s0 = 7 ∧ WP 138 27 [q0, q1, q2] [(2, m s0 5)] ds m Q)) := P_gd k138_24 rfl
set_option maxRecDepth 20000 in
theorem k138_27 : mjCode 138 27 = some (.iload_n 1, 1, 0, 0) := by decide +kernel
theorem p138_27 {l1 s0 : Int} {q0 q2 : MV} {ds : Ds} {m : Mm} {Q : Ds → Mm → List MV → Prop} : WP 138 27 [q0, (0, l1), q2] [(2, s0)] ds m Q = (WP 138 28 [q0, (0, l1), q2] [(0, l1), (2, s0)] ds m Q) := P_nx k138_27 rfl
set_option maxRecDepth 20000 in
theorem k138_28 : mjCode 138 28 = some (.baload, 1, 0, 0) := by decide +kernel
theorem p138_28 {s0 s1 : Int} {q0 q1 q2 : MV} {ds : Ds} {m : Mm} {Q : Ds → Mm → List MV → Prop} : WP 138 28 [q0, q1, q2] [(0, s0), (2, s1)] ds m Q = ((dk ds s1 = 11 ∧ 0 ≤ s0 ∧ s0 < dl ds s1 ∧ WP 138 29 [q0, q1, q2] [(0, m s1 s0)] ds m Q)) := P_g3 k138_28 rfl
set_option maxRecDepth 20000 in
theorem k138_29 : mjCode 138 29 = some (.ifCond .eq 7, 3, 36, 0) := by decide +kernel
theorem p138_29 {s0 : Int} {q0 q1 q2 : MV} {ds : Ds} {m : Mm} {Q : Ds → Mm → List MV → Prop} : WP 138 29 [q0, q1, q2] [(0, s0)] ds m Q = (if s0 = 0 then WP 138 36 [q0, q1, q2] [] ds m Q else WP 138 32 [q0, q1, q2] [] ds m Q) := P_if k138_29 rfl
set_option maxRecDepth 20000 in
theorem k138_32 : mjCode 138 32 = some (.iconst 1, 1, 0, 0) := by decide +kernel
theorem p138_32 {q0 q1 q2 : MV} {ds : Ds} {m : Mm} {Q : Ds → Mm → List MV → Prop} : WP 138 32 [q0, q1, q2] [] ds m Q = (WP 138 33 [q0, q1, q2] [(0, 1)] ds m Q) := P_nx k138_32 rfl
set_option maxRecDepth 20000 in
theorem k138_33 : mjCode 138 33 = some (.goto 4, 3, 37, 0) := by decide +kernel
theorem p138_33 {s0 : Int} {q0 q1 q2 : MV} {ds : Ds} {m : Mm} {Q : Ds → Mm → List MV → Prop} : WP 138 33 [q0, q1, q2] [(0, s0)] ds m Q = (WP 138 37 [q0, q1, q2] [(0, s0)] ds m Q) := P_nx k138_33 rfl
set_option maxRecDepth 20000 in
theorem k138_36 : mjCode 138 36 = some (.iconst 0, 1, 0, 0) := by decide +kernel
theorem p138_36 {q0 q1 q2 : MV} {ds : Ds} {m : Mm} {Q : Ds → Mm → List MV → Prop} : WP 138 36 [q0, q1, q2] [] ds m Q = (WP 138 37 [q0, q1, q2] [(0, 0)] ds m Q) := P_nx k138_36 rfl
set_option maxRecDepth 20000 in
theorem k138_37 : mjCode 138 37 = some (.ireturn, 1, 0, 0) := by decide +kernel
theorem p138_37 {s0 : Int} {q0 q1 q2 : MV} {ds : Ds} {m : Mm} {Q : Ds → Mm → List MV → Prop} : WP 138 37 [q0, q1, q2] [(0, s0)] ds m Q = (Q ds m [(0, s0)]) := P_ri k138_37 rk138
set_option maxRecDepth 20000 in
theorem k138_38 : mjCode 138 38 = some (.iload_n 2, 1, 0, 0) := by decide +kernel
theorem p138_38 {l2 : Int} {q0 q1 : MV} {ds : Ds} {m : Mm} {Q : Ds → Mm → List MV → Prop} : WP 138 38 [q0, q1, (0, l2)] [] ds m Q = (WP 138 39 [q0, q1, (0, l2)] [(0, l2)] ds m Q) := P_nx k138_38 rfl
set_option maxRecDepth 20000 in
theorem k138_39 : mjCode 138 39 = some (.iconst 4, 1, 0, 0) := by decide +kernel
theorem p138_39 {s0 : Int} {q0 q1 q2 : MV} {ds : Ds} {m : Mm} {Q : Ds → Mm → List MV → Prop} : WP 138 39 [q0, q1, q2] [(0, s0)] ds m Q = (WP 138 40 [q0, q1, q2] [(0, 4), (0, s0)] ds m Q) := P_nx k138_39 rfl
set_option maxRecDepth 20000 in
theorem k138_40 : mjCode 138 40 = some (.if_icmp .ne 24, 3, 64, 0) := by decide +kernel
theorem p138_40 {s0 s1 : Int} {q0 q1 q2 : MV} {ds : Ds} {m : Mm} {Q : Ds → Mm → List MV → Prop} : WP 138 40 [q0, q1, q2] [(0, s0), (0, s1)] ds m Q = (if s1 = s0 then WP 138 43 [q0, q1, q2] [] ds m Q else WP 138 64 [q0, q1, q2] [] ds m Q) := P_if k138_40 rfl
set_option maxRecDepth 20000 in
theorem k138_43 : mjCode 138 43 = some (.aload_n 0, 1, 0, 0) := by decide +kernel
theorem p138_43 {l0 : Int} {q1 q2 : MV} {ds : Ds} {m : Mm} {Q : Ds → Mm → List MV → Prop} : WP 138 43 [(2, l0), q1, q2] [] ds m Q = (WP 138 44 [(2, l0), q1, q2] [(2, l0)] ds m Q) := P_nx k138_43 rfl
set_option maxRecDepth 20000 in
theorem k138_44 : mjCode 138 44 = some (.getfield 13, 3, 7, 1) := by decide +kernel
theorem p138_44 {s0 : Int} {q0 q1 q2 : MV} {ds : Ds} {m : Mm} {Q : Ds → Mm → List MV → Prop} : WP 138 44 [q0, q1, q2] [(2, s0)] ds m Q = ((dk ds s0 = 7 ∧ WP 138 47 [q0, q1, q2] [(2, m s0 1)] ds m Q)) := P_gd k138_44 rfl
set_option maxRecDepth 20000 in
theorem k138_47 : mjCode 138 47 = some (.iload_n 1, 1, 0, 0) := by decide +kernel
theorem p138_47 {l1 s0 : Int} {q0 q2 : MV} {ds : Ds} {m : Mm} {Q : Ds → Mm → List MV → Prop} : WP 138 47 [q0, (0, l1), q2] [(2, s0)] ds m Q = (WP 138 48 [q0, (0, l1), q2] [(0, l1), (2, s0)] ds m Q) := P_nx k138_47 rfl
set_option maxRecDepth 20000 in
theorem k138_48 : mjCode 138 48 = some (.iaload, 1, 0, 0) := by decide +kernel
theorem p138_48 {s0 s1 : Int} {q0 q1 q2 : MV} {ds : Ds} {m : Mm} {Q : Ds → Mm → List MV → Prop} : WP 138 48 [q0, q1, q2] [(0, s0), (2, s1)] ds m Q = ((dk ds s1 = 10 ∧ 0 ≤ s0 ∧ s0 < dl ds s1 ∧ WP 138 49 [q0, q1, q2] [(0, m s1 s0)] ds m Q)) := P_g3 k138_48 rfl
set_option maxRecDepth 20000 in
theorem k138_49 : mjCode 138 49 = some (.iconst 3, 1, 0, 0) := by decide +kernel
theorem p138_49 {s0 : Int} {q0 q1 q2 : MV} {ds : Ds} {m : Mm} {Q : Ds → Mm → List MV → Prop} : WP 138 49 [q0, q1, q2] [(0, s0)] ds m Q = (WP 138 50 [q0, q1, q2] [(0, 3), (0, s0)] ds m Q) := P_nx k138_49 rfl
set_option maxRecDepth 20000 in
theorem k138_50 : mjCode 138 50 = some (.if_icmp .ne 12, 3, 62, 0) := by decide +kernel
theorem p138_50 {s0 s1 : Int} {q0 q1 q2 : MV} {ds : Ds} {m : Mm} {Q : Ds → Mm → List MV → Prop} : WP 138 50 [q0, q1, q2] [(0, s0), (0, s1)] ds m Q = (if s1 = s0 then WP 138 53 [q0, q1, q2] [] ds m Q else WP 138 62 [q0, q1, q2] [] ds m Q) := P_if k138_50 rfl
set_option maxRecDepth 20000 in
theorem k138_53 : mjCode 138 53 = some (.aload_n 0, 1, 0, 0) := by decide +kernel
theorem p138_53 {l0 : Int} {q1 q2 : MV} {ds : Ds} {m : Mm} {Q : Ds → Mm → List MV → Prop} : WP 138 53 [(2, l0), q1, q2] [] ds m Q = (WP 138 54 [(2, l0), q1, q2] [(2, l0)] ds m Q) := P_nx k138_53 rfl
set_option maxRecDepth 20000 in
theorem k138_54 : mjCode 138 54 = some (.getfield 22, 3, 7, 4) := by decide +kernel
theorem p138_54 {s0 : Int} {q0 q1 q2 : MV} {ds : Ds} {m : Mm} {Q : Ds → Mm → List MV → Prop} : WP 138 54 [q0, q1, q2] [(2, s0)] ds m Q = ((dk ds s0 = 7 ∧ WP 138 57 [q0, q1, q2] [(2, m s0 4)] ds m Q)) := P_gd k138_54 rfl
set_option maxRecDepth 20000 in
theorem k138_57 : mjCode 138 57 = some (.iload_n 1, 1, 0, 0) := by decide +kernel
theorem p138_57 {l1 s0 : Int} {q0 q2 : MV} {ds : Ds} {m : Mm} {Q : Ds → Mm → List MV → Prop} : WP 138 57 [q0, (0, l1), q2] [(2, s0)] ds m Q = (WP 138 58 [q0, (0, l1), q2] [(0, l1), (2, s0)] ds m Q) := P_nx k138_57 rfl
set_option maxRecDepth 20000 in
theorem k138_58 : mjCode 138 58 = some (.iaload, 1, 0, 0) := by decide +kernel
theorem p138_58 {s0 s1 : Int} {q0 q1 q2 : MV} {ds : Ds} {m : Mm} {Q : Ds → Mm → List MV → Prop} : WP 138 58 [q0, q1, q2] [(0, s0), (2, s1)] ds m Q = ((dk ds s1 = 10 ∧ 0 ≤ s0 ∧ s0 < dl ds s1 ∧ WP 138 59 [q0, q1, q2] [(0, m s1 s0)] ds m Q)) := P_g3 k138_58 rfl
set_option maxRecDepth 20000 in
theorem k138_59 : mjCode 138 59 = some (.goto 4, 3, 63, 0) := by decide +kernel
theorem p138_59 {s0 : Int} {q0 q1 q2 : MV} {ds : Ds} {m : Mm} {Q : Ds → Mm → List MV → Prop} : WP 138 59 [q0, q1, q2] [(0, s0)] ds m Q = (WP 138 63 [q0, q1, q2] [(0, s0)] ds m Q) := P_nx k138_59 rfl
set_option maxRecDepth 20000 in
theorem k138_62 : mjCode 138 62 = some (.iconst (-1), 1, 0, 0) := by decide +kernel
theorem p138_62 {q0 q1 q2 : MV} {ds : Ds} {m : Mm} {Q : Ds → Mm → List MV → Prop} : WP 138 62 [q0, q1, q2] [] ds m Q = (WP 138 63 [q0, q1, q2] [(0, (-1))] ds m Q) := P_nx k138_62 rfl
set_option maxRecDepth 20000 in
theorem k138_63 : mjCode 138 63 = some (.ireturn, 1, 0, 0) := by decide +kernel
theorem p138_63 {s0 : Int} {q0 q1 q2 : MV} {ds : Ds} {m : Mm} {Q : Ds → Mm → List MV → Prop} : WP 138 63 [q0, q1, q2] [(0, s0)] ds m Q = (Q ds m [(0, s0)]) := P_ri k138_63 rk138
set_option maxRecDepth 20000 in
theorem k138_64 : mjCode 138 64 = some (.aload_n 0, 1, 0, 0) := by decide +kernel
theorem p138_64 {l0 : Int} {q1 q2 : MV} {ds : Ds} {m : Mm} {Q : Ds → Mm → List MV → Prop} : WP 138 64 [(2, l0), q1, q2] [] ds m Q = (WP 138 65 [(2, l0), q1, q2] [(2, l0)] ds m Q) := P_nx k138_64 rfl
set_option maxRecDepth 20000 in
theorem k138_65 : mjCode 138 65 = some (.getfield 13, 3, 7, 1) := by decide +kernel
theorem p138_65 {s0 : Int} {q0 q1 q2 : MV} {ds : Ds} {m : Mm} {Q : Ds → Mm → List MV → Prop} : WP 138 65 [q0, q1, q2] [(2, s0)] ds m Q = ((dk ds s0 = 7 ∧ WP 138 68 [q0, q1, q2] [(2, m s0 1)] ds m Q)) := P_gd k138_65 rfl
set_option maxRecDepth 20000 in
theorem k138_68 : mjCode 138 68 = some (.iload_n 1, 1, 0, 0) := by decide +kernel
theorem p138_68 {l1 s0 : Int} {q0 q2 : MV} {ds : Ds} {m : Mm} {Q : Ds → Mm → List MV → Prop} : WP 138 68 [q0, (0, l1), q2] [(2, s0)] ds m Q = (WP 138 69 [q0, (0, l1), q2] [(0, l1), (2, s0)] ds m Q) := P_nx k138_68 rfl
set_option maxRecDepth 20000 in
theorem k138_69 : mjCode 138 69 = some (.iaload, 1, 0, 0) := by decide +kernel
theorem p138_69 {s0 s1 : Int} {q0 q1 q2 : MV} {ds : Ds} {m : Mm} {Q : Ds → Mm → List MV → Prop} : WP 138 69 [q0, q1, q2] [(0, s0), (2, s1)] ds m Q = ((dk ds s1 = 10 ∧ 0 ≤ s0 ∧ s0 < dl ds s1 ∧ WP 138 70 [q0, q1, q2] [(0, m s1 s0)] ds m Q)) := P_g3 k138_69 rfl
set_option maxRecDepth 20000 in
theorem k138_70 : mjCode 138 70 = some (.ifCond .ne 7, 3, 77, 0) := by decide +kernel
theorem p138_70 {s0 : Int} {q0 q1 q2 : MV} {ds : Ds} {m : Mm} {Q : Ds → Mm → List MV → Prop} : WP 138 70 [q0, q1, q2] [(0, s0)] ds m Q = (if s0 = 0 then WP 138 73 [q0, q1, q2] [] ds m Q else WP 138 77 [q0, q1, q2] [] ds m Q) := P_if k138_70 rfl
set_option maxRecDepth 20000 in
theorem k138_73 : mjCode 138 73 = some (.iconst 0, 1, 0, 0) := by decide +kernel
theorem p138_73 {q0 q1 q2 : MV} {ds : Ds} {m : Mm} {Q : Ds → Mm → List MV → Prop} : WP 138 73 [q0, q1, q2] [] ds m Q = (WP 138 74 [q0, q1, q2] [(0, 0)] ds m Q) := P_nx k138_73 rfl
set_option maxRecDepth 20000 in
theorem k138_74 : mjCode 138 74 = some (.goto 36, 3, 110, 0) := by decide +kernel
theorem p138_74 {s0 : Int} {q0 q1 q2 : MV} {ds : Ds} {m : Mm} {Q : Ds → Mm → List MV → Prop} : WP 138 74 [q0, q1, q2] [(0, s0)] ds m Q = (WP 138 110 [q0, q1, q2] [(0, s0)] ds m Q) := P_nx k138_74 rfl
set_option maxRecDepth 20000 in
theorem k138_77 : mjCode 138 77 = some (.iload_n 2, 1, 0, 0) := by decide +kernel
theorem p138_77 {l2 : Int} {q0 q1 : MV} {ds : Ds} {m : Mm} {Q : Ds → Mm → List MV → Prop} : WP 138 77 [q0, q1, (0, l2)] [] ds m Q = (WP 138 78 [q0, q1, (0, l2)] [(0, l2)] ds m Q) := P_nx k138_77 rfl
set_option maxRecDepth 20000 in
theorem k138_78 : mjCode 138 78 = some (.ifCond .ne 12, 3, 90, 0) := by decide +kernel
theorem p138_78 {s0 : Int} {q0 q1 q2 : MV} {ds : Ds} {m : Mm} {Q : Ds → Mm → List MV → Prop} : WP 138 78 [q0, q1, q2] [(0, s0)] ds m Q = (if s0 = 0 then WP 138 81 [q0, q1, q2] [] ds m Q else WP 138 90 [q0, q1, q2] [] ds m Q) := P_if k138_78 rfl
set_option maxRecDepth 20000 in
theorem k138_81 : mjCode 138 81 = some (.aload_n 0, 1, 0, 0) := by decide +kernel
theorem p138_81 {l0 : Int} {q1 q2 : MV} {ds : Ds} {m : Mm} {Q : Ds → Mm → List MV → Prop} : WP 138 81 [(2, l0), q1, q2] [] ds m Q = (WP 138 82 [(2, l0), q1, q2] [(2, l0)] ds m Q) := P_nx k138_81 rfl
set_option maxRecDepth 20000 in
theorem k138_82 : mjCode 138 82 = some (.getfield 13, 3, 7, 1) := by decide +kernel
theorem p138_82 {s0 : Int} {q0 q1 q2 : MV} {ds : Ds} {m : Mm} {Q : Ds → Mm → List MV → Prop} : WP 138 82 [q0, q1, q2] [(2, s0)] ds m Q = ((dk ds s0 = 7 ∧ WP 138 85 [q0, q1, q2] [(2, m s0 1)] ds m Q)) := P_gd k138_82 rfl
set_option maxRecDepth 20000 in
theorem k138_85 : mjCode 138 85 = some (.iload_n 1, 1, 0, 0) := by decide +kernel
theorem p138_85 {l1 s0 : Int} {q0 q2 : MV} {ds : Ds} {m : Mm} {Q : Ds → Mm → List MV → Prop} : WP 138 85 [q0, (0, l1), q2] [(2, s0)] ds m Q = (WP 138 86 [q0, (0, l1), q2] [(0, l1), (2, s0)] ds m Q) := P_nx k138_85 rfl
set_option maxRecDepth 20000 in
theorem k138_86 : mjCode 138 86 = some (.iaload, 1, 0, 0) := by decide +kernel
theorem p138_86 {s0 s1 : Int} {q0 q1 q2 : MV} {ds : Ds} {m : Mm} {Q : Ds → Mm → List MV → Prop} : WP 138 86 [q0, q1, q2] [(0, s0), (2, s1)] ds m Q = ((dk ds s1 = 10 ∧ 0 ≤ s0 ∧ s0 < dl ds s1 ∧ WP 138 87 [q0, q1, q2] [(0, m s1 s0)] ds m Q)) := P_g3 k138_86 rfl
set_option maxRecDepth 20000 in
theorem k138_87 : mjCode 138 87 = some (.goto 23, 3, 110, 0) := by decide +kernel
theorem p138_87 {s0 : Int} {q0 q1 q2 : MV} {ds : Ds} {m : Mm} {Q : Ds → Mm → List MV → Prop} : WP 138 87 [q0, q1, q2] [(0, s0)] ds m Q = (WP 138 110 [q0, q1, q2] [(0, s0)] ds m Q) := P_nx k138_87 rfl
set_option maxRecDepth 20000 in
theorem k138_90 : mjCode 138 90 = some (.iload_n 2, 1, 0, 0) := by decide +kernel
theorem p138_90 {l2 : Int} {q0 q1 : MV} {ds : Ds} {m : Mm} {Q : Ds → Mm → List MV → Prop} : WP 138 90 [q0, q1, (0, l2)] [] ds m Q = (WP 138 91 [q0, q1, (0, l2)] [(0, l2)] ds m Q) := P_nx k138_90 rfl
set_option maxRecDepth 20000 in
theorem k138_91 : mjCode 138 91 = some (.iconst 1, 1, 0, 0) := by decide +kernel
theorem p138_91 {s0 : Int} {q0 q1 q2 : MV} {ds : Ds} {m : Mm} {Q : Ds → Mm → List MV → Prop} : WP 138 91 [q0, q1, q2] [(0, s0)] ds m Q = (WP 138 92 [q0, q1, q2] [(0, 1), (0, s0)] ds m Q) := P_nx k138_91 rfl
set_option maxRecDepth 20000 in
theorem k138_92 : mjCode 138 92 = some (.if_icmp .ne 12, 3, 104, 0) := by decide +kernel
theorem p138_92 {s0 s1 : Int} {q0 q1 q2 : MV} {ds : Ds} {m : Mm} {Q : Ds → Mm → List MV → Prop} : WP 138 92 [q0, q1, q2] [(0, s0), (0, s1)] ds m Q = (if s1 = s0 then WP 138 95 [q0, q1, q2] [] ds m Q else WP 138 104 [q0, q1, q2] [] ds m Q) := P_if k138_92 rfl
set_option maxRecDepth 20000 in
theorem k138_95 : mjCode 138 95 = some (.aload_n 0, 1, 0, 0) := by decide +kernel
theorem p138_95 {l0 : Int} {q1 q2 : MV} {ds : Ds} {m : Mm} {Q : Ds → Mm → List MV → Prop} : WP 138 95 [(2, l0), q1, q2] [] ds m Q = (WP 138 96 [(2, l0), q1, q2] [(2, l0)] ds m Q) := P_nx k138_95 rfl
set_option maxRecDepth 20000 in
theorem k138_96 : mjCode 138 96 = some (.getfield 16, 3, 7, 2) := by decide +kernel
theorem p138_96 {s0 : Int} {q0 q1 q2 : MV} {ds : Ds} {m : Mm} {Q : Ds → Mm → List MV → Prop} : WP 138 96 [q0, q1, q2] [(2, s0)] ds m Q = ((dk ds s0 = 7 ∧ WP 138 99 [q0, q1, q2] [(2, m s0 2)] ds m Q)) := P_gd k138_96 rfl
set_option maxRecDepth 20000 in
theorem k138_99 : mjCode 138 99 = some (.iload_n 1, 1, 0, 0) := by decide +kernel
theorem p138_99 {l1 s0 : Int} {q0 q2 : MV} {ds : Ds} {m : Mm} {Q : Ds → Mm → List MV → Prop} : WP 138 99 [q0, (0, l1), q2] [(2, s0)] ds m Q = (WP 138 100 [q0, (0, l1), q2] [(0, l1), (2, s0)] ds m Q) := P_nx k138_99 rfl
set_option maxRecDepth 20000 in
theorem k138_100 : mjCode 138 100 = some (.iaload, 1, 0, 0) := by decide +kernel
theorem p138_100 {s0 s1 : Int} {q0 q1 q2 : MV} {ds : Ds} {m : Mm} {Q : Ds → Mm → List MV → Prop} : WP 138 100 [q0, q1, q2] [(0, s0), (2, s1)] ds m Q = ((dk ds s1 = 10 ∧ 0 ≤ s0 ∧ s0 < dl ds s1 ∧ WP 138 101 [q0, q1, q2] [(0, m s1 s0)] ds m Q)) := P_g3 k138_100 rfl
set_option maxRecDepth 20000 in
theorem k138_101 : mjCode 138 101 = some (.goto 9, 3, 110, 0) := by decide +kernel
theorem p138_101 {s0 : Int} {q0 q1 q2 : MV} {ds : Ds} {m : Mm} {Q : Ds → Mm → List MV → Prop} : WP 138 101 [q0, q1, q2] [(0, s0)] ds m Q = (WP 138 110 [q0, q1, q2] [(0, s0)] ds m Q) := P_nx k138_101 rfl
set_option maxRecDepth 20000 in
theorem k138_104 : mjCode 138 104 = some (.aload_n 0, 1, 0, 0) := by decide +kernel
theorem p138_104 {l0 : Int} {q1 q2 : MV} {ds : Ds} {m : Mm} {Q : Ds → Mm → List MV → Prop} : WP 138 104 [(2, l0), q1, q2] [] ds m Q = (WP 138 105 [(2, l0), q1, q2] [(2, l0)] ds m Q) := P_nx k138_104 rfl
set_option maxRecDepth 20000 in
theorem k138_105 : mjCode 138 105 = some (.getfield 19, 3, 7, 3) := by decide +kernel
theorem p138_105 {s0 : Int} {q0 q1 q2 : MV} {ds : Ds} {m : Mm} {Q : Ds → Mm → List MV → Prop} : WP 138 105 [q0, q1, q2] [(2, s0)] ds m Q = ((dk ds s0 = 7 ∧ WP 138 108 [q0, q1, q2] [(2, m s0 3)] ds m Q)) := P_gd k138_105 rfl
set_option maxRecDepth 20000 in
theorem k138_108 : mjCode 138 108 = some (.iload_n 1, 1, 0, 0) := by decide +kernel
theorem p138_108 {l1 s0 : Int} {q0 q2 : MV} {ds : Ds} {m : Mm} {Q : Ds → Mm → List MV → Prop} : WP 138 108 [q0, (0, l1), q2] [(2, s0)] ds m Q = (WP 138 109 [q0, (0, l1), q2] [(0, l1), (2, s0)] ds m Q) := P_nx k138_108 rfl
set_option maxRecDepth 20000 in
theorem k138_109 : mjCode 138 109 = some (.iaload, 1, 0, 0) := by decide +kernel
theorem p138_109 {s0 s1 : Int} {q0 q1 q2 : MV} {ds : Ds} {m : Mm} {Q : Ds → Mm → List MV → Prop} : WP 138 109 [q0, q1, q2] [(0, s0), (2, s1)] ds m Q = ((dk ds s1 = 10 ∧ 0 ≤ s0 ∧ s0 < dl ds s1 ∧ WP 138 110 [q0, q1, q2] [(0, m s1 s0)] ds m Q)) := P_g3 k138_109 rfl
set_option maxRecDepth 20000 in
theorem k138_110 : mjCode 138 110 = some (.ireturn, 1, 0, 0) := by decide +kernel
theorem p138_110 {s0 : Int} {q0 q1 q2 : MV} {ds : Ds} {m : Mm} {Q : Ds → Mm → List MV → Prop} : WP 138 110 [q0, q1, q2] [(0, s0)] ds m Q = (Q ds m [(0, s0)]) := P_ri k138_110 rk138
set_option maxRecDepth 20000 in
theorem k139_0 : mjCode 139 0 = some (.iload_n 0, 1, 0, 0) := by decide +kernel
theorem p139_0 {l0 : Int} {ds : Ds} {m : Mm} {Q : Ds → Mm → List MV → Prop} : WP 139 0 [(0, l0)] [] ds m Q = (WP 139 1 [(0, l0)] [(0, l0)] ds m Q) := P_nx k139_0 rfl
set_option maxRecDepth 20000 in
theorem k139_1 : mjCode 139 1 = some (.iconst 0, 1, 0, 0) := by decide +kernel
theorem p139_1 {s0 : Int} {q0 : MV} {ds : Ds} {m : Mm} {Q : Ds → Mm → List MV → Prop} : WP 139 1 [q0] [(0, s0)] ds m Q = (WP 139 2 [q0] [(0, 0), (0, s0)] ds m Q) := P_nx k139_1 rfl
set_option maxRecDepth 20000 in
theorem k139_2 : mjCode 139 2 = some (.bipush 7, 2, 0, 0) := by decide +kernel
theorem p139_2 {s0 s1 : Int} {q0 : MV} {ds : Ds} {m : Mm} {Q : Ds → Mm → List MV → Prop} : WP 139 2 [q0] [(0, s0), (0, s1)] ds m Q = (WP 139 4 [q0] [(0, 7), (0, s0), (0, s1)] ds m Q) := P_nx k139_2 rfl
set_option maxRecDepth 20000 in
theorem k139_4 : mjCode 139 4 = some (.invokestatic 141, 3, 121, 3) := by decide +kernel
theorem p139_4 {s0 s1 s2 : Int} {q0 : MV} {ds : Ds} {m : Mm} {Q : Ds → Mm → List MV → Prop} : WP 139 4 [q0] [(0, s0), (0, s1), (0, s2)] ds m Q = (WP 120 0 [(0, s2), (0, s1), (0, s0)] [] ds m (fun d2 m2 r2 => WP 139 7 [q0] (r2 ++ []) d2 m2 Q)) := P_cs k139_4 mx120 rfl rfl rfl rfl rfl rfl rfl
set_option maxRecDepth 20000 in
theorem k139_7 : mjCode 139 7 = some (.ireturn, 1, 0, 0) := by decide +kernel
theorem p139_7 {s0 : Int} {q0 : MV} {ds : Ds} {m : Mm} {Q : Ds → Mm → List MV → Prop} : WP 139 7 [q0] [(0, s0)] ds m Q = (((s0 = 0 ∨ s0 = 1) ∧ Q ds m [(0, s0)])) := P_rb k139_7 rk139
set_option maxRecDepth 20000 in
theorem k140_0 : mjCode 140 0 = some (.aload_n 0, 1, 0, 0) := by decide +kernel
theorem p140_0 {l0 : Int} {q1 : MV} {ds : Ds} {m : Mm} {Q : Ds → Mm → List MV → Prop} : WP 140 0 [(2, l0), q1] [] ds m Q = (WP 140 1 [(2, l0), q1] [(2, l0)] ds m Q) := P_nx k140_0 rfl
set_option maxRecDepth 20000 in
theorem k140_1 : mjCode 140 1 = some (.getfield 38, 3, 7, 11) := by decide +kernel
theorem p140_1 {s0 : Int} {q0 q1 : MV} {ds : Ds} {m : Mm} {Q : Ds → Mm → List MV → Prop} : WP 140 1 [q0, q1] [(2, s0)] ds m Q = ((dk ds s0 = 7 ∧ WP 140 4 [q0, q1] [(2, m s0 11)] ds m Q)) := P_gd k140_1 rfl
set_option maxRecDepth 20000 in
theorem k140_4 : mjCode 140 4 = some (.iload_n 1, 1, 0, 0) := by decide +kernel
theorem p140_4 {l1 s0 : Int} {q0 : MV} {ds : Ds} {m : Mm} {Q : Ds → Mm → List MV → Prop} : WP 140 4 [q0, (0, l1)] [(2, s0)] ds m Q = (WP 140 5 [q0, (0, l1)] [(0, l1), (2, s0)] ds m Q) := P_nx k140_4 rfl
set_option maxRecDepth 20000 in
theorem k140_5 : mjCode 140 5 = some (.iaload, 1, 0, 0) := by decide +kernel
theorem p140_5 {s0 s1 : Int} {q0 q1 : MV} {ds : Ds} {m : Mm} {Q : Ds → Mm → List MV → Prop} : WP 140 5 [q0, q1] [(0, s0), (2, s1)] ds m Q = ((dk ds s1 = 10 ∧ 0 ≤ s0 ∧ s0 < dl ds s1 ∧ WP 140 6 [q0, q1] [(0, m s1 s0)] ds m Q)) := P_g3 k140_5 rfl
set_option maxRecDepth 20000 in
theorem k140_6 : mjCode 140 6 = some (.bipush 100, 2, 0, 0) := by decide +kernel
theorem p140_6 {s0 : Int} {q0 q1 : MV} {ds : Ds} {m : Mm} {Q : Ds → Mm → List MV → Prop} : WP 140 6 [q0, q1] [(0, s0)] ds m Q = (WP 140 8 [q0, q1] [(0, 100), (0, s0)] ds m Q) := P_nx k140_6 rfl
set_option maxRecDepth 20000 in
theorem k140_8 : mjCode 140 8 = some (.if_icmp .lt 7, 3, 15, 0) := by decide +kernel
theorem p140_8 {s0 s1 : Int} {q0 q1 : MV} {ds : Ds} {m : Mm} {Q : Ds → Mm → List MV → Prop} : WP 140 8 [q0, q1] [(0, s0), (0, s1)] ds m Q = (if s1 < s0 then WP 140 15 [q0, q1] [] ds m Q else WP 140 11 [q0, q1] [] ds m Q) := P_if k140_8 rfl
set_option maxRecDepth 20000 in
theorem k140_11 : mjCode 140 11 = some (.iconst 1, 1, 0, 0) := by decide +kernel
theorem p140_11 {q0 q1 : MV} {ds : Ds} {m : Mm} {Q : Ds → Mm → List MV → Prop} : WP 140 11 [q0, q1] [] ds m Q = (WP 140 12 [q0, q1] [(0, 1)] ds m Q) := P_nx k140_11 rfl
set_option maxRecDepth 20000 in
theorem k140_12 : mjCode 140 12 = some (.goto 4, 3, 16, 0) := by decide +kernel
theorem p140_12 {s0 : Int} {q0 q1 : MV} {ds : Ds} {m : Mm} {Q : Ds → Mm → List MV → Prop} : WP 140 12 [q0, q1] [(0, s0)] ds m Q = (WP 140 16 [q0, q1] [(0, s0)] ds m Q) := P_nx k140_12 rfl
set_option maxRecDepth 20000 in
theorem k140_15 : mjCode 140 15 = some (.iconst 0, 1, 0, 0) := by decide +kernel
theorem p140_15 {q0 q1 : MV} {ds : Ds} {m : Mm} {Q : Ds → Mm → List MV → Prop} : WP 140 15 [q0, q1] [] ds m Q = (WP 140 16 [q0, q1] [(0, 0)] ds m Q) := P_nx k140_15 rfl
set_option maxRecDepth 20000 in
theorem k140_16 : mjCode 140 16 = some (.ireturn, 1, 0, 0) := by decide +kernel
theorem p140_16 {s0 : Int} {q0 q1 : MV} {ds : Ds} {m : Mm} {Q : Ds → Mm → List MV → Prop} : WP 140 16 [q0, q1] [(0, s0)] ds m Q = (((s0 = 0 ∨ s0 = 1) ∧ Q ds m [(0, s0)])) := P_rb k140_16 rk140
set_option maxRecDepth 20000 in
theorem k141_0 : mjCode 141 0 = some (.iload_n 1, 1, 0, 0) := by decide +kernel
theorem p141_0 {l1 : Int} {q0 : MV} {ds : Ds} {m : Mm} {Q : Ds → Mm → List MV → Prop} : WP 141 0 [q0, (0, l1)] [] ds m Q = (WP 141 1 [q0, (0, l1)] [(0, l1)] ds m Q) := P_nx k141_0 rfl
set_option maxRecDepth 20000 in
theorem k141_1 : mjCode 141 1 = some (.invokestatic 177, 3, 140, 1) := by decide +kernel
theorem p141_1 {s0 : Int} {q0 q1 : MV} {ds : Ds} {m : Mm} {Q : Ds → Mm → List MV → Prop} : WP 141 1 [q0, q1] [(0, s0)] ds m Q = (WP 139 0 [(0, s0)] [] ds m (fun d2 m2 r2 => WP 141 4 [q0, q1] (r2 ++ []) d2 m2 Q)) := P_cs k141_1 mx139 rfl rfl rfl rfl rfl rfl rfl
set_option maxRecDepth 20000 in
theorem k141_4 : mjCode 141 4 = some (.ifCond .ne 7, 3, 11, 0) := by decide +kernel
theorem p141_4 {s0 : Int} {q0 q1 : MV} {ds : Ds} {m : Mm} {Q : Ds → Mm → List MV → Prop} : WP 141 4 [q0, q1] [(0, s0)] ds m Q = (if s0 = 0 then WP 141 7 [q0, q1] [] ds m Q else WP 141 11 [q0, q1] [] ds m Q) := P_if k141_4 rfl
set_option maxRecDepth 20000 in
theorem k141_7 : mjCode 141 7 = some (.iconst (-1), 1, 0, 0) := by decide +kernel
theorem p141_7 {q0 q1 : MV} {ds : Ds} {m : Mm} {Q : Ds → Mm → List MV → Prop} : WP 141 7 [q0, q1] [] ds m Q = (WP 141 8 [q0, q1] [(0, (-1))] ds m Q) := P_nx k141_7 rfl
set_option maxRecDepth 20000 in
theorem k141_8 : mjCode 141 8 = some (.goto 31, 3, 39, 0) := by decide +kernel
theorem p141_8 {s0 : Int} {q0 q1 : MV} {ds : Ds} {m : Mm} {Q : Ds → Mm → List MV → Prop} : WP 141 8 [q0, q1] [(0, s0)] ds m Q = (WP 141 39 [q0, q1] [(0, s0)] ds m Q) := P_nx k141_8 rfl
set_option maxRecDepth 20000 in
theorem k141_11 : mjCode 141 11 = some (.aload_n 0, 1, 0, 0) := by decide +kernel
theorem p141_11 {l0 : Int} {q1 : MV} {ds : Ds} {m : Mm} {Q : Ds → Mm → List MV → Prop} : WP 141 11 [(2, l0), q1] [] ds m Q = (WP 141 12 [(2, l0), q1] [(2, l0)] ds m Q) := P_nx k141_11 rfl
set_option maxRecDepth 20000 in
theorem k141_12 : mjCode 141 12 = some (.iload_n 1, 1, 0, 0) := by decide +kernel
theorem p141_12 {l1 s0 : Int} {q0 : MV} {ds : Ds} {m : Mm} {Q : Ds → Mm → List MV → Prop} : WP 141 12 [q0, (0, l1)] [(2, s0)] ds m Q = (WP 141 13 [q0, (0, l1)] [(0, l1), (2, s0)] ds m Q) := P_nx k141_12 rfl
set_option maxRecDepth 20000 in
theorem k141_13 : mjCode 141 13 = some (.invokevirtual 180, 3, 141, 2) := by decide +kernel
theorem p141_13 {s0 s1 : Int} {q0 q1 : MV} {ds : Ds} {m : Mm} {Q : Ds → Mm → List MV → Prop} : WP 141 13 [q0, q1] [(0, s0), (2, s1)] ds m Q = ((dk ds s1 = 7 ∧ WP 140 0 [(2, s1), (0, s0)] [] ds m (fun d2 m2 r2 => WP 141 16 [q0, q1] (r2 ++ []) d2 m2 Q))) := P_cv k141_13 mx140 mo140 rfl rfl rfl rfl rfl rfl rfl rfl
set_option maxRecDepth 20000 in
theorem k141_16 : mjCode 141 16 = some (.ifCond .eq 7, 3, 23, 0) := by decide +kernel
theorem p141_16 {s0 : Int} {q0 q1 : MV} {ds : Ds} {m : Mm} {Q : Ds → Mm → List MV → Prop} : WP 141 16 [q0, q1] [(0, s0)] ds m Q = (if s0 = 0 then WP 141 23 [q0, q1] [] ds m Q else WP 141 19 [q0, q1] [] ds m Q) := P_if k141_16 rfl
set_option maxRecDepth 20000 in
theorem k141_19 : mjCode 141 19 = some (.iconst 0, 1, 0, 0) := by decide +kernel
theorem p141_19 {q0 q1 : MV} {ds : Ds} {m : Mm} {Q : Ds → Mm → List MV → Prop} : WP 141 19 [q0, q1] [] ds m Q = (WP 141 20 [q0, q1] [(0, 0)] ds m Q) := P_nx k141_19 rfl
set_option maxRecDepth 20000 in
theorem k141_20 : mjCode 141 20 = some (.goto 19, 3, 39, 0) := by decide +kernel
theorem p141_20 {s0 : Int} {q0 q1 : MV} {ds : Ds} {m : Mm} {Q : Ds → Mm → List MV → Prop} : WP 141 20 [q0, q1] [(0, s0)] ds m Q = (WP 141 39 [q0, q1] [(0, s0)] ds m Q) := P_nx k141_20 rfl
set_option maxRecDepth 20000 in
theorem k141_23 : mjCode 141 23 = some (.aload_n 0, 1, 0, 0) := by decide +kernel
theorem p141_23 {l0 : Int} {q1 : MV} {ds : Ds} {m : Mm} {Q : Ds → Mm → List MV → Prop} : WP 141 23 [(2, l0), q1] [] ds m Q = (WP 141 24 [(2, l0), q1] [(2, l0)] ds m Q) := P_nx k141_23 rfl
set_option maxRecDepth 20000 in
theorem k141_24 : mjCode 141 24 = some (.getfield 38, 3, 7, 11) := by decide +kernel
theorem p141_24 {s0 : Int} {q0 q1 : MV} {ds : Ds} {m : Mm} {Q : Ds → Mm → List MV → Prop} : WP 141 24 [q0, q1] [(2, s0)] ds m Q = ((dk ds s0 = 7 ∧ WP 141 27 [q0, q1] [(2, m s0 11)] ds m Q)) := P_gd k141_24 rfl
set_option maxRecDepth 20000 in
theorem k141_27 : mjCode 141 27 = some (.iload_n 1, 1, 0, 0) := by decide +kernel
theorem p141_27 {l1 s0 : Int} {q0 : MV} {ds : Ds} {m : Mm} {Q : Ds → Mm → List MV → Prop} : WP 141 27 [q0, (0, l1)] [(2, s0)] ds m Q = (WP 141 28 [q0, (0, l1)] [(0, l1), (2, s0)] ds m Q) := P_nx k141_27 rfl
set_option maxRecDepth 20000 in
theorem k141_28 : mjCode 141 28 = some (.iaload, 1, 0, 0) := by decide +kernel
theorem p141_28 {s0 s1 : Int} {q0 q1 : MV} {ds : Ds} {m : Mm} {Q : Ds → Mm → List MV → Prop} : WP 141 28 [q0, q1] [(0, s0), (2, s1)] ds m Q = ((dk ds s1 = 10 ∧ 0 ≤ s0 ∧ s0 < dl ds s1 ∧ WP 141 29 [q0, q1] [(0, m s1 s0)] ds m Q)) := P_g3 k141_28 rfl
set_option maxRecDepth 20000 in
theorem k141_29 : mjCode 141 29 = some (.ifCond .ne 8, 3, 37, 0) := by decide +kernel
theorem p141_29 {s0 : Int} {q0 q1 : MV} {ds : Ds} {m : Mm} {Q : Ds → Mm → List MV → Prop} : WP 141 29 [q0, q1] [(0, s0)] ds m Q = (if s0 = 0 then WP 141 32 [q0, q1] [] ds m Q else WP 141 37 [q0, q1] [] ds m Q) := P_if k141_29 rfl
set_option maxRecDepth 20000 in
theorem k141_32 : mjCode 141 32 = some (.bipush (-2), 2, 0, 0) := by decide +kernel
theorem p141_32 {q0 q1 : MV} {ds : Ds} {m : Mm} {Q : Ds → Mm → List MV → Prop} : WP 141 32 [q0, q1] [] ds m Q = (WP 141 34 [q0, q1] [(0, (-2))] ds m Q) := P_nx k141_32 rfl
set_option maxRecDepth 20000 in
theorem k141_34 : mjCode 141 34 = some (.goto 5, 3, 39, 0) := by decide +kernel
theorem p141_34 {s0 : Int} {q0 q1 : MV} {ds : Ds} {m : Mm} {Q : Ds → Mm → List MV → Prop} : WP 141 34 [q0, q1] [(0, s0)] ds m Q = (WP 141 39 [q0, q1] [(0, s0)] ds m Q) := P_nx k141_34 rfl
set_option maxRecDepth 20000 in
theorem k141_37 : mjCode 141 37 = some (.bipush (-3), 2, 0, 0) := by decide +kernel
theorem p141_37 {q0 q1 : MV} {ds : Ds} {m : Mm} {Q : Ds → Mm → List MV → Prop} : WP 141 37 [q0, q1] [] ds m Q = (WP 141 39 [q0, q1] [(0, (-3))] ds m Q) := P_nx k141_37 rfl
set_option maxRecDepth 20000 in
theorem k141_39 : mjCode 141 39 = some (.ireturn, 1, 0, 0) := by decide +kernel
theorem p141_39 {s0 : Int} {q0 q1 : MV} {ds : Ds} {m : Mm} {Q : Ds → Mm → List MV → Prop} : WP 141 39 [q0, q1] [(0, s0)] ds m Q = (Q ds m [(0, s0)]) := P_ri k141_39 rk141
set_option maxRecDepth 20000 in
theorem k142_0 : mjCode 142 0 = some (.iload_n 0, 1, 0, 0) := by decide +kernel
theorem p142_0 {l0 : Int} {q1 q2 : MV} {ds : Ds} {m : Mm} {Q : Ds → Mm → List MV → Prop} : WP 142 0 [(0, l0), q1, q2] [] ds m Q = (WP 142 1 [(0, l0), q1, q2] [(0, l0)] ds m Q) := P_nx k142_0 rfl
set_option maxRecDepth 20000 in
theorem k142_1 : mjCode 142 1 = some (.ifCond .ne 10, 3, 11, 0) := by decide +kernel
theorem p142_1 {s0 : Int} {q0 q1 q2 : MV} {ds : Ds} {m : Mm} {Q : Ds → Mm → List MV → Prop} : WP 142 1 [q0, q1, q2] [(0, s0)] ds m Q = (if s0 = 0 then WP 142 4 [q0, q1, q2] [] ds m Q else WP 142 11 [q0, q1, q2] [] ds m Q) := P_if k142_1 rfl
set_option maxRecDepth 20000 in
theorem k142_4 : mjCode 142 4 = some (.lload_n 1, 1, 0, 0) := by decide +kernel
theorem p142_4 {l1 : Int} {q0 q2 : MV} {ds : Ds} {m : Mm} {Q : Ds → Mm → List MV → Prop} : WP 142 4 [q0, (1, l1), q2] [] ds m Q = (WP 142 5 [q0, (1, l1), q2] [(1, l1)] ds m Q) := P_nx k142_4 rfl
set_option maxRecDepth 20000 in
theorem k142_5 : mjCode 142 5 = some (.l2i, 1, 0, 0) := by decide +kernel
theorem p142_5 {s0 : Int} {q0 q1 q2 : MV} {ds : Ds} {m : Mm} {Q : Ds → Mm → List MV → Prop} : WP 142 5 [q0, q1, q2] [(1, s0)] ds m Q = (WP 142 6 [q0, q1, q2] [(0, ji s0)] ds m Q) := P_nx k142_5 rfl
set_option maxRecDepth 20000 in
theorem k142_6 : mjCode 142 6 = some (.i2b, 1, 0, 0) := by decide +kernel
theorem p142_6 {s0 : Int} {q0 q1 q2 : MV} {ds : Ds} {m : Mm} {Q : Ds → Mm → List MV → Prop} : WP 142 6 [q0, q1, q2] [(0, s0)] ds m Q = (WP 142 7 [q0, q1, q2] [(0, jb s0)] ds m Q) := P_nx k142_6 rfl
set_option maxRecDepth 20000 in
theorem k142_7 : mjCode 142 7 = some (.i2l, 1, 0, 0) := by decide +kernel
theorem p142_7 {s0 : Int} {q0 q1 q2 : MV} {ds : Ds} {m : Mm} {Q : Ds → Mm → List MV → Prop} : WP 142 7 [q0, q1, q2] [(0, s0)] ds m Q = (WP 142 8 [q0, q1, q2] [(1, s0)] ds m Q) := P_nx k142_7 rfl
set_option maxRecDepth 20000 in
theorem k142_8 : mjCode 142 8 = some (.goto 27, 3, 35, 0) := by decide +kernel
theorem p142_8 {s0 : Int} {q0 q1 q2 : MV} {ds : Ds} {m : Mm} {Q : Ds → Mm → List MV → Prop} : WP 142 8 [q0, q1, q2] [(1, s0)] ds m Q = (WP 142 35 [q0, q1, q2] [(1, s0)] ds m Q) := P_nx k142_8 rfl
set_option maxRecDepth 20000 in
theorem k142_11 : mjCode 142 11 = some (.iload_n 0, 1, 0, 0) := by decide +kernel
theorem p142_11 {l0 : Int} {q1 q2 : MV} {ds : Ds} {m : Mm} {Q : Ds → Mm → List MV → Prop} : WP 142 11 [(0, l0), q1, q2] [] ds m Q = (WP 142 12 [(0, l0), q1, q2] [(0, l0)] ds m Q) := P_nx k142_11 rfl
set_option maxRecDepth 20000 in
theorem k142_12 : mjCode 142 12 = some (.iconst 1, 1, 0, 0) := by decide +kernel
theorem p142_12 {s0 : Int} {q0 q1 q2 : MV} {ds : Ds} {m : Mm} {Q : Ds → Mm → List MV → Prop} : WP 142 12 [q0, q1, q2] [(0, s0)] ds m Q = (WP 142 13 [q0, q1, q2] [(0, 1), (0, s0)] ds m Q) := P_nx k142_12 rfl
set_option maxRecDepth 20000 in
theorem k142_13 : mjCode 142 13 = some (.if_icmp .ne 10, 3, 23, 0) := by decide +kernel
theorem p142_13 {s0 s1 : Int} {q0 q1 q2 : MV} {ds : Ds} {m : Mm} {Q : Ds → Mm → List MV → Prop} : WP 142 13 [q0, q1, q2] [(0, s0), (0, s1)] ds m Q = (if s1 = s0 then WP 142 16 [q0, q1, q2] [] ds m Q else WP 142 23 [q0, q1, q2] [] ds m Q) := P_if k142_13 rfl
set_option maxRecDepth 20000 in
theorem k142_16 : mjCode 142 16 = some (.lload_n 1, 1, 0, 0) := by decide +kernel
theorem p142_16 {l1 : Int} {q0 q2 : MV} {ds : Ds} {m : Mm} {Q : Ds → Mm → List MV → Prop} : WP 142 16 [q0, (1, l1), q2] [] ds m Q = (WP 142 17 [q0, (1, l1), q2] [(1, l1)] ds m Q) := P_nx k142_16 rfl
set_option maxRecDepth 20000 in
theorem k142_17 : mjCode 142 17 = some (.l2i, 1, 0, 0) := by decide +kernel
theorem p142_17 {s0 : Int} {q0 q1 q2 : MV} {ds : Ds} {m : Mm} {Q : Ds → Mm → List MV → Prop} : WP 142 17 [q0, q1, q2] [(1, s0)] ds m Q = (WP 142 18 [q0, q1, q2] [(0, ji s0)] ds m Q) := P_nx k142_17 rfl
set_option maxRecDepth 20000 in
theorem k142_18 : mjCode 142 18 = some (.i2s, 1, 0, 0) := by decide +kernel
theorem p142_18 {s0 : Int} {q0 q1 q2 : MV} {ds : Ds} {m : Mm} {Q : Ds → Mm → List MV → Prop} : WP 142 18 [q0, q1, q2] [(0, s0)] ds m Q = (WP 142 19 [q0, q1, q2] [(0, js s0)] ds m Q) := P_nx k142_18 rfl
set_option maxRecDepth 20000 in
theorem k142_19 : mjCode 142 19 = some (.i2l, 1, 0, 0) := by decide +kernel
theorem p142_19 {s0 : Int} {q0 q1 q2 : MV} {ds : Ds} {m : Mm} {Q : Ds → Mm → List MV → Prop} : WP 142 19 [q0, q1, q2] [(0, s0)] ds m Q = (WP 142 20 [q0, q1, q2] [(1, s0)] ds m Q) := P_nx k142_19 rfl
set_option maxRecDepth 20000 in
theorem k142_20 : mjCode 142 20 = some (.goto 15, 3, 35, 0) := by decide +kernel
theorem p142_20 {s0 : Int} {q0 q1 q2 : MV} {ds : Ds} {m : Mm} {Q : Ds → Mm → List MV → Prop} : WP 142 20 [q0, q1, q2] [(1, s0)] ds m Q = (WP 142 35 [q0, q1, q2] [(1, s0)] ds m Q) := P_nx k142_20 rfl
set_option maxRecDepth 20000 in
theorem k142_23 : mjCode 142 23 = some (.iload_n 0, 1, 0, 0) := by decide +kernel
theorem p142_23 {l0 : Int} {q1 q2 : MV} {ds : Ds} {m : Mm} {Q : Ds → Mm → List MV → Prop} : WP 142 23 [(0, l0), q1, q2] [] ds m Q = (WP 142 24 [(0, l0), q1, q2] [(0, l0)] ds m Q) := P_nx k142_23 rfl
set_option maxRecDepth 20000 in
theorem k142_24 : mjCode 142 24 = some (.iconst 2, 1, 0, 0) := by decide +kernel
theorem p142_24 {s0 : Int} {q0 q1 q2 : MV} {ds : Ds} {m : Mm} {Q : Ds → Mm → List MV → Prop} : WP 142 24 [q0, q1, q2] [(0, s0)] ds m Q = (WP 142 25 [q0, q1, q2] [(0, 2), (0, s0)] ds m Q) := P_nx k142_24 rfl
set_option maxRecDepth 20000 in
theorem k142_25 : mjCode 142 25 = some (.if_icmp .ne 9, 3, 34, 0) := by decide +kernel
theorem p142_25 {s0 s1 : Int} {q0 q1 q2 : MV} {ds : Ds} {m : Mm} {Q : Ds → Mm → List MV → Prop} : WP 142 25 [q0, q1, q2] [(0, s0), (0, s1)] ds m Q = (if s1 = s0 then WP 142 28 [q0, q1, q2] [] ds m Q else WP 142 34 [q0, q1, q2] [] ds m Q) := P_if k142_25 rfl
set_option maxRecDepth 20000 in
theorem k142_28 : mjCode 142 28 = some (.lload_n 1, 1, 0, 0) := by decide +kernel
theorem p142_28 {l1 : Int} {q0 q2 : MV} {ds : Ds} {m : Mm} {Q : Ds → Mm → List MV → Prop} : WP 142 28 [q0, (1, l1), q2] [] ds m Q = (WP 142 29 [q0, (1, l1), q2] [(1, l1)] ds m Q) := P_nx k142_28 rfl
set_option maxRecDepth 20000 in
theorem k142_29 : mjCode 142 29 = some (.l2i, 1, 0, 0) := by decide +kernel
theorem p142_29 {s0 : Int} {q0 q1 q2 : MV} {ds : Ds} {m : Mm} {Q : Ds → Mm → List MV → Prop} : WP 142 29 [q0, q1, q2] [(1, s0)] ds m Q = (WP 142 30 [q0, q1, q2] [(0, ji s0)] ds m Q) := P_nx k142_29 rfl
set_option maxRecDepth 20000 in
theorem k142_30 : mjCode 142 30 = some (.i2l, 1, 0, 0) := by decide +kernel
theorem p142_30 {s0 : Int} {q0 q1 q2 : MV} {ds : Ds} {m : Mm} {Q : Ds → Mm → List MV → Prop} : WP 142 30 [q0, q1, q2] [(0, s0)] ds m Q = (WP 142 31 [q0, q1, q2] [(1, s0)] ds m Q) := P_nx k142_30 rfl
set_option maxRecDepth 20000 in
theorem k142_31 : mjCode 142 31 = some (.goto 4, 3, 35, 0) := by decide +kernel
theorem p142_31 {s0 : Int} {q0 q1 q2 : MV} {ds : Ds} {m : Mm} {Q : Ds → Mm → List MV → Prop} : WP 142 31 [q0, q1, q2] [(1, s0)] ds m Q = (WP 142 35 [q0, q1, q2] [(1, s0)] ds m Q) := P_nx k142_31 rfl
set_option maxRecDepth 20000 in
theorem k142_34 : mjCode 142 34 = some (.lload_n 1, 1, 0, 0) := by decide +kernel
theorem p142_34 {l1 : Int} {q0 q2 : MV} {ds : Ds} {m : Mm} {Q : Ds → Mm → List MV → Prop} : WP 142 34 [q0, (1, l1), q2] [] ds m Q = (WP 142 35 [q0, (1, l1), q2] [(1, l1)] ds m Q) := P_nx k142_34 rfl
set_option maxRecDepth 20000 in
theorem k142_35 : mjCode 142 35 = some (.lreturn, 1, 0, 0) := by decide +kernel
theorem p142_35 {s0 : Int} {q0 q1 q2 : MV} {ds : Ds} {m : Mm} {Q : Ds → Mm → List MV → Prop} : WP 142 35 [q0, q1, q2] [(1, s0)] ds m Q = (Q ds m [(1, s0)]) := P_rl k142_35 rk142
set_option maxRecDepth 20000 in
theorem k143_0 : mjCode 143 0 = some (.iload_n 1, 1, 0, 0) := by decide +kernel
theorem p143_0 {l1 : Int} {q0 q2 q3 q4 : MV} {ds : Ds} {m : Mm} {Q : Ds → Mm → List MV → Prop} : WP 143 0 [q0, (0, l1), q2, q3, q4] [] ds m Q = (WP 143 1 [q0, (0, l1), q2, q3, q4] [(0, l1)] ds m Q) := P_nx k143_0 rfl
set_option maxRecDepth 20000 in
theorem k143_1 : mjCode 143 1 = some (.invokestatic 177, 3, 140, 1) := by decide +kernel
theorem p143_1 {s0 : Int} {q0 q1 q2 q3 q4 : MV} {ds : Ds} {m : Mm} {Q : Ds → Mm → List MV → Prop} : WP 143 1 [q0, q1, q2, q3, q4] [(0, s0)] ds m Q = (WP 139 0 [(0, s0)] [] ds m (fun d2 m2 r2 => WP 143 4 [q0, q1, q2, q3, q4] (r2 ++ []) d2 m2 Q)) := P_cs k143_1 mx139 rfl rfl rfl rfl rfl rfl rfl
set_option maxRecDepth 20000 in
theorem k143_4 : mjCode 143 4 = some (.ifCond .ne 9, 3, 13, 0) := by decide +kernel
theorem p143_4 {s0 : Int} {q0 q1 q2 q3 q4 : MV} {ds : Ds} {m : Mm} {Q : Ds → Mm → List MV → Prop} : WP 143 4 [q0, q1, q2, q3, q4] [(0, s0)] ds m Q = (if s0 = 0 then WP 143 7 [q0, q1, q2, q3, q4] [] ds m Q else WP 143 13 [q0, q1, q2, q3, q4] [] ds m Q) := P_if k143_4 rfl
set_option maxRecDepth 20000 in
theorem k143_7 : mjCode 143 7 = some (.aload_n 0, 1, 0, 0) := by decide +kernel
theorem p143_7 {l0 : Int} {q1 q2 q3 q4 : MV} {ds : Ds} {m : Mm} {Q : Ds → Mm → List MV → Prop} : WP 143 7 [(2, l0), q1, q2, q3, q4] [] ds m Q = (WP 143 8 [(2, l0), q1, q2, q3, q4] [(2, l0)] ds m Q) := P_nx k143_7 rfl
set_option maxRecDepth 20000 in
theorem k143_8 : mjCode 143 8 = some (.iconst (-1), 1, 0, 0) := by decide +kernel
theorem p143_8 {s0 : Int} {q0 q1 q2 q3 q4 : MV} {ds : Ds} {m : Mm} {Q : Ds → Mm → List MV → Prop} : WP 143 8 [q0, q1, q2, q3, q4] [(2, s0)] ds m Q = (WP 143 9 [q0, q1, q2, q3, q4] [(0, (-1)), (2, s0)] ds m Q) := P_nx k143_8 rfl
set_option maxRecDepth 20000 in
theorem k143_9 : mjCode 143 9 = some (.invokevirtual 155, 3, 122, 2) := by decide +kernel
theorem p143_9 {s0 s1 : Int} {q0 q1 q2 q3 q4 : MV} {ds : Ds} {m : Mm} {Q : Ds → Mm → List MV → Prop} : WP 143 9 [q0, q1, q2, q3, q4] [(0, s0), (2, s1)] ds m Q = ((dk ds s1 = 7 ∧ WP 121 0 [(2, s1), (0, s0)] [] ds m (fun d2 m2 r2 => WP 143 12 [q0, q1, q2, q3, q4] (r2 ++ []) d2 m2 Q))) := P_cv k143_9 mx121 mo121 rfl rfl rfl rfl rfl rfl rfl rfl
set_option maxRecDepth 20000 in
theorem k143_12 : mjCode 143 12 = some (.ireturn, 1, 0, 0) := by decide +kernel
theorem p143_12 {s0 : Int} {q0 q1 q2 q3 q4 : MV} {ds : Ds} {m : Mm} {Q : Ds → Mm → List MV → Prop} : WP 143 12 [q0, q1, q2, q3, q4] [(0, s0)] ds m Q = (Q ds m [(0, s0)]) := P_ri k143_12 rk143
set_option maxRecDepth 20000 in
theorem k143_13 : mjCode 143 13 = some (.iload_n 3, 1, 0, 0) := by decide +kernel
theorem p143_13 {l3 : Int} {q0 q1 q2 q4 : MV} {ds : Ds} {m : Mm} {Q : Ds → Mm → List MV → Prop} : WP 143 13 [q0, q1, q2, (0, l3), q4] [] ds m Q = (WP 143 14 [q0, q1, q2, (0, l3), q4] [(0, l3)] ds m Q) := P_nx k143_13 rfl
set_option maxRecDepth 20000 in
theorem k143_14 : mjCode 143 14 = some (.ifCond .ge 10, 3, 24, 0) := by decide +kernel
theorem p143_14 {s0 : Int} {q0 q1 q2 q3 q4 : MV} {ds : Ds} {m : Mm} {Q : Ds → Mm → List MV → Prop} : WP 143 14 [q0, q1, q2, q3, q4] [(0, s0)] ds m Q = (if s0 < 0 then WP 143 17 [q0, q1, q2, q3, q4] [] ds m Q else WP 143 24 [q0, q1, q2, q3, q4] [] ds m Q) := P_if k143_14 rfl
set_option maxRecDepth 20000 in
theorem k143_17 : mjCode 143 17 = some (.aload_n 0, 1, 0, 0) := by decide +kernel
theorem p143_17 {l0 : Int} {q1 q2 q3 q4 : MV} {ds : Ds} {m : Mm} {Q : Ds → Mm → List MV → Prop} : WP 143 17 [(2, l0), q1, q2, q3, q4] [] ds m Q = (WP 143 18 [(2, l0), q1, q2, q3, q4] [(2, l0)] ds m Q) := P_nx k143_17 rfl
set_option maxRecDepth 20000 in
theorem k143_18 : mjCode 143 18 = some (.bipush (-4), 2, 0, 0) := by decide +kernel
theorem p143_18 {s0 : Int} {q0 q1 q2 q3 q4 : MV} {ds : Ds} {m : Mm} {Q : Ds → Mm → List MV → Prop} : WP 143 18 [q0, q1, q2, q3, q4] [(2, s0)] ds m Q = (WP 143 20 [q0, q1, q2, q3, q4] [(0, (-4)), (2, s0)] ds m Q) := P_nx k143_18 rfl
set_option maxRecDepth 20000 in
theorem k143_20 : mjCode 143 20 = some (.invokevirtual 155, 3, 122, 2) := by decide +kernel
theorem p143_20 {s0 s1 : Int} {q0 q1 q2 q3 q4 : MV} {ds : Ds} {m : Mm} {Q : Ds → Mm → List MV → Prop} : WP 143 20 [q0, q1, q2, q3, q4] [(0, s0), (2, s1)] ds m Q = ((dk ds s1 = 7 ∧ WP 121 0 [(2, s1), (0, s0)] [] ds m (fun d2 m2 r2 => WP 143 23 [q0, q1, q2, q3, q4] (r2 ++ []) d2 m2 Q))) := P_cv k143_20 mx121 mo121 rfl rfl rfl rfl rfl rfl rfl rfl
set_option maxRecDepth 20000 in
theorem k143_23 : mjCode 143 23 = some (.ireturn, 1, 0, 0) := by decide +kernel
theorem p143_23 {s0 : Int} {q0 q1 q2 q3 q4 : MV} {ds : Ds} {m : Mm} {Q : Ds → Mm → List MV → Prop} : WP 143 23 [q0, q1, q2, q3, q4] [(0, s0)] ds m Q = (Q ds m [(0, s0)]) := P_ri k143_23 rk143
set_option maxRecDepth 20000 in
theorem k143_24 : mjCode 143 24 = some (.iload_n 2, 1, 0, 0) := by decide +kernel
theorem p143_24 {l2 : Int} {q0 q1 q3 q4 : MV} {ds : Ds} {m : Mm} {Q : Ds → Mm → List MV → Prop} : WP 143 24 [q0, q1, (0, l2), q3, q4] [] ds m Q = (WP 143 25 [q0, q1, (0, l2), q3, q4] [(0, l2)] ds m Q) := P_nx k143_24 rfl
set_option maxRecDepth 20000 in
theorem k143_25 : mjCode 143 25 = some (.iconst 0, 1, 0, 0) := by decide +kernel
theorem p143_25 {s0 : Int} {q0 q1 q2 q3 q4 : MV} {ds : Ds} {m : Mm} {Q : Ds → Mm → List MV → Prop} : WP 143 25 [q0, q1, q2, q3, q4] [(0, s0)] ds m Q = (WP 143 26 [q0, q1, q2, q3, q4] [(0, 0), (0, s0)] ds m Q) := P_nx k143_25 rfl
set_option maxRecDepth 20000 in
theorem k143_26 : mjCode 143 26 = some (.iconst 3, 1, 0, 0) := by decide +kernel
theorem p143_26 {s0 s1 : Int} {q0 q1 q2 q3 q4 : MV} {ds : Ds} {m : Mm} {Q : Ds → Mm → List MV → Prop} : WP 143 26 [q0, q1, q2, q3, q4] [(0, s0), (0, s1)] ds m Q = (WP 143 27 [q0, q1, q2, q3, q4] [(0, 3), (0, s0), (0, s1)] ds m Q) := P_nx k143_26 rfl
set_option maxRecDepth 20000 in
theorem k143_27 : mjCode 143 27 = some (.invokestatic 141, 3, 121, 3) := by decide +kernel
theorem p143_27 {s0 s1 s2 : Int} {q0 q1 q2 q3 q4 : MV} {ds : Ds} {m : Mm} {Q : Ds → Mm → List MV → Prop} : WP 143 27 [q0, q1, q2, q3, q4] [(0, s0), (0, s1), (0, s2)] ds m Q = (WP 120 0 [(0, s2), (0, s1), (0, s0)] [] ds m (fun d2 m2 r2 => WP 143 30 [q0, q1, q2, q3, q4] (r2 ++ []) d2 m2 Q)) := P_cs k143_27 mx120 rfl rfl rfl rfl rfl rfl rfl
set_option maxRecDepth 20000 in
theorem k143_30 : mjCode 143 30 = some (.ifCond .ne 10, 3, 40, 0) := by decide +kernel
theorem p143_30 {s0 : Int} {q0 q1 q2 q3 q4 : MV} {ds : Ds} {m : Mm} {Q : Ds → Mm → List MV → Prop} : WP 143 30 [q0, q1, q2, q3, q4] [(0, s0)] ds m Q = (if s0 = 0 then WP 143 33 [q0, q1, q2, q3, q4] [] ds m Q else WP 143 40 [q0, q1, q2, q3, q4] [] ds m Q) := P_if k143_30 rfl
set_option maxRecDepth 20000 in
theorem k143_33 : mjCode 143 33 = some (.aload_n 0, 1, 0, 0) := by decide +kernel
theorem p143_33 {l0 : Int} {q1 q2 q3 q4 : MV} {ds : Ds} {m : Mm} {Q : Ds → Mm → List MV → Prop} : WP 143 33 [(2, l0), q1, q2, q3, q4] [] ds m Q = (WP 143 34 [(2, l0), q1, q2, q3, q4] [(2, l0)] ds m Q) := P_nx k143_33 rfl
set_option maxRecDepth 20000 in
theorem k143_34 : mjCode 143 34 = some (.bipush (-6), 2, 0, 0) := by decide +kernel
theorem p143_34 {s0 : Int} {q0 q1 q2 q3 q4 : MV} {ds : Ds} {m : Mm} {Q : Ds → Mm → List MV → Prop} : WP 143 34 [q0, q1, q2, q3, q4] [(2, s0)] ds m Q = (WP 143 36 [q0, q1, q2, q3, q4] [(0, (-6)), (2, s0)] ds m Q) := P_nx k143_34 rfl
set_option maxRecDepth 20000 in
theorem k143_36 : mjCode 143 36 = some (.invokevirtual 155, 3, 122, 2) := by decide +kernel
theorem p143_36 {s0 s1 : Int} {q0 q1 q2 q3 q4 : MV} {ds : Ds} {m : Mm} {Q : Ds → Mm → List MV → Prop} : WP 143 36 [q0, q1, q2, q3, q4] [(0, s0), (2, s1)] ds m Q = ((dk ds s1 = 7 ∧ WP 121 0 [(2, s1), (0, s0)] [] ds m (fun d2 m2 r2 => WP 143 39 [q0, q1, q2, q3, q4] (r2 ++ []) d2 m2 Q))) := P_cv k143_36 mx121 mo121 rfl rfl rfl rfl rfl rfl rfl rfl
set_option maxRecDepth 20000 in
theorem k143_39 : mjCode 143 39 = some (.ireturn, 1, 0, 0) := by decide +kernel
theorem p143_39 {s0 : Int} {q0 q1 q2 q3 q4 : MV} {ds : Ds} {m : Mm} {Q : Ds → Mm → List MV → Prop} : WP 143 39 [q0, q1, q2, q3, q4] [(0, s0)] ds m Q = (Q ds m [(0, s0)]) := P_ri k143_39 rk143
set_option maxRecDepth 20000 in
theorem k143_40 : mjCode 143 40 = some (.iload_n 3, 1, 0, 0) := by decide +kernel
theorem p143_40 {l3 : Int} {q0 q1 q2 q4 : MV} {ds : Ds} {m : Mm} {Q : Ds → Mm → List MV → Prop} : WP 143 40 [q0, q1, q2, (0, l3), q4] [] ds m Q = (WP 143 41 [q0, q1, q2, (0, l3), q4] [(0, l3)] ds m Q) := P_nx k143_40 rfl
set_option maxRecDepth 20000 in
theorem k143_41 : mjCode 143 41 = some (.bipush 100, 2, 0, 0) := by decide +kernel
theorem p143_41 {s0 : Int} {q0 q1 q2 q3 q4 : MV} {ds : Ds} {m : Mm} {Q : Ds → Mm → List MV → Prop} : WP 143 41 [q0, q1, q2, q3, q4] [(0, s0)] ds m Q = (WP 143 43 [q0, q1, q2, q3, q4] [(0, 100), (0, s0)] ds m Q) := P_nx k143_41 rfl
set_option maxRecDepth 20000 in
theorem k143_43 : mjCode 143 43 = some (.if_icmp .le 10, 3, 53, 0) := by decide +kernel
theorem p143_43 {s0 s1 : Int} {q0 q1 q2 q3 q4 : MV} {ds : Ds} {m : Mm} {Q : Ds → Mm → List MV → Prop} : WP 143 43 [q0, q1, q2, q3, q4] [(0, s0), (0, s1)] ds m Q = (if s0 < s1 then WP 143 46 [q0, q1, q2, q3, q4] [] ds m Q else WP 143 53 [q0, q1, q2, q3, q4] [] ds m Q) := P_if k143_43 rfl
set_option maxRecDepth 20000 in
theorem k143_46 : mjCode 143 46 = some (.aload_n 0, 1, 0, 0) := by decide +kernel
theorem p143_46 {l0 : Int} {q1 q2 q3 q4 : MV} {ds : Ds} {m : Mm} {Q : Ds → Mm → List MV → Prop} : WP 143 46 [(2, l0), q1, q2, q3, q4] [] ds m Q = (WP 143 47 [(2, l0), q1, q2, q3, q4] [(2, l0)] ds m Q) := P_nx k143_46 rfl
set_option maxRecDepth 20000 in
theorem k143_47 : mjCode 143 47 = some (.bipush (-7), 2, 0, 0) := by decide +kernel
theorem p143_47 {s0 : Int} {q0 q1 q2 q3 q4 : MV} {ds : Ds} {m : Mm} {Q : Ds → Mm → List MV → Prop} : WP 143 47 [q0, q1, q2, q3, q4] [(2, s0)] ds m Q = (WP 143 49 [q0, q1, q2, q3, q4] [(0, (-7)), (2, s0)] ds m Q) := P_nx k143_47 rfl
set_option maxRecDepth 20000 in
theorem k143_49 : mjCode 143 49 = some (.invokevirtual 155, 3, 122, 2) := by decide +kernel
theorem p143_49 {s0 s1 : Int} {q0 q1 q2 q3 q4 : MV} {ds : Ds} {m : Mm} {Q : Ds → Mm → List MV → Prop} : WP 143 49 [q0, q1, q2, q3, q4] [(0, s0), (2, s1)] ds m Q = ((dk ds s1 = 7 ∧ WP 121 0 [(2, s1), (0, s0)] [] ds m (fun d2 m2 r2 => WP 143 52 [q0, q1, q2, q3, q4] (r2 ++ []) d2 m2 Q))) := P_cv k143_49 mx121 mo121 rfl rfl rfl rfl rfl rfl rfl rfl
set_option maxRecDepth 20000 in
theorem k143_52 : mjCode 143 52 = some (.ireturn, 1, 0, 0) := by decide +kernel
theorem p143_52 {s0 : Int} {q0 q1 q2 q3 q4 : MV} {ds : Ds} {m : Mm} {Q : Ds → Mm → List MV → Prop} : WP 143 52 [q0, q1, q2, q3, q4] [(0, s0)] ds m Q = (Q ds m [(0, s0)]) := P_ri k143_52 rk143
set_option maxRecDepth 20000 in
theorem k143_53 : mjCode 143 53 = some (.aload_n 0, 1, 0, 0) := by decide +kernel
theorem p143_53 {l0 : Int} {q1 q2 q3 q4 : MV} {ds : Ds} {m : Mm} {Q : Ds → Mm → List MV → Prop} : WP 143 53 [(2, l0), q1, q2, q3, q4] [] ds m Q = (WP 143 54 [(2, l0), q1, q2, q3, q4] [(2, l0)] ds m Q) := P_nx k143_53 rfl
set_option maxRecDepth 20000 in
theorem k143_54 : mjCode 143 54 = some (.getfield 38, 3, 7, 11) := by decide +kernel
theorem p143_54 {s0 : Int} {q0 q1 q2 q3 q4 : MV} {ds : Ds} {m : Mm} {Q : Ds → Mm → List MV → Prop} : WP 143 54 [q0, q1, q2, q3, q4] [(2, s0)] ds m Q = ((dk ds s0 = 7 ∧ WP 143 57 [q0, q1, q2, q3, q4] [(2, m s0 11)] ds m Q)) := P_gd k143_54 rfl
set_option maxRecDepth 20000 in
theorem k143_57 : mjCode 143 57 = some (.iload_n 1, 1, 0, 0) := by decide +kernel
theorem p143_57 {l1 s0 : Int} {q0 q2 q3 q4 : MV} {ds : Ds} {m : Mm} {Q : Ds → Mm → List MV → Prop} : WP 143 57 [q0, (0, l1), q2, q3, q4] [(2, s0)] ds m Q = (WP 143 58 [q0, (0, l1), q2, q3, q4] [(0, l1), (2, s0)] ds m Q) := P_nx k143_57 rfl
set_option maxRecDepth 20000 in
theorem k143_58 : mjCode 143 58 = some (.bipush 100, 2, 0, 0) := by decide +kernel
theorem p143_58 {s0 s1 : Int} {q0 q1 q2 q3 q4 : MV} {ds : Ds} {m : Mm} {Q : Ds → Mm → List MV → Prop} : WP 143 58 [q0, q1, q2, q3, q4] [(0, s0), (2, s1)] ds m Q = (WP 143 60 [q0, q1, q2, q3, q4] [(0, 100), (0, s0), (2, s1)] ds m Q) := P_nx k143_58 rfl
set_option maxRecDepth 20000 in
theorem k143_60 : mjCode 143 60 = some (.iload_n 2, 1, 0, 0) := by decide +kernel
theorem p143_60 {l2 s0 s1 s2 : Int} {q0 q1 q3 q4 : MV} {ds : Ds} {m : Mm} {Q : Ds → Mm → List MV → Prop} : WP 143 60 [q0, q1, (0, l2), q3, q4] [(0, s0), (0, s1), (2, s2)] ds m Q = (WP 143 61 [q0, q1, (0, l2), q3, q4] [(0, l2), (0, s0), (0, s1), (2, s2)] ds m Q) := P_nx k143_60 rfl
set_option maxRecDepth 20000 in
theorem k143_61 : mjCode 143 61 = some (.iadd, 1, 0, 0) := by decide +kernel
theorem p143_61 {s0 s1 s2 s3 : Int} {q0 q1 q2 q3 q4 : MV} {ds : Ds} {m : Mm} {Q : Ds → Mm → List MV → Prop} : WP 143 61 [q0, q1, q2, q3, q4] [(0, s0), (0, s1), (0, s2), (2, s3)] ds m Q = (WP 143 62 [q0, q1, q2, q3, q4] [(0, w32 (s1 + s0)), (0, s2), (2, s3)] ds m Q) := P_nx k143_61 rfl
set_option maxRecDepth 20000 in
theorem k143_62 : mjCode 143 62 = some (.iastore, 1, 0, 0) := by decide +kernel
theorem p143_62 {s0 s1 s2 : Int} {q0 q1 q2 q3 q4 : MV} {ds : Ds} {m : Mm} {Q : Ds → Mm → List MV → Prop} : WP 143 62 [q0, q1, q2, q3, q4] [(0, s0), (0, s1), (2, s2)] ds m Q = ((dk ds s2 = 10 ∧ 0 ≤ s1 ∧ s1 < dl ds s2 ∧ WP 143 63 [q0, q1, q2, q3, q4] [] ds (up m s2 s1 s0) Q)) := P_s3 k143_62 rfl
set_option maxRecDepth 20000 in
theorem k143_63 : mjCode 143 63 = some (.aload_n 0, 1, 0, 0) := by decide +kernel
theorem p143_63 {l0 : Int} {q1 q2 q3 q4 : MV} {ds : Ds} {m : Mm} {Q : Ds → Mm → List MV → Prop} : WP 143 63 [(2, l0), q1, q2, q3, q4] [] ds m Q = (WP 143 64 [(2, l0), q1, q2, q3, q4] [(2, l0)] ds m Q) := P_nx k143_63 rfl
set_option maxRecDepth 20000 in
theorem k143_64 : mjCode 143 64 = some (.getfield 41, 3, 7, 12) := by decide +kernel
theorem p143_64 {s0 : Int} {q0 q1 q2 q3 q4 : MV} {ds : Ds} {m : Mm} {Q : Ds → Mm → List MV → Prop} : WP 143 64 [q0, q1, q2, q3, q4] [(2, s0)] ds m Q = ((dk ds s0 = 7 ∧ WP 143 67 [q0, q1, q2, q3, q4] [(2, m s0 12)] ds m Q)) := P_gd k143_64 rfl
set_option maxRecDepth 20000 in
theorem k143_67 : mjCode 143 67 = some (.iload_n 1, 1, 0, 0) := by decide +kernel
theorem p143_67 {l1 s0 : Int} {q0 q2 q3 q4 : MV} {ds : Ds} {m : Mm} {Q : Ds → Mm → List MV → Prop} : WP 143 67 [q0, (0, l1), q2, q3, q4] [(2, s0)] ds m Q = (WP 143 68 [q0, (0, l1), q2, q3, q4] [(0, l1), (2, s0)] ds m Q) := P_nx k143_67 rfl
set_option maxRecDepth 20000 in
theorem k143_68 : mjCode 143 68 = some (.iload_n 3, 1, 0, 0) := by decide +kernel
theorem p143_68 {l3 s0 s1 : Int} {q0 q1 q2 q4 : MV} {ds : Ds} {m : Mm} {Q : Ds → Mm → List MV → Prop} : WP 143 68 [q0, q1, q2, (0, l3), q4] [(0, s0), (2, s1)] ds m Q = (WP 143 69 [q0, q1, q2, (0, l3), q4] [(0, l3), (0, s0), (2, s1)] ds m Q) := P_nx k143_68 rfl
set_option maxRecDepth 20000 in
theorem k143_69 : mjCode 143 69 = some (.iastore, 1, 0, 0) := by decide +kernel
theorem p143_69 {s0 s1 s2 : Int} {q0 q1 q2 q3 q4 : MV} {ds : Ds} {m : Mm} {Q : Ds → Mm → List MV → Prop} : WP 143 69 [q0, q1, q2, q3, q4] [(0, s0), (0, s1), (2, s2)] ds m Q = ((dk ds s2 = 10 ∧ 0 ≤ s1 ∧ s1 < dl ds s2 ∧ WP 143 70 [q0, q1, q2, q3, q4] [] ds (up m s2 s1 s0) Q)) := P_s3 k143_69 rfl
set_option maxRecDepth 20000 in
theorem k143_70 : mjCode 143 70 = some (.iconst 0, 1, 0, 0) := by decide +kernel
theorem p143_70 {q0 q1 q2 q3 q4 : MV} {ds : Ds} {m : Mm} {Q : Ds → Mm → List MV → Prop} : WP 143 70 [q0, q1, q2, q3, q4] [] ds m Q = (WP 143 71 [q0, q1, q2, q3, q4] [(0, 0)] ds m Q) := P_nx k143_70 rfl
set_option maxRecDepth 20000 in
theorem k143_71 : mjCode 143 71 = some (.istore 4, 2, 0, 0) := by decide +kernel
theorem p143_71 {l3 s0 : Int} {q0 q1 q2 q4 : MV} {ds : Ds} {m : Mm} {Q : Ds → Mm → List MV → Prop} : WP 143 71 [q0, q1, q2, (0, l3), q4] [(0, s0)] ds m Q = (WP 143 73 [q0, q1, q2, (0, l3), (0, s0)] [] ds m Q) := P_nx k143_71 rfl
set_option maxRecDepth 20000 in
theorem k143_73 : mjCode 143 73 = some (.iload 4, 2, 0, 0) := by decide +kernel
theorem p143_73 {l4 : Int} {q0 q1 q2 q3 : MV} {ds : Ds} {m : Mm} {Q : Ds → Mm → List MV → Prop} : WP 143 73 [q0, q1, q2, q3, (0, l4)] [] ds m Q = (WP 143 75 [q0, q1, q2, q3, (0, l4)] [(0, l4)] ds m Q) := P_nx k143_73 rfl
set_option maxRecDepth 20000 in
theorem k143_75 : mjCode 143 75 = some (.bipush 100, 2, 0, 0) := by decide +kernel
theorem p143_75 {s0 : Int} {q0 q1 q2 q3 q4 : MV} {ds : Ds} {m : Mm} {Q : Ds → Mm → List MV → Prop} : WP 143 75 [q0, q1, q2, q3, q4] [(0, s0)] ds m Q = (WP 143 77 [q0, q1, q2, q3, q4] [(0, 100), (0, s0)] ds m Q) := P_nx k143_75 rfl
set_option maxRecDepth 20000 in
theorem k143_77 : mjCode 143 77 = some (.if_icmp .ge 22, 3, 99, 0) := by decide +kernel
theorem p143_77 {s0 s1 : Int} {q0 q1 q2 q3 q4 : MV} {ds : Ds} {m : Mm} {Q : Ds → Mm → List MV → Prop} : WP 143 77 [q0, q1, q2, q3, q4] [(0, s0), (0, s1)] ds m Q = (if s1 < s0 then WP 143 80 [q0, q1, q2, q3, q4] [] ds m Q else WP 143 99 [q0, q1, q2, q3, q4] [] ds m Q) := P_if k143_77 rfl
set_option maxRecDepth 20000 in
theorem k143_80 : mjCode 143 80 = some (.aload_n 0, 1, 0, 0) := by decide +kernel
theorem p143_80 {l0 : Int} {q1 q2 q3 q4 : MV} {ds : Ds} {m : Mm} {Q : Ds → Mm → List MV → Prop} : WP 143 80 [(2, l0), q1, q2, q3, q4] [] ds m Q = (WP 143 81 [(2, l0), q1, q2, q3, q4] [(2, l0)] ds m Q) := P_nx k143_80 rfl
set_option maxRecDepth 20000 in
theorem k143_81 : mjCode 143 81 = some (.getfield 44, 3, 7, 13) := by decide +kernel
theorem p143_81 {s0 : Int} {q0 q1 q2 q3 q4 : MV} {ds : Ds} {m : Mm} {Q : Ds → Mm → List MV → Prop} : WP 143 81 [q0, q1, q2, q3, q4] [(2, s0)] ds m Q = ((dk ds s0 = 7 ∧ WP 143 84 [q0, q1, q2, q3, q4] [(2, m s0 13)] ds m Q)) := P_gd k143_81 rfl
set_option maxRecDepth 20000 in
theorem k143_84 : mjCode 143 84 = some (.bipush 100, 2, 0, 0) := by decide +kernel
theorem p143_84 {s0 : Int} {q0 q1 q2 q3 q4 : MV} {ds : Ds} {m : Mm} {Q : Ds → Mm → List MV → Prop} : WP 143 84 [q0, q1, q2, q3, q4] [(2, s0)] ds m Q = (WP 143 86 [q0, q1, q2, q3, q4] [(0, 100), (2, s0)] ds m Q) := P_nx k143_84 rfl
set_option maxRecDepth 20000 in
theorem k143_86 : mjCode 143 86 = some (.iload_n 1, 1, 0, 0) := by decide +kernel
theorem p143_86 {l1 s0 s1 : Int} {q0 q2 q3 q4 : MV} {ds : Ds} {m : Mm} {Q : Ds → Mm → List MV → Prop} : WP 143 86 [q0, (0, l1), q2, q3, q4] [(0, s0), (2, s1)] ds m Q = (WP 143 87 [q0, (0, l1), q2, q3, q4] [(0, l1), (0, s0), (2, s1)] ds m Q) := P_nx k143_86 rfl
set_option maxRecDepth 20000 in
theorem k143_87 : mjCode 143 87 = some (.imul, 1, 0, 0) := by decide +kernel
theorem p143_87 {s0 s1 s2 : Int} {q0 q1 q2 q3 q4 : MV} {ds : Ds} {m : Mm} {Q : Ds → Mm → List MV → Prop} : WP 143 87 [q0, q1, q2, q3, q4] [(0, s0), (0, s1), (2, s2)] ds m Q = (WP 143 88 [q0, q1, q2, q3, q4] [(0, w32 (s1 * s0)), (2, s2)] ds m Q) := P_nx k143_87 rfl
set_option maxRecDepth 20000 in
theorem k143_88 : mjCode 143 88 = some (.iload 4, 2, 0, 0) := by decide +kernel
theorem p143_88 {l4 s0 s1 : Int} {q0 q1 q2 q3 : MV} {ds : Ds} {m : Mm} {Q : Ds → Mm → List MV → Prop} : WP 143 88 [q0, q1, q2, q3, (0, l4)] [(0, s0), (2, s1)] ds m Q = (WP 143 90 [q0, q1, q2, q3, (0, l4)] [(0, l4), (0, s0), (2, s1)] ds m Q) := P_nx k143_88 rfl
set_option maxRecDepth 20000 in
theorem k143_90 : mjCode 143 90 = some (.iadd, 1, 0, 0) := by decide +kernel
theorem p143_90 {s0 s1 s2 : Int} {q0 q1 q2 q3 q4 : MV} {ds : Ds} {m : Mm} {Q : Ds → Mm → List MV → Prop} : WP 143 90 [q0, q1, q2, q3, q4] [(0, s0), (0, s1), (2, s2)] ds m Q = (WP 143 91 [q0, q1, q2, q3, q4] [(0, w32 (s1 + s0)), (2, s2)] ds m Q) := P_nx k143_90 rfl
set_option maxRecDepth 20000 in
theorem k143_91 : mjCode 143 91 = some (.lconst 0, 1, 0, 0) := by decide +kernel
theorem p143_91 {s0 s1 : Int} {q0 q1 q2 q3 q4 : MV} {ds : Ds} {m : Mm} {Q : Ds → Mm → List MV → Prop} : WP 143 91 [q0, q1, q2, q3, q4] [(0, s0), (2, s1)] ds m Q = (WP 143 92 [q0, q1, q2, q3, q4] [(1, 0), (0, s0), (2, s1)] ds m Q) := P_nx k143_91 rfl
set_option maxRecDepth 20000 in
theorem k143_92 : mjCode 143 92 = some (.lastore, 1, 0, 0) := by decide +kernel
theorem p143_92 {s0 s1 s2 : Int} {q0 q1 q2 q3 q4 : MV} {ds : Ds} {m : Mm} {Q : Ds → Mm → List MV → Prop} : WP 143 92 [q0, q1, q2, q3, q4] [(1, s0), (0, s1), (2, s2)] ds m Q = ((dk ds s2 = 12 ∧ 0 ≤ s1 ∧ s1 < dl ds s2 ∧ WP 143 93 [q0, q1, q2, q3, q4] [] ds (up m s2 s1 s0) Q)) := P_s3 k143_92 rfl
set_option maxRecDepth 20000 in
theorem k143_93 : mjCode 143 93 = some (.iinc 4 1, 3, 0, 0) := by decide +kernel
theorem p143_93 {l4 : Int} {q0 q1 q2 q3 : MV} {ds : Ds} {m : Mm} {Q : Ds → Mm → List MV → Prop} : WP 143 93 [q0, q1, q2, q3, (0, l4)] [] ds m Q = (WP 143 96 [q0, q1, q2, q3, (0, w32 (l4 + 1))] [] ds m Q) := P_nx k143_93 rfl
set_option maxRecDepth 20000 in
theorem k143_96 : mjCode 143 96 = some (.goto (-23), 3, 73, 0) := by decide +kernel
theorem p143_96 {q0 q1 q2 q3 q4 : MV} {ds : Ds} {m : Mm} {Q : Ds → Mm → List MV → Prop} : WP 143 96 [q0, q1, q2, q3, q4] [] ds m Q = (WP 143 73 [q0, q1, q2, q3, q4] [] ds m Q) := P_nx k143_96 rfl
set_option maxRecDepth 20000 in
theorem k143_99 : mjCode 143 99 = some (.iconst 1, 1, 0, 0) := by decide +kernel
theorem p143_99 {q0 q1 q2 q3 q4 : MV} {ds : Ds} {m : Mm} {Q : Ds → Mm → List MV → Prop} : WP 143 99 [q0, q1, q2, q3, q4] [] ds m Q = (WP 143 100 [q0, q1, q2, q3, q4] [(0, 1)] ds m Q) := P_nx k143_99 rfl
set_option maxRecDepth 20000 in
theorem k143_100 : mjCode 143 100 = some (.ireturn, 1, 0, 0) := by decide +kernel
theorem p143_100 {s0 : Int} {q0 q1 q2 q3 q4 : MV} {ds : Ds} {m : Mm} {Q : Ds → Mm → List MV → Prop} : WP 143 100 [q0, q1, q2, q3, q4] [(0, s0)] ds m Q = (Q ds m [(0, s0)]) := P_ri k143_100 rk143
set_option maxRecDepth 20000 in
theorem k144_0 : mjCode 144 0 = some (.aload_n 0, 1, 0, 0) := by decide +kernel
theorem p144_0 {l0 : Int} {q1 q2 q3 q4 q5 : MV} {ds : Ds} {m : Mm} {Q : Ds → Mm → List MV → Prop} : WP 144 0 [(2, l0), q1, q2, q3, q4, q5] [] ds m Q = (WP 144 1 [(2, l0), q1, q2, q3, q4, q5] [(2, l0)] ds m Q) := P_nx k144_0 rfl
set_option maxRecDepth 20000 in
theorem k144_1 : mjCode 144 1 = some (.iload_n 1, 1, 0, 0) := by decide +kernel
theorem p144_1 {l1 s0 : Int} {q0 q2 q3 q4 q5 : MV} {ds : Ds} {m : Mm} {Q : Ds → Mm → List MV → Prop} : WP 144 1 [q0, (0, l1), q2, q3, q4, q5] [(2, s0)] ds m Q = (WP 144 2 [q0, (0, l1), q2, q3, q4, q5] [(0, l1), (2, s0)] ds m Q) := P_nx k144_1 rfl
set_option maxRecDepth 20000 in
theorem k144_2 : mjCode 144 2 = some (.invokevirtual 183, 3, 142, 2) := by decide +kernel
theorem p144_2 {s0 s1 : Int} {q0 q1 q2 q3 q4 q5 : MV} {ds : Ds} {m : Mm} {Q : Ds → Mm → List MV → Prop} : WP 144 2 [q0, q1, q2, q3, q4, q5] [(0, s0), (2, s1)] ds m Q = ((dk ds s1 = 7 ∧ WP 141 0 [(2, s1), (0, s0)] [] ds m (fun d2 m2 r2 => WP 144 5 [q0, q1, q2, q3, q4, q5] (r2 ++ []) d2 m2 Q))) := P_cv k144_2 mx141 mo141 rfl rfl rfl rfl rfl rfl rfl rfl
set_option maxRecDepth 20000 in
theorem k144_5 : mjCode 144 5 = some (.istore 5, 2, 0, 0) := by decide +kernel
theorem p144_5 {l4 s0 : Int} {q0 q1 q2 q3 q5 : MV} {ds : Ds} {m : Mm} {Q : Ds → Mm → List MV → Prop} : WP 144 5 [q0, q1, q2, q3, (3, l4), q5] [(0, s0)] ds m Q = (WP 144 7 [q0, q1, q2, q3, (3, l4), (0, s0)] [] ds m Q) := P_nx k144_5 rfl
set_option maxRecDepth 20000 in
theorem k144_7 : mjCode 144 7 = some (.iload 5, 2, 0, 0) := by decide +kernel
theorem p144_7 {l5 : Int} {q0 q1 q2 q3 q4 : MV} {ds : Ds} {m : Mm} {Q : Ds → Mm → List MV → Prop} : WP 144 7 [q0, q1, q2, q3, q4, (0, l5)] [] ds m Q = (WP 144 9 [q0, q1, q2, q3, q4, (0, l5)] [(0, l5)] ds m Q) := P_nx k144_7 rfl
set_option maxRecDepth 20000 in
theorem k144_9 : mjCode 144 9 = some (.ifCond .eq 10, 3, 19, 0) := by decide +kernel
theorem p144_9 {s0 : Int} {q0 q1 q2 q3 q4 q5 : MV} {ds : Ds} {m : Mm} {Q : Ds → Mm → List MV → Prop} : WP 144 9 [q0, q1, q2, q3, q4, q5] [(0, s0)] ds m Q = (if s0 = 0 then WP 144 19 [q0, q1, q2, q3, q4, q5] [] ds m Q else WP 144 12 [q0, q1, q2, q3, q4, q5] [] ds m Q) := P_if k144_9 rfl
set_option maxRecDepth 20000 in
theorem k144_12 : mjCode 144 12 = some (.aload_n 0, 1, 0, 0) := by decide +kernel
theorem p144_12 {l0 : Int} {q1 q2 q3 q4 q5 : MV} {ds : Ds} {m : Mm} {Q : Ds → Mm → List MV → Prop} : WP 144 12 [(2, l0), q1, q2, q3, q4, q5] [] ds m Q = (WP 144 13 [(2, l0), q1, q2, q3, q4, q5] [(2, l0)] ds m Q) := P_nx k144_12 rfl
set_option maxRecDepth 20000 in
theorem k144_13 : mjCode 144 13 = some (.iload 5, 2, 0, 0) := by decide +kernel
theorem p144_13 {l5 s0 : Int} {q0 q1 q2 q3 q4 : MV} {ds : Ds} {m : Mm} {Q : Ds → Mm → List MV → Prop} : WP 144 13 [q0, q1, q2, q3, q4, (0, l5)] [(2, s0)] ds m Q = (WP 144 15 [q0, q1, q2, q3, q4, (0, l5)] [(0, l5), (2, s0)] ds m Q) := P_nx k144_13 rfl
set_option maxRecDepth 20000 in
theorem k144_15 : mjCode 144 15 = some (.invokevirtual 155, 3, 122, 2) := by decide +kernel
theorem p144_15 {s0 s1 : Int} {q0 q1 q2 q3 q4 q5 : MV} {ds : Ds} {m : Mm} {Q : Ds → Mm → List MV → Prop} : WP 144 15 [q0, q1, q2, q3, q4, q5] [(0, s0), (2, s1)] ds m Q = ((dk ds s1 = 7 ∧ WP 121 0 [(2, s1), (0, s0)] [] ds m (fun d2 m2 r2 => WP 144 18 [q0, q1, q2, q3, q4, q5] (r2 ++ []) d2 m2 Q))) := P_cv k144_15 mx121 mo121 rfl rfl rfl rfl rfl rfl rfl rfl
set_option maxRecDepth 20000 in
theorem k144_18 : mjCode 144 18 = some (.ireturn, 1, 0, 0) := by decide +kernel
theorem p144_18 {s0 : Int} {q0 q1 q2 q3 q4 q5 : MV} {ds : Ds} {m : Mm} {Q : Ds → Mm → List MV → Prop} : WP 144 18 [q0, q1, q2, q3, q4, q5] [(0, s0)] ds m Q = (Q ds m [(0, s0)]) := P_ri k144_18 rk144
set_option maxRecDepth 20000 in
theorem k144_19 : mjCode 144 19 = some (.iload_n 2, 1, 0, 0) := by decide +kernel
theorem p144_19 {l2 : Int} {q0 q1 q3 q4 q5 : MV} {ds : Ds} {m : Mm} {Q : Ds → Mm → List MV → Prop} : WP 144 19 [q0, q1, (0, l2), q3, q4, q5] [] ds m Q = (WP 144 20 [q0, q1, (0, l2), q3, q4, q5] [(0, l2)] ds m Q) := P_nx k144_19 rfl
set_option maxRecDepth 20000 in
theorem k144_20 : mjCode 144 20 = some (.iconst 0, 1, 0, 0) := by decide +kernel
theorem p144_20 {s0 : Int} {q0 q1 q2 q3 q4 q5 : MV} {ds : Ds} {m : Mm} {Q : Ds → Mm → List MV → Prop} : WP 144 20 [q0, q1, q2, q3, q4, q5] [(0, s0)] ds m Q = (WP 144 21 [q0, q1, q2, q3, q4, q5] [(0, 0), (0, s0)] ds m Q) := P_nx k144_20 rfl
set_option maxRecDepth 20000 in
theorem k144_21 : mjCode 144 21 = some (.aload_n 0, 1, 0, 0) := by decide +kernel
theorem p144_21 {l0 s0 s1 : Int} {q1 q2 q3 q4 q5 : MV} {ds : Ds} {m : Mm} {Q : Ds → Mm → List MV → Prop} : WP 144 21 [(2, l0), q1, q2, q3, q4, q5] [(0, s0), (0, s1)] ds m Q = (WP 144 22 [(2, l0), q1, q2, q3, q4, q5] [(2, l0), (0, s0), (0, s1)] ds m Q) := P_nx k144_21 rfl
set_option maxRecDepth 20000 in
theorem k144_22 : mjCode 144 22 = some (.getfield 41, 3, 7, 12) := by decide +kernel
theorem p144_22 {s0 s1 s2 : Int} {q0 q1 q2 q3 q4 q5 : MV} {ds : Ds} {m : Mm} {Q : Ds → Mm → List MV → Prop} : WP 144 22 [q0, q1, q2, q3, q4, q5] [(2, s0), (0, s1), (0, s2)] ds m Q = ((dk ds s0 = 7 ∧ WP 144 25 [q0, q1, q2, q3, q4, q5] [(2, m s0 12), (0, s1), (0, s2)] ds m Q)) := P_gd k144_22 rfl
set_option maxRecDepth 20000 in
theorem k144_25 : mjCode 144 25 = some (.iload_n 1, 1, 0, 0) := by decide +kernel
theorem p144_25 {l1 s0 s1 s2 : Int} {q0 q2 q3 q4 q5 : MV} {ds : Ds} {m : Mm} {Q : Ds → Mm → List MV → Prop} : WP 144 25 [q0, (0, l1), q2, q3, q4, q5] [(2, s0), (0, s1), (0, s2)] ds m Q = (WP 144 26 [q0, (0, l1), q2, q3, q4, q5] [(0, l1), (2, s0), (0, s1), (0, s2)] ds m Q) := P_nx k144_25 rfl
set_option maxRecDepth 20000 in
theorem k144_26 : mjCode 144 26 = some (.iaload, 1, 0, 0) := by decide +kernel
theorem p144_26 {s0 s1 s2 s3 : Int} {q0 q1 q2 q3 q4 q5 : MV} {ds : Ds} {m : Mm} {Q : Ds → Mm → List MV → Prop} : WP 144 26 [q0, q1, q2, q3, q4, q5] [(0, s0), (2, s1), (0, s2), (0, s3)] ds m Q = ((dk ds s1 = 10 ∧ 0 ≤ s0 ∧ s0 < dl ds s1 ∧ WP 144 27 [q0, q1, q2, q3, q4, q5] [(0, m s1 s0), (0, s2), (0, s3)] ds m Q)) := P_g3 k144_26 rfl
set_option maxRecDepth 20000 in
theorem k144_27 : mjCode 144 27 = some (.iconst 1, 1, 0, 0) := by decide +kernel
theorem p144_27 {s0 s1 s2 : Int} {q0 q1 q2 q3 q4 q5 : MV} {ds : Ds} {m : Mm} {Q : Ds → Mm → List MV → Prop} : WP 144 27 [q0, q1, q2, q3, q4, q5] [(0, s0), (0, s1), (0, s2)] ds m Q = (WP 144 28 [q0, q1, q2, q3, q4, q5] [(0, 1), (0, s0), (0, s1), (0, s2)] ds m Q) := P_nx k144_27 rfl
set_option maxRecDepth 20000 in
theorem k144_28 : mjCode 144 28 = some (.isub, 1, 0, 0) := by decide +kernel
theorem p144_28 {s0 s1 s2 s3 : Int} {q0 q1 q2 q3 q4 q5 : MV} {ds : Ds} {m : Mm} {Q : Ds → Mm → List MV → Prop} : WP 144 28 [q0, q1, q2, q3, q4, q5] [(0, s0), (0, s1), (0, s2), (0, s3)] ds m Q = (WP 144 29 [q0, q1, q2, q3, q4, q5] [(0, w32 (s1 - s0)), (0, s2), (0, s3)] ds m Q) := P_nx k144_28 rfl
set_option maxRecDepth 20000 in
theorem k144_29 : mjCode 144 29 = some (.invokestatic 141, 3, 121, 3) := by decide +kernel
theorem p144_29 {s0 s1 s2 : Int} {q0 q1 q2 q3 q4 q5 : MV} {ds : Ds} {m : Mm} {Q : Ds → Mm → List MV → Prop} : WP 144 29 [q0, q1, q2, q3, q4, q5] [(0, s0), (0, s1), (0, s2)] ds m Q = (WP 120 0 [(0, s2), (0, s1), (0, s0)] [] ds m (fun d2 m2 r2 => WP 144 32 [q0, q1, q2, q3, q4, q5] (r2 ++ []) d2 m2 Q)) := P_cs k144_29 mx120 rfl rfl rfl rfl rfl rfl rfl
set_option maxRecDepth 20000 in
theorem k144_32 : mjCode 144 32 = some (.ifCond .ne 10, 3, 42, 0) := by decide +kernel
theorem p144_32 {s0 : Int} {q0 q1 q2 q3 q4 q5 : MV} {ds : Ds} {m : Mm} {Q : Ds → Mm → List MV → Prop} : WP 144 32 [q0, q1, q2, q3, q4, q5] [(0, s0)] ds m Q = (if s0 = 0 then WP 144 35 [q0, q1, q2, q3, q4, q5] [] ds m Q else WP 144 42 [q0, q1, q2, q3, q4, q5] [] ds m Q) := P_if k144_32 rfl
set_option maxRecDepth 20000 in
theorem k144_35 : mjCode 144 35 = some (.aload_n 0, 1, 0, 0) := by decide +kernel
theorem p144_35 {l0 : Int} {q1 q2 q3 q4 q5 : MV} {ds : Ds} {m : Mm} {Q : Ds → Mm → List MV → Prop} : WP 144 35 [(2, l0), q1, q2, q3, q4, q5] [] ds m Q = (WP 144 36 [(2, l0), q1, q2, q3, q4, q5] [(2, l0)] ds m Q) := P_nx k144_35 rfl
set_option maxRecDepth 20000 in
theorem k144_36 : mjCode 144 36 = some (.bipush (-5), 2, 0, 0) := by decide +kernel
theorem p144_36 {s0 : Int} {q0 q1 q2 q3 q4 q5 : MV} {ds : Ds} {m : Mm} {Q : Ds → Mm → List MV → Prop} : WP 144 36 [q0, q1, q2, q3, q4, q5] [(2, s0)] ds m Q = (WP 144 38 [q0, q1, q2, q3, q4, q5] [(0, (-5)), (2, s0)] ds m Q) := P_nx k144_36 rfl
set_option maxRecDepth 20000 in
theorem k144_38 : mjCode 144 38 = some (.invokevirtual 155, 3, 122, 2) := by decide +kernel
theorem p144_38 {s0 s1 : Int} {q0 q1 q2 q3 q4 q5 : MV} {ds : Ds} {m : Mm} {Q : Ds → Mm → List MV → Prop} : WP 144 38 [q0, q1, q2, q3, q4, q5] [(0, s0), (2, s1)] ds m Q = ((dk ds s1 = 7 ∧ WP 121 0 [(2, s1), (0, s0)] [] ds m (fun d2 m2 r2 => WP 144 41 [q0, q1, q2, q3, q4, q5] (r2 ++ []) d2 m2 Q))) := P_cv k144_38 mx121 mo121 rfl rfl rfl rfl rfl rfl rfl rfl
set_option maxRecDepth 20000 in
theorem k144_41 : mjCode 144 41 = some (.ireturn, 1, 0, 0) := by decide +kernel
theorem p144_41 {s0 : Int} {q0 q1 q2 q3 q4 q5 : MV} {ds : Ds} {m : Mm} {Q : Ds → Mm → List MV → Prop} : WP 144 41 [q0, q1, q2, q3, q4, q5] [(0, s0)] ds m Q = (Q ds m [(0, s0)]) := P_ri k144_41 rk144
set_option maxRecDepth 20000 in
theorem k144_42 : mjCode 144 42 = some (.aload_n 0, 1, 0, 0) := by decide +kernel
theorem p144_42 {l0 : Int} {q1 q2 q3 q4 q5 : MV} {ds : Ds} {m : Mm} {Q : Ds → Mm → List MV → Prop} : WP 144 42 [(2, l0), q1, q2, q3, q4, q5] [] ds m Q = (WP 144 43 [(2, l0), q1, q2, q3, q4, q5] [(2, l0)] ds m Q) := P_nx k144_42 rfl
set_option maxRecDepth 20000 in
theorem k144_43 : mjCode 144 43 = some (.getfield 44, 3, 7, 13) := by decide +kernel
theorem p144_43 {s0 : Int} {q0 q1 q2 q3 q4 q5 : MV} {ds : Ds} {m : Mm} {Q : Ds → Mm → List MV → Prop} : WP 144 43 [q0, q1, q2, q3, q4, q5] [(2, s0)] ds m Q = ((dk ds s0 = 7 ∧ WP 144 46 [q0, q1, q2, q3, q4, q5] [(2, m s0 13)] ds m Q)) := P_gd k144_43 rfl
set_option maxRecDepth 20000 in
theorem k144_46 : mjCode 144 46 = some (.bipush 100, 2, 0, 0) := by decide +kernel
theorem p144_46 {s0 : Int} {q0 q1 q2 q3 q4 q5 : MV} {ds : Ds} {m : Mm} {Q : Ds → Mm → List MV → Prop} : WP 144 46 [q0, q1, q2, q3, q4, q5] [(2, s0)] ds m Q = (WP 144 48 [q0, q1, q2, q3, q4, q5] [(0, 100), (2, s0)] ds m Q) := P_nx k144_46 rfl
set_option maxRecDepth 20000 in
theorem k144_48 : mjCode 144 48 = some (.iload_n 1, 1, 0, 0) := by decide +kernel
theorem p144_48 {l1 s0 s1 : Int} {q0 q2 q3 q4 q5 : MV} {ds : Ds} {m : Mm} {Q : Ds → Mm → List MV → Prop} : WP 144 48 [q0, (0, l1), q2, q3, q4, q5] [(0, s0), (2, s1)] ds m Q = (WP 144 49 [q0, (0, l1), q2, q3, q4, q5] [(0, l1), (0, s0), (2, s1)] ds m Q) := P_nx k144_48 rfl
set_option maxRecDepth 20000 in
theorem k144_49 : mjCode 144 49 = some (.imul, 1, 0, 0) := by decide +kernel
theorem p144_49 {s0 s1 s2 : Int} {q0 q1 q2 q3 q4 q5 : MV} {ds : Ds} {m : Mm} {Q : Ds → Mm → List MV → Prop} : WP 144 49 [q0, q1, q2, q3, q4, q5] [(0, s0), (0, s1), (2, s2)] ds m Q = (WP 144 50 [q0, q1, q2, q3, q4, q5] [(0, w32 (s1 * s0)), (2, s2)] ds m Q) := P_nx k144_49 rfl
set_option maxRecDepth 20000 in
theorem k144_50 : mjCode 144 50 = some (.iload_n 2, 1, 0, 0) := by decide +kernel
theorem p144_50 {l2 s0 s1 : Int} {q0 q1 q3 q4 q5 : MV} {ds : Ds} {m : Mm} {Q : Ds → Mm → List MV → Prop} : WP 144 50 [q0, q1, (0, l2), q3, q4, q5] [(0, s0), (2, s1)] ds m Q = (WP 144 51 [q0, q1, (0, l2), q3, q4, q5] [(0, l2), (0, s0), (2, s1)] ds m Q) := P_nx k144_50 rfl
set_option maxRecDepth 20000 in
theorem k144_51 : mjCode 144 51 = some (.iadd, 1, 0, 0) := by decide +kernel
theorem p144_51 {s0 s1 s2 : Int} {q0 q1 q2 q3 q4 q5 : MV} {ds : Ds} {m : Mm} {Q : Ds → Mm → List MV → Prop} : WP 144 51 [q0, q1, q2, q3, q4, q5] [(0, s0), (0, s1), (2, s2)] ds m Q = (WP 144 52 [q0, q1, q2, q3, q4, q5] [(0, w32 (s1 + s0)), (2, s2)] ds m Q) := P_nx k144_51 rfl
set_option maxRecDepth 20000 in
theorem k144_52 : mjCode 144 52 = some (.aload_n 0, 1, 0, 0) := by decide +kernel
theorem p144_52 {l0 s0 s1 : Int} {q1 q2 q3 q4 q5 : MV} {ds : Ds} {m : Mm} {Q : Ds → Mm → List MV → Prop} : WP 144 52 [(2, l0), q1, q2, q3, q4, q5] [(0, s0), (2, s1)] ds m Q = (WP 144 53 [(2, l0), q1, q2, q3, q4, q5] [(2, l0), (0, s0), (2, s1)] ds m Q) := P_nx k144_52 rfl
set_option maxRecDepth 20000 in
theorem k144_53 : mjCode 144 53 = some (.getfield 38, 3, 7, 11) := by decide +kernel
theorem p144_53 {s0 s1 s2 : Int} {q0 q1 q2 q3 q4 q5 : MV} {ds : Ds} {m : Mm} {Q : Ds → Mm → List MV → Prop} : WP 144 53 [q0, q1, q2, q3, q4, q5] [(2, s0), (0, s1), (2, s2)] ds m Q = ((dk ds s0 = 7 ∧ WP 144 56 [q0, q1, q2, q3, q4, q5] [(2, m s0 11), (0, s1), (2, s2)] ds m Q)) := P_gd k144_53 rfl
set_option maxRecDepth 20000 in
theorem k144_56 : mjCode 144 56 = some (.iload_n 1, 1, 0, 0) := by decide +kernel
theorem p144_56 {l1 s0 s1 s2 : Int} {q0 q2 q3 q4 q5 : MV} {ds : Ds} {m : Mm} {Q : Ds → Mm → List MV → Prop} : WP 144 56 [q0, (0, l1), q2, q3, q4, q5] [(2, s0), (0, s1), (2, s2)] ds m Q = (WP 144 57 [q0, (0, l1), q2, q3, q4, q5] [(0, l1), (2, s0), (0, s1), (2, s2)] ds m Q) := P_nx k144_56 rfl
set_option maxRecDepth 20000 in
theorem k144_57 : mjCode 144 57 = some (.iaload, 1, 0, 0) := by decide +kernel
theorem p144_57 {s0 s1 s2 s3 : Int} {q0 q1 q2 q3 q4 q5 : MV} {ds : Ds} {m : Mm} {Q : Ds → Mm → List MV → Prop} : WP 144 57 [q0, q1, q2, q3, q4, q5] [(0, s0), (2, s1), (0, s2), (2, s3)] ds m Q = ((dk ds s1 = 10 ∧ 0 ≤ s0 ∧ s0 < dl ds s1 ∧ WP 144 58 [q0, q1, q2, q3, q4, q5] [(0, m s1 s0), (0, s2), (2, s3)] ds m Q)) := P_g3 k144_57 rfl
set_option maxRecDepth 20000 in
theorem k144_58 : mjCode 144 58 = some (.bipush 100, 2, 0, 0) := by decide +kernel
theorem p144_58 {s0 s1 s2 : Int} {q0 q1 q2 q3 q4 q5 : MV} {ds : Ds} {m : Mm} {Q : Ds → Mm → List MV → Prop} : WP 144 58 [q0, q1, q2, q3, q4, q5] [(0, s0), (0, s1), (2, s2)] ds m Q = (WP 144 60 [q0, q1, q2, q3, q4, q5] [(0, 100), (0, s0), (0, s1), (2, s2)] ds m Q) := P_nx k144_58 rfl
set_option maxRecDepth 20000 in
theorem k144_60 : mjCode 144 60 = some (.isub, 1, 0, 0) := by decide +kernel
theorem p144_60 {s0 s1 s2 s3 : Int} {q0 q1 q2 q3 q4 q5 : MV} {ds : Ds} {m : Mm} {Q : Ds → Mm → List MV → Prop} : WP 144 60 [q0, q1, q2, q3, q4, q5] [(0, s0), (0, s1), (0, s2), (2, s3)] ds m Q = (WP 144 61 [q0, q1, q2, q3, q4, q5] [(0, w32 (s1 - s0)), (0, s2), (2, s3)] ds m Q) := P_nx k144_60 rfl
set_option maxRecDepth 20000 in
theorem k144_61 : mjCode 144 61 = some (.lload_n 3, 1, 0, 0) := by decide +kernel
theorem p144_61 {l3 s0 s1 s2 : Int} {q0 q1 q2 q4 q5 : MV} {ds : Ds} {m : Mm} {Q : Ds → Mm → List MV → Prop} : WP 144 61 [q0, q1, q2, (1, l3), q4, q5] [(0, s0), (0, s1), (2, s2)] ds m Q = (WP 144 62 [q0, q1, q2, (1, l3), q4, q5] [(1, l3), (0, s0), (0, s1), (2, s2)] ds m Q) := P_nx k144_61 rfl
set_option maxRecDepth 20000 in
theorem k144_62 : mjCode 144 62 = some (.invokestatic 186, 3, 143, 2) := by decide +kernel
theorem p144_62 {s0 s1 s2 s3 : Int} {q0 q1 q2 q3 q4 q5 : MV} {ds : Ds} {m : Mm} {Q : Ds → Mm → List MV → Prop} : WP 144 62 [q0, q1, q2, q3, q4, q5] [(1, s0), (0, s1), (0, s2), (2, s3)] ds m Q = (WP 142 0 [(0, s1), (1, s0), (3, 0)] [] ds m (fun d2 m2 r2 => WP 144 65 [q0, q1, q2, q3, q4, q5] (r2 ++ [(0, s2), (2, s3)]) d2 m2 Q)) := P_cs k144_62 mx142 rfl rfl rfl rfl rfl rfl rfl
set_option maxRecDepth 20000 in
theorem k144_65 : mjCode 144 65 = some (.lastore, 1, 0, 0) := by decide +kernel
theorem p144_65 {s0 s1 s2 : Int} {q0 q1 q2 q3 q4 q5 : MV} {ds : Ds} {m : Mm} {Q : Ds → Mm → List MV → Prop} : WP 144 65 [q0, q1, q2, q3, q4, q5] [(1, s0), (0, s1), (2, s2)] ds m Q = ((dk ds s2 = 12 ∧ 0 ≤ s1 ∧ s1 < dl ds s2 ∧ WP 144 66 [q0, q1, q2, q3, q4, q5] [] ds (up m s2 s1 s0) Q)) := P_s3 k144_65 rfl
set_option maxRecDepth 20000 in
theorem k144_66 : mjCode 144 66 = some (.iconst 1, 1, 0, 0) := by decide +kernel
theorem p144_66 {q0 q1 q2 q3 q4 q5 : MV} {ds : Ds} {m : Mm} {Q : Ds → Mm → List MV → Prop} : WP 144 66 [q0, q1, q2, q3, q4, q5] [] ds m Q = (WP 144 67 [q0, q1, q2, q3, q4, q5] [(0, 1)] ds m Q) := P_nx k144_66 rfl
set_option maxRecDepth 20000 in
theorem k144_67 : mjCode 144 67 = some (.ireturn, 1, 0, 0) := by decide +kernel
theorem p144_67 {s0 : Int} {q0 q1 q2 q3 q4 q5 : MV} {ds : Ds} {m : Mm} {Q : Ds → Mm → List MV → Prop} : WP 144 67 [q0, q1, q2, q3, q4, q5] [(0, s0)] ds m Q = (Q ds m [(0, s0)]) := P_ri k144_67 rk144
set_option maxRecDepth 20000 in
theorem k145_0 : mjCode 145 0 = some (.iload_n 1, 1, 0, 0) := by decide +kernel
theorem p145_0 {l1 : Int} {q0 q2 q3 q4 q5 q6 : MV} {ds : Ds} {m : Mm} {Q : Ds → Mm → List MV → Prop} : WP 145 0 [q0, (0, l1), q2, q3, q4, q5, q6] [] ds m Q = (WP 145 1 [q0, (0, l1), q2, q3, q4, q5, q6] [(0, l1)] ds m Q) := P_nx k145_0 rfl
set_option maxRecDepth 20000 in
theorem k145_1 : mjCode 145 1 = some (.invokestatic 177, 3, 140, 1) := by decide +kernel
theorem p145_1 {s0 : Int} {q0 q1 q2 q3 q4 q5 q6 : MV} {ds : Ds} {m : Mm} {Q : Ds → Mm → List MV → Prop} : WP 145 1 [q0, q1, q2, q3, q4, q5, q6] [(0, s0)] ds m Q = (WP 139 0 [(0, s0)] [] ds m (fun d2 m2 r2 => WP 145 4 [q0, q1, q2, q3, q4, q5, q6] (r2 ++ []) d2 m2 Q)) := P_cs k145_1 mx139 rfl rfl rfl rfl rfl rfl rfl
set_option maxRecDepth 20000 in
theorem k145_4 : mjCode 145 4 = some (.ifCond .eq 10, 3, 14, 0) := by decide +kernel
theorem p145_4 {s0 : Int} {q0 q1 q2 q3 q4 q5 q6 : MV} {ds : Ds} {m : Mm} {Q : Ds → Mm → List MV → Prop} : WP 145 4 [q0, q1, q2, q3, q4, q5, q6] [(0, s0)] ds m Q = (if s0 = 0 then WP 145 14 [q0, q1, q2, q3, q4, q5, q6] [] ds m Q else WP 145 7 [q0, q1, q2, q3, q4, q5, q6] [] ds m Q) := P_if k145_4 rfl
set_option maxRecDepth 20000 in
theorem k145_7 : mjCode 145 7 = some (.iload_n 2, 1, 0, 0) := by decide +kernel
theorem p145_7 {l2 : Int} {q0 q1 q3 q4 q5 q6 : MV} {ds : Ds} {m : Mm} {Q : Ds → Mm → List MV → Prop} : WP 145 7 [q0, q1, (0, l2), q3, q4, q5, q6] [] ds m Q = (WP 145 8 [q0, q1, (0, l2), q3, q4, q5, q6] [(0, l2)] ds m Q) := P_nx k145_7 rfl
set_option maxRecDepth 20000 in
theorem k145_8 : mjCode 145 8 = some (.invokestatic 177, 3, 140, 1) := by decide +kernel
theorem p145_8 {s0 : Int} {q0 q1 q2 q3 q4 q5 q6 : MV} {ds : Ds} {m : Mm} {Q : Ds → Mm → List MV → Prop} : WP 145 8 [q0, q1, q2, q3, q4, q5, q6] [(0, s0)] ds m Q = (WP 139 0 [(0, s0)] [] ds m (fun d2 m2 r2 => WP 145 11 [q0, q1, q2, q3, q4, q5, q6] (r2 ++ []) d2 m2 Q)) := P_cs k145_8 mx139 rfl rfl rfl rfl rfl rfl rfl
set_option maxRecDepth 20000 in
theorem k145_11 : mjCode 145 11 = some (.ifCond .ne 9, 3, 20, 0) := by decide +kernel
theorem p145_11 {s0 : Int} {q0 q1 q2 q3 q4 q5 q6 : MV} {ds : Ds} {m : Mm} {Q : Ds → Mm → List MV → Prop} : WP 145 11 [q0, q1, q2, q3, q4, q5, q6] [(0, s0)] ds m Q = (if s0 = 0 then WP 145 14 [q0, q1, q2, q3, q4, q5, q6] [] ds m Q else WP 145 20 [q0, q1, q2, q3, q4, q5, q6] [] ds m Q) := P_if k145_11 rfl
set_option maxRecDepth 20000 in
theorem k145_14 : mjCode 145 14 = some (.aload_n 0, 1, 0, 0) := by decide +kernel
theorem p145_14 {l0 : Int} {q1 q2 q3 q4 q5 q6 : MV} {ds : Ds} {m : Mm} {Q : Ds → Mm → List MV → Prop} : WP 145 14 [(2, l0), q1, q2, q3, q4, q5, q6] [] ds m Q = (WP 145 15 [(2, l0), q1, q2, q3, q4, q5, q6] [(2, l0)] ds m Q) := P_nx k145_14 rfl
set_option maxRecDepth 20000 in
theorem k145_15 : mjCode 145 15 = some (.iconst (-1), 1, 0, 0) := by decide +kernel
theorem p145_15 {s0 : Int} {q0 q1 q2 q3 q4 q5 q6 : MV} {ds : Ds} {m : Mm} {Q : Ds → Mm → List MV → Prop} : WP 145 15 [q0, q1, q2, q3, q4, q5, q6] [(2, s0)] ds m Q = (WP 145 16 [q0, q1, q2, q3, q4, q5, q6] [(0, (-1)), (2, s0)] ds m Q) := P_nx k145_15 rfl
set_option maxRecDepth 20000 in
theorem k145_16 : mjCode 145 16 = some (.invokevirtual 155, 3, 122, 2) := by decide +kernel
theorem p145_16 {s0 s1 : Int} {q0 q1 q2 q3 q4 q5 q6 : MV} {ds : Ds} {m : Mm} {Q : Ds → Mm → List MV → Prop} : WP 145 16 [q0, q1, q2, q3, q4, q5, q6] [(0, s0), (2, s1)] ds m Q = ((dk ds s1 = 7 ∧ WP 121 0 [(2, s1), (0, s0)] [] ds m (fun d2 m2 r2 => WP 145 19 [q0, q1, q2, q3, q4, q5, q6] (r2 ++ []) d2 m2 Q))) := P_cv k145_16 mx121 mo121 rfl rfl rfl rfl rfl rfl rfl rfl
set_option maxRecDepth 20000 in
theorem k145_19 : mjCode 145 19 = some (.ireturn, 1, 0, 0) := by decide +kernel
theorem p145_19 {s0 : Int} {q0 q1 q2 q3 q4 q5 q6 : MV} {ds : Ds} {m : Mm} {Q : Ds → Mm → List MV → Prop} : WP 145 19 [q0, q1, q2, q3, q4, q5, q6] [(0, s0)] ds m Q = (Q ds m [(0, s0)]) := P_ri k145_19 rk145
set_option maxRecDepth 20000 in
theorem k145_20 : mjCode 145 20 = some (.aload_n 0, 1, 0, 0) := by decide +kernel
theorem p145_20 {l0 : Int} {q1 q2 q3 q4 q5 q6 : MV} {ds : Ds} {m : Mm} {Q : Ds → Mm → List MV → Prop} : WP 145 20 [(2, l0), q1, q2, q3, q4, q5, q6] [] ds m Q = (WP 145 21 [(2, l0), q1, q2, q3, q4, q5, q6] [(2, l0)] ds m Q) := P_nx k145_20 rfl
set_option maxRecDepth 20000 in
theorem k145_21 : mjCode 145 21 = some (.getfield 38, 3, 7, 11) := by decide +kernel
theorem p145_21 {s0 : Int} {q0 q1 q2 q3 q4 q5 q6 : MV} {ds : Ds} {m : Mm} {Q : Ds → Mm → List MV → Prop} : WP 145 21 [q0, q1, q2, q3, q4, q5, q6] [(2, s0)] ds m Q = ((dk ds s0 = 7 ∧ WP 145 24 [q0, q1, q2, q3, q4, q5, q6] [(2, m s0 11)] ds m Q)) := P_gd k145_21 rfl
set_option maxRecDepth 20000 in
theorem k145_24 : mjCode 145 24 = some (.iload_n 1, 1, 0, 0) := by decide +kernel
theorem p145_24 {l1 s0 : Int} {q0 q2 q3 q4 q5 q6 : MV} {ds : Ds} {m : Mm} {Q : Ds → Mm → List MV → Prop} : WP 145 24 [q0, (0, l1), q2, q3, q4, q5, q6] [(2, s0)] ds m Q = (WP 145 25 [q0, (0, l1), q2, q3, q4, q5, q6] [(0, l1), (2, s0)] ds m Q) := P_nx k145_24 rfl
set_option maxRecDepth 20000 in
theorem k145_25 : mjCode 145 25 = some (.iaload, 1, 0, 0) := by decide +kernel
theorem p145_25 {s0 s1 : Int} {q0 q1 q2 q3 q4 q5 q6 : MV} {ds : Ds} {m : Mm} {Q : Ds → Mm → List MV → Prop} : WP 145 25 [q0, q1, q2, q3, q4, q5, q6] [(0, s0), (2, s1)] ds m Q = ((dk ds s1 = 10 ∧ 0 ≤ s0 ∧ s0 < dl ds s1 ∧ WP 145 26 [q0, q1, q2, q3, q4, q5, q6] [(0, m s1 s0)] ds m Q)) := P_g3 k145_25 rfl
set_option maxRecDepth 20000 in
theorem k145_26 : mjCode 145 26 = some (.ifCond .eq 43, 3, 69, 0) := by decide +kernel
theorem p145_26 {s0 : Int} {q0 q1 q2 q3 q4 q5 q6 : MV} {ds : Ds} {m : Mm} {Q : Ds → Mm → List MV → Prop} : WP 145 26 [q0, q1, q2, q3, q4, q5, q6] [(0, s0)] ds m Q = (if s0 = 0 then WP 145 69 [q0, q1, q2, q3, q4, q5, q6] [] ds m Q else WP 145 29 [q0, q1, q2, q3, q4, q5, q6] [] ds m Q) := P_if k145_26 rfl
set_option maxRecDepth 20000 in
theorem k145_29 : mjCode 145 29 = some (.aload_n 0, 1, 0, 0) := by decide +kernel
theorem p145_29 {l0 : Int} {q1 q2 q3 q4 q5 q6 : MV} {ds : Ds} {m : Mm} {Q : Ds → Mm → List MV → Prop} : WP 145 29 [(2, l0), q1, q2, q3, q4, q5, q6] [] ds m Q = (WP 145 30 [(2, l0), q1, q2, q3, q4, q5, q6] [(2, l0)] ds m Q) := P_nx k145_29 rfl
set_option maxRecDepth 20000 in
theorem k145_30 : mjCode 145 30 = some (.getfield 38, 3, 7, 11) := by decide +kernel
theorem p145_30 {s0 : Int} {q0 q1 q2 q3 q4 q5 q6 : MV} {ds : Ds} {m : Mm} {Q : Ds → Mm → List MV → Prop} : WP 145 30 [q0, q1, q2, q3, q4, q5, q6] [(2, s0)] ds m Q = ((dk ds s0 = 7 ∧ WP 145 33 [q0, q1, q2, q3, q4, q5, q6] [(2, m s0 11)] ds m Q)) := P_gd k145_30 rfl
set_option maxRecDepth 20000 in
theorem k145_33 : mjCode 145 33 = some (.iload_n 2, 1, 0, 0) := by decide +kernel
theorem p145_33 {l2 s0 : Int} {q0 q1 q3 q4 q5 q6 : MV} {ds : Ds} {m : Mm} {Q : Ds → Mm → List MV → Prop} : WP 145 33 [q0, q1, (0, l2), q3, q4, q5, q6] [(2, s0)] ds m Q = (WP 145 34 [q0, q1, (0, l2), q3, q4, q5, q6] [(0, l2), (2, s0)] ds m Q) := P_nx k145_33 rfl
set_option maxRecDepth 20000 in
theorem k145_34 : mjCode 145 34 = some (.iaload, 1, 0, 0) := by decide +kernel
theorem p145_34 {s0 s1 : Int} {q0 q1 q2 q3 q4 q5 q6 : MV} {ds : Ds} {m : Mm} {Q : Ds → Mm → List MV → Prop} : WP 145 34 [q0, q1, q2, q3, q4, q5, q6] [(0, s0), (2, s1)] ds m Q = ((dk ds s1 = 10 ∧ 0 ≤ s0 ∧ s0 < dl ds s1 ∧ WP 145 35 [q0, q1, q2, q3, q4, q5, q6] [(0, m s1 s0)] ds m Q)) := P_g3 k145_34 rfl
set_option maxRecDepth 20000 in
theorem k145_35 : mjCode 145 35 = some (.ifCond .eq 34, 3, 69, 0) := by decide +kernel
theorem p145_35 {s0 : Int} {q0 q1 q2 q3 q4 q5 q6 : MV} {ds : Ds} {m : Mm} {Q : Ds → Mm → List MV → Prop} : WP 145 35 [q0, q1, q2, q3, q4, q5, q6] [(0, s0)] ds m Q = (if s0 = 0 then WP 145 69 [q0, q1, q2, q3, q4, q5, q6] [] ds m Q else WP 145 38 [q0, q1, q2, q3, q4, q5, q6] [] ds m Q) := P_if k145_35 rfl
set_option maxRecDepth 20000 in
theorem k145_38 : mjCode 145 38 = some (.aload_n 0, 1, 0, 0) := by decide +kernel
theorem p145_38 {l0 : Int} {q1 q2 q3 q4 q5 q6 : MV} {ds : Ds} {m : Mm} {Q : Ds → Mm → List MV → Prop} : WP 145 38 [(2, l0), q1, q2, q3, q4, q5, q6] [] ds m Q = (WP 145 39 [(2, l0), q1, q2, q3, q4, q5, q6] [(2, l0)] ds m Q) := P_nx k145_38 rfl
set_option maxRecDepth 20000 in
theorem k145_39 : mjCode 145 39 = some (.iload_n 1, 1, 0, 0) := by decide +kernel
theorem p145_39 {l1 s0 : Int} {q0 q2 q3 q4 q5 q6 : MV} {ds : Ds} {m : Mm} {Q : Ds → Mm → List MV → Prop} : WP 145 39 [q0, (0, l1), q2, q3, q4, q5, q6] [(2, s0)] ds m Q = (WP 145 40 [q0, (0, l1), q2, q3, q4, q5, q6] [(0, l1), (2, s0)] ds m Q) := P_nx k145_39 rfl
set_option maxRecDepth 20000 in
theorem k145_40 : mjCode 145 40 = some (.invokevirtual 180, 3, 141, 2) := by decide +kernel
theorem p145_40 {s0 s1 : Int} {q0 q1 q2 q3 q4 q5 q6 : MV} {ds : Ds} {m : Mm} {Q : Ds → Mm → List MV → Prop} : WP 145 40 [q0, q1, q2, q3, q4, q5, q6] [(0, s0), (2, s1)] ds m Q = ((dk ds s1 = 7 ∧ WP 140 0 [(2, s1), (0, s0)] [] ds m (fun d2 m2 r2 => WP 145 43 [q0, q1, q2, q3, q4, q5, q6] (r2 ++ []) d2 m2 Q))) := P_cv k145_40 mx140 mo140 rfl rfl rfl rfl rfl rfl rfl rfl
set_option maxRecDepth 20000 in
theorem k145_43 : mjCode 145 43 = some (.ifCond .eq 33, 3, 76, 0) := by decide +kernel
theorem p145_43 {s0 : Int} {q0 q1 q2 q3 q4 q5 q6 : MV} {ds : Ds} {m : Mm} {Q : Ds → Mm → List MV → Prop} : WP 145 43 [q0, q1, q2, q3, q4, q5, q6] [(0, s0)] ds m Q = (if s0 = 0 then WP 145 76 [q0, q1, q2, q3, q4, q5, q6] [] ds m Q else WP 145 46 [q0, q1, q2, q3, q4, q5, q6] [] ds m Q) := P_if k145_43 rfl
set_option maxRecDepth 20000 in
theorem k145_46 : mjCode 145 46 = some (.aload_n 0, 1, 0, 0) := by decide +kernel
theorem p145_46 {l0 : Int} {q1 q2 q3 q4 q5 q6 : MV} {ds : Ds} {m : Mm} {Q : Ds → Mm → List MV → Prop} : WP 145 46 [(2, l0), q1, q2, q3, q4, q5, q6] [] ds m Q = (WP 145 47 [(2, l0), q1, q2, q3, q4, q5, q6] [(2, l0)] ds m Q) := P_nx k145_46 rfl
set_option maxRecDepth 20000 in
theorem k145_47 : mjCode 145 47 = some (.iload_n 2, 1, 0, 0) := by decide +kernel
theorem p145_47 {l2 s0 : Int} {q0 q1 q3 q4 q5 q6 : MV} {ds : Ds} {m : Mm} {Q : Ds → Mm → List MV → Prop} : WP 145 47 [q0, q1, (0, l2), q3, q4, q5, q6] [(2, s0)] ds m Q = (WP 145 48 [q0, q1, (0, l2), q3, q4, q5, q6] [(0, l2), (2, s0)] ds m Q) := P_nx k145_47 rfl
set_option maxRecDepth 20000 in
theorem k145_48 : mjCode 145 48 = some (.invokevirtual 180, 3, 141, 2) := by decide +kernel
theorem p145_48 {s0 s1 : Int} {q0 q1 q2 q3 q4 q5 q6 : MV} {ds : Ds} {m : Mm} {Q : Ds → Mm → List MV → Prop} : WP 145 48 [q0, q1, q2, q3, q4, q5, q6] [(0, s0), (2, s1)] ds m Q = ((dk ds s1 = 7 ∧ WP 140 0 [(2, s1), (0, s0)] [] ds m (fun d2 m2 r2 => WP 145 51 [q0, q1, q2, q3, q4, q5, q6] (r2 ++ []) d2 m2 Q))) := P_cv k145_48 mx140 mo140 rfl rfl rfl rfl rfl rfl rfl rfl
set_option maxRecDepth 20000 in
theorem k145_51 : mjCode 145 51 = some (.ifCond .eq 25, 3, 76, 0) := by decide +kernel
theorem p145_51 {s0 : Int} {q0 q1 q2 q3 q4 q5 q6 : MV} {ds : Ds} {m : Mm} {Q : Ds → Mm → List MV → Prop} : WP 145 51 [q0, q1, q2, q3, q4, q5, q6] [(0, s0)] ds m Q = (if s0 = 0 then WP 145 76 [q0, q1, q2, q3, q4, q5, q6] [] ds m Q else WP 145 54 [q0, q1, q2, q3, q4, q5, q6] [] ds m Q) := P_if k145_51 rfl
set_option maxRecDepth 20000 in
theorem k145_54 : mjCode 145 54 = some (.aload_n 0, 1, 0, 0) := by decide +kernel
theorem p145_54 {l0 : Int} {q1 q2 q3 q4 q5 q6 : MV} {ds : Ds} {m : Mm} {Q : Ds → Mm → List MV → Prop} : WP 145 54 [(2, l0), q1, q2, q3, q4, q5, q6] [] ds m Q = (WP 145 55 [(2, l0), q1, q2, q3, q4, q5, q6] [(2, l0)] ds m Q) := P_nx k145_54 rfl
set_option maxRecDepth 20000 in
theorem k145_55 : mjCode 145 55 = some (.getfield 38, 3, 7, 11) := by decide +kernel
theorem p145_55 {s0 : Int} {q0 q1 q2 q3 q4 q5 q6 : MV} {ds : Ds} {m : Mm} {Q : Ds → Mm → List MV → Prop} : WP 145 55 [q0, q1, q2, q3, q4, q5, q6] [(2, s0)] ds m Q = ((dk ds s0 = 7 ∧ WP 145 58 [q0, q1, q2, q3, q4, q5, q6] [(2, m s0 11)] ds m Q)) := P_gd k145_55 rfl
set_option maxRecDepth 20000 in
theorem k145_58 : mjCode 145 58 = some (.iload_n 1, 1, 0, 0) := by decide +kernel
theorem p145_58 {l1 s0 : Int} {q0 q2 q3 q4 q5 q6 : MV} {ds : Ds} {m : Mm} {Q : Ds → Mm → List MV → Prop} : WP 145 58 [q0, (0, l1), q2, q3, q4, q5, q6] [(2, s0)] ds m Q = (WP 145 59 [q0, (0, l1), q2, q3, q4, q5, q6] [(0, l1), (2, s0)] ds m Q) := P_nx k145_58 rfl
set_option maxRecDepth 20000 in
theorem k145_59 : mjCode 145 59 = some (.iaload, 1, 0, 0) := by decide +kernel
theorem p145_59 {s0 s1 : Int} {q0 q1 q2 q3 q4 q5 q6 : MV} {ds : Ds} {m : Mm} {Q : Ds → Mm → List MV → Prop} : WP 145 59 [q0, q1, q2, q3, q4, q5, q6] [(0, s0), (2, s1)] ds m Q = ((dk ds s1 = 10 ∧ 0 ≤ s0 ∧ s0 < dl ds s1 ∧ WP 145 60 [q0, q1, q2, q3, q4, q5, q6] [(0, m s1 s0)] ds m Q)) := P_g3 k145_59 rfl
set_option maxRecDepth 20000 in
theorem k145_60 : mjCode 145 60 = some (.aload_n 0, 1, 0, 0) := by decide +kernel
theorem p145_60 {l0 s0 : Int} {q1 q2 q3 q4 q5 q6 : MV} {ds : Ds} {m : Mm} {Q : Ds → Mm → List MV → Prop} : WP 145 60 [(2, l0), q1, q2, q3, q4, q5, q6] [(0, s0)] ds m Q = (WP 145 61 [(2, l0), q1, q2, q3, q4, q5, q6] [(2, l0), (0, s0)] ds m Q) := P_nx k145_60 rfl
set_option maxRecDepth 20000 in
theorem k145_61 : mjCode 145 61 = some (.getfield 38, 3, 7, 11) := by decide +kernel
theorem p145_61 {s0 s1 : Int} {q0 q1 q2 q3 q4 q5 q6 : MV} {ds : Ds} {m : Mm} {Q : Ds → Mm → List MV → Prop} : WP 145 61 [q0, q1, q2, q3, q4, q5, q6] [(2, s0), (0, s1)] ds m Q = ((dk ds s0 = 7 ∧ WP 145 64 [q0, q1, q2, q3, q4, q5, q6] [(2, m s0 11), (0, s1)] ds m Q)) := P_gd k145_61 rfl
set_option maxRecDepth 20000 in
theorem k145_64 : mjCode 145 64 = some (.iload_n 2, 1, 0, 0) := by decide +kernel
theorem p145_64 {l2 s0 s1 : Int} {q0 q1 q3 q4 q5 q6 : MV} {ds : Ds} {m : Mm} {Q : Ds → Mm → List MV → Prop} : WP 145 64 [q0, q1, (0, l2), q3, q4, q5, q6] [(2, s0), (0, s1)] ds m Q = (WP 145 65 [q0, q1, (0, l2), q3, q4, q5, q6] [(0, l2), (2, s0), (0, s1)] ds m Q) := P_nx k145_64 rfl
set_option maxRecDepth 20000 in
theorem k145_65 : mjCode 145 65 = some (.iaload, 1, 0, 0) := by decide +kernel
theorem p145_65 {s0 s1 s2 : Int} {q0 q1 q2 q3 q4 q5 q6 : MV} {ds : Ds} {m : Mm} {Q : Ds → Mm → List MV → Prop} : WP 145 65 [q0, q1, q2, q3, q4, q5, q6] [(0, s0), (2, s1), (0, s2)] ds m Q = ((dk ds s1 = 10 ∧ 0 ≤ s0 ∧ s0 < dl ds s1 ∧ WP 145 66 [q0, q1, q2, q3, q4, q5, q6] [(0, m s1 s0), (0, s2)] ds m Q)) := P_g3 k145_65 rfl
set_option maxRecDepth 20000 in
theorem k145_66 : mjCode 145 66 = some (.if_icmp .eq 10, 3, 76, 0) := by decide +kernel
theorem p145_66 {s0 s1 : Int} {q0 q1 q2 q3 q4 q5 q6 : MV} {ds : Ds} {m : Mm} {Q : Ds → Mm → List MV → Prop} : WP 145 66 [q0, q1, q2, q3, q4, q5, q6] [(0, s0), (0, s1)] ds m Q = (if s1 = s0 then WP 145 76 [q0, q1, q2, q3, q4, q5, q6] [] ds m Q else WP 145 69 [q0, q1, q2, q3, q4, q5, q6] [] ds m Q) := P_if k145_66 rfl
set_option maxRecDepth 20000 in
theorem k145_69 : mjCode 145 69 = some (.aload_n 0, 1, 0, 0) := by decide +kernel
theorem p145_69 {l0 : Int} {q1 q2 q3 q4 q5 q6 : MV} {ds : Ds} {m : Mm} {Q : Ds → Mm → List MV → Prop} : WP 145 69 [(2, l0), q1, q2, q3, q4, q5, q6] [] ds m Q = (WP 145 70 [(2, l0), q1, q2, q3, q4, q5, q6] [(2, l0)] ds m Q) := P_nx k145_69 rfl
set_option maxRecDepth 20000 in
theorem k145_70 : mjCode 145 70 = some (.bipush (-2), 2, 0, 0) := by decide +kernel
theorem p145_70 {s0 : Int} {q0 q1 q2 q3 q4 q5 q6 : MV} {ds : Ds} {m : Mm} {Q : Ds → Mm → List MV → Prop} : WP 145 70 [q0, q1, q2, q3, q4, q5, q6] [(2, s0)] ds m Q = (WP 145 72 [q0, q1, q2, q3, q4, q5, q6] [(0, (-2)), (2, s0)] ds m Q) := P_nx k145_70 rfl
set_option maxRecDepth 20000 in
theorem k145_72 : mjCode 145 72 = some (.invokevirtual 155, 3, 122, 2) := by decide +kernel
theorem p145_72 {s0 s1 : Int} {q0 q1 q2 q3 q4 q5 q6 : MV} {ds : Ds} {m : Mm} {Q : Ds → Mm → List MV → Prop} : WP 145 72 [q0, q1, q2, q3, q4, q5, q6] [(0, s0), (2, s1)] ds m Q = ((dk ds s1 = 7 ∧ WP 121 0 [(2, s1), (0, s0)] [] ds m (fun d2 m2 r2 => WP 145 75 [q0, q1, q2, q3, q4, q5, q6] (r2 ++ []) d2 m2 Q))) := P_cv k145_72 mx121 mo121 rfl rfl rfl rfl rfl rfl rfl rfl
set_option maxRecDepth 20000 in
theorem k145_75 : mjCode 145 75 = some (.ireturn, 1, 0, 0) := by decide +kernel
theorem p145_75 {s0 : Int} {q0 q1 q2 q3 q4 q5 q6 : MV} {ds : Ds} {m : Mm} {Q : Ds → Mm → List MV → Prop} : WP 145 75 [q0, q1, q2, q3, q4, q5, q6] [(0, s0)] ds m Q = (Q ds m [(0, s0)]) := P_ri k145_75 rk145
set_option maxRecDepth 20000 in
theorem k145_76 : mjCode 145 76 = some (.aload_n 0, 1, 0, 0) := by decide +kernel
theorem p145_76 {l0 : Int} {q1 q2 q3 q4 q5 q6 : MV} {ds : Ds} {m : Mm} {Q : Ds → Mm → List MV → Prop} : WP 145 76 [(2, l0), q1, q2, q3, q4, q5, q6] [] ds m Q = (WP 145 77 [(2, l0), q1, q2, q3, q4, q5, q6] [(2, l0)] ds m Q) := P_nx k145_76 rfl
set_option maxRecDepth 20000 in
theorem k145_77 : mjCode 145 77 = some (.iload_n 1, 1, 0, 0) := by decide +kernel
theorem p145_77 {l1 s0 : Int} {q0 q2 q3 q4 q5 q6 : MV} {ds : Ds} {m : Mm} {Q : Ds → Mm → List MV → Prop} : WP 145 77 [q0, (0, l1), q2, q3, q4, q5, q6] [(2, s0)] ds m Q = (WP 145 78 [q0, (0, l1), q2, q3, q4, q5, q6] [(0, l1), (2, s0)] ds m Q) := P_nx k145_77 rfl
set_option maxRecDepth 20000 in
theorem k145_78 : mjCode 145 78 = some (.invokevirtual 180, 3, 141, 2) := by decide +kernel
theorem p145_78 {s0 s1 : Int} {q0 q1 q2 q3 q4 q5 q6 : MV} {ds : Ds} {m : Mm} {Q : Ds → Mm → List MV → Prop} : WP 145 78 [q0, q1, q2, q3, q4, q5, q6] [(0, s0), (2, s1)] ds m Q = ((dk ds s1 = 7 ∧ WP 140 0 [(2, s1), (0, s0)] [] ds m (fun d2 m2 r2 => WP 145 81 [q0, q1, q2, q3, q4, q5, q6] (r2 ++ []) d2 m2 Q))) := P_cv k145_78 mx140 mo140 rfl rfl rfl rfl rfl rfl rfl rfl
set_option maxRecDepth 20000 in
theorem k145_81 : mjCode 145 81 = some (.ifCond .eq 11, 3, 92, 0) := by decide +kernel
theorem p145_81 {s0 : Int} {q0 q1 q2 q3 q4 q5 q6 : MV} {ds : Ds} {m : Mm} {Q : Ds → Mm → List MV → Prop} : WP 145 81 [q0, q1, q2, q3, q4, q5, q6] [(0, s0)] ds m Q = (if s0 = 0 then WP 145 92 [q0, q1, q2, q3, q4, q5, q6] [] ds m Q else WP 145 84 [q0, q1, q2, q3, q4, q5, q6] [] ds m Q) := P_if k145_81 rfl
set_option maxRecDepth 20000 in
theorem k145_84 : mjCode 145 84 = some (.aload_n 0, 1, 0, 0) := by decide +kernel
theorem p145_84 {l0 : Int} {q1 q2 q3 q4 q5 q6 : MV} {ds : Ds} {m : Mm} {Q : Ds → Mm → List MV → Prop} : WP 145 84 [(2, l0), q1, q2, q3, q4, q5, q6] [] ds m Q = (WP 145 85 [(2, l0), q1, q2, q3, q4, q5, q6] [(2, l0)] ds m Q) := P_nx k145_84 rfl
set_option maxRecDepth 20000 in
theorem k145_85 : mjCode 145 85 = some (.iload_n 2, 1, 0, 0) := by decide +kernel
theorem p145_85 {l2 s0 : Int} {q0 q1 q3 q4 q5 q6 : MV} {ds : Ds} {m : Mm} {Q : Ds → Mm → List MV → Prop} : WP 145 85 [q0, q1, (0, l2), q3, q4, q5, q6] [(2, s0)] ds m Q = (WP 145 86 [q0, q1, (0, l2), q3, q4, q5, q6] [(0, l2), (2, s0)] ds m Q) := P_nx k145_85 rfl
set_option maxRecDepth 20000 in
theorem k145_86 : mjCode 145 86 = some (.invokevirtual 180, 3, 141, 2) := by decide +kernel
theorem p145_86 {s0 s1 : Int} {q0 q1 q2 q3 q4 q5 q6 : MV} {ds : Ds} {m : Mm} {Q : Ds → Mm → List MV → Prop} : WP 145 86 [q0, q1, q2, q3, q4, q5, q6] [(0, s0), (2, s1)] ds m Q = ((dk ds s1 = 7 ∧ WP 140 0 [(2, s1), (0, s0)] [] ds m (fun d2 m2 r2 => WP 145 89 [q0, q1, q2, q3, q4, q5, q6] (r2 ++ []) d2 m2 Q))) := P_cv k145_86 mx140 mo140 rfl rfl rfl rfl rfl rfl rfl rfl
set_option maxRecDepth 20000 in
theorem k145_89 : mjCode 145 89 = some (.ifCond .ne 10, 3, 99, 0) := by decide +kernel
theorem p145_89 {s0 : Int} {q0 q1 q2 q3 q4 q5 q6 : MV} {ds : Ds} {m : Mm} {Q : Ds → Mm → List MV → Prop} : WP 145 89 [q0, q1, q2, q3, q4, q5, q6] [(0, s0)] ds m Q = (if s0 = 0 then WP 145 92 [q0, q1, q2, q3, q4, q5, q6] [] ds m Q else WP 145 99 [q0, q1, q2, q3, q4, q5, q6] [] ds m Q) := P_if k145_89 rfl
set_option maxRecDepth 20000 in
theorem k145_92 : mjCode 145 92 = some (.aload_n 0, 1, 0, 0) := by decide +kernel
theorem p145_92 {l0 : Int} {q1 q2 q3 q4 q5 q6 : MV} {ds : Ds} {m : Mm} {Q : Ds → Mm → List MV → Prop} : WP 145 92 [(2, l0), q1, q2, q3, q4, q5, q6] [] ds m Q = (WP 145 93 [(2, l0), q1, q2, q3, q4, q5, q6] [(2, l0)] ds m Q) := P_nx k145_92 rfl
set_option maxRecDepth 20000 in
theorem k145_93 : mjCode 145 93 = some (.bipush (-3), 2, 0, 0) := by decide +kernel
theorem p145_93 {s0 : Int} {q0 q1 q2 q3 q4 q5 q6 : MV} {ds : Ds} {m : Mm} {Q : Ds → Mm → List MV → Prop} : WP 145 93 [q0, q1, q2, q3, q4, q5, q6] [(2, s0)] ds m Q = (WP 145 95 [q0, q1, q2, q3, q4, q5, q6] [(0, (-3)), (2, s0)] ds m Q) := P_nx k145_93 rfl
set_option maxRecDepth 20000 in
theorem k145_95 : mjCode 145 95 = some (.invokevirtual 155, 3, 122, 2) := by decide +kernel
theorem p145_95 {s0 s1 : Int} {q0 q1 q2 q3 q4 q5 q6 : MV} {ds : Ds} {m : Mm} {Q : Ds → Mm → List MV → Prop} : WP 145 95 [q0, q1, q2, q3, q4, q5, q6] [(0, s0), (2, s1)] ds m Q = ((dk ds s1 = 7 ∧ WP 121 0 [(2, s1), (0, s0)] [] ds m (fun d2 m2 r2 => WP 145 98 [q0, q1, q2, q3, q4, q5, q6] (r2 ++ []) d2 m2 Q))) := P_cv k145_95 mx121 mo121 rfl rfl rfl rfl rfl rfl rfl rfl
set_option maxRecDepth 20000 in
theorem k145_98 : mjCode 145 98 = some (.ireturn, 1, 0, 0) := by decide +kernel
theorem p145_98 {s0 : Int} {q0 q1 q2 q3 q4 q5 q6 : MV} {ds : Ds} {m : Mm} {Q : Ds → Mm → List MV → Prop} : WP 145 98 [q0, q1, q2, q3, q4, q5, q6] [(0, s0)] ds m Q = (Q ds m [(0, s0)]) := P_ri k145_98 rk145
set_option maxRecDepth 20000 in
theorem k145_99 : mjCode 145 99 = some (.iload 5, 2, 0, 0) := by decide +kernel
theorem p145_99 {l5 : Int} {q0 q1 q2 q3 q4 q6 : MV} {ds : Ds} {m : Mm} {Q : Ds → Mm → List MV → Prop} : WP 145 99 [q0, q1, q2, q3, q4, (0, l5), q6] [] ds m Q = (WP 145 101 [q0, q1, q2, q3, q4, (0, l5), q6] [(0, l5)] ds m Q) := P_nx k145_99 rfl
set_option maxRecDepth 20000 in
theorem k145_101 : mjCode 145 101 = some (.ifCond .ge 10, 3, 111, 0) := by decide +kernel
theorem p145_101 {s0 : Int} {q0 q1 q2 q3 q4 q5 q6 : MV} {ds : Ds} {m : Mm} {Q : Ds → Mm → List MV → Prop} : WP 145 101 [q0, q1, q2, q3, q4, q5, q6] [(0, s0)] ds m Q = (if s0 < 0 then WP 145 104 [q0, q1, q2, q3, q4, q5, q6] [] ds m Q else WP 145 111 [q0, q1, q2, q3, q4, q5, q6] [] ds m Q) := P_if k145_101 rfl
set_option maxRecDepth 20000 in
theorem k145_104 : mjCode 145 104 = some (.aload_n 0, 1, 0, 0) := by decide +kernel
theorem p145_104 {l0 : Int} {q1 q2 q3 q4 q5 q6 : MV} {ds : Ds} {m : Mm} {Q : Ds → Mm → List MV → Prop} : WP 145 104 [(2, l0), q1, q2, q3, q4, q5, q6] [] ds m Q = (WP 145 105 [(2, l0), q1, q2, q3, q4, q5, q6] [(2, l0)] ds m Q) := P_nx k145_104 rfl
set_option maxRecDepth 20000 in
theorem k145_105 : mjCode 145 105 = some (.bipush (-4), 2, 0, 0) := by decide +kernel
theorem p145_105 {s0 : Int} {q0 q1 q2 q3 q4 q5 q6 : MV} {ds : Ds} {m : Mm} {Q : Ds → Mm → List MV → Prop} : WP 145 105 [q0, q1, q2, q3, q4, q5, q6] [(2, s0)] ds m Q = (WP 145 107 [q0, q1, q2, q3, q4, q5, q6] [(0, (-4)), (2, s0)] ds m Q) := P_nx k145_105 rfl
set_option maxRecDepth 20000 in
theorem k145_107 : mjCode 145 107 = some (.invokevirtual 155, 3, 122, 2) := by decide +kernel
theorem p145_107 {s0 s1 : Int} {q0 q1 q2 q3 q4 q5 q6 : MV} {ds : Ds} {m : Mm} {Q : Ds → Mm → List MV → Prop} : WP 145 107 [q0, q1, q2, q3, q4, q5, q6] [(0, s0), (2, s1)] ds m Q = ((dk ds s1 = 7 ∧ WP 121 0 [(2, s1), (0, s0)] [] ds m (fun d2 m2 r2 => WP 145 110 [q0, q1, q2, q3, q4, q5, q6] (r2 ++ []) d2 m2 Q))) := P_cv k145_107 mx121 mo121 rfl rfl rfl rfl rfl rfl rfl rfl
set_option maxRecDepth 20000 in
theorem k145_110 : mjCode 145 110 = some (.ireturn, 1, 0, 0) := by decide +kernel
theorem p145_110 {s0 : Int} {q0 q1 q2 q3 q4 q5 q6 : MV} {ds : Ds} {m : Mm} {Q : Ds → Mm → List MV → Prop} : WP 145 110 [q0, q1, q2, q3, q4, q5, q6] [(0, s0)] ds m Q = (Q ds m [(0, s0)]) := P_ri k145_110 rk145
set_option maxRecDepth 20000 in
theorem k145_111 : mjCode 145 111 = some (.iload_n 3, 1, 0, 0) := by decide +kernel
theorem p145_111 {l3 : Int} {q0 q1 q2 q4 q5 q6 : MV} {ds : Ds} {m : Mm} {Q : Ds → Mm → List MV → Prop} : WP 145 111 [q0, q1, q2, (0, l3), q4, q5, q6] [] ds m Q = (WP 145 112 [q0, q1, q2, (0, l3), q4, q5, q6] [(0, l3)] ds m Q) := P_nx k145_111 rfl
set_option maxRecDepth 20000 in
theorem k145_112 : mjCode 145 112 = some (.ifCond .lt 56, 3, 168, 0) := by decide +kernel
theorem p145_112 {s0 : Int} {q0 q1 q2 q3 q4 q5 q6 : MV} {ds : Ds} {m : Mm} {Q : Ds → Mm → List MV → Prop} : WP 145 112 [q0, q1, q2, q3, q4, q5, q6] [(0, s0)] ds m Q = (if s0 < 0 then WP 145 168 [q0, q1, q2, q3, q4, q5, q6] [] ds m Q else WP 145 115 [q0, q1, q2, q3, q4, q5, q6] [] ds m Q) := P_if k145_112 rfl
set_option maxRecDepth 20000 in
theorem k145_115 : mjCode 145 115 = some (.iload 4, 2, 0, 0) := by decide +kernel
theorem p145_115 {l4 : Int} {q0 q1 q2 q3 q5 q6 : MV} {ds : Ds} {m : Mm} {Q : Ds → Mm → List MV → Prop} : WP 145 115 [q0, q1, q2, q3, (0, l4), q5, q6] [] ds m Q = (WP 145 117 [q0, q1, q2, q3, (0, l4), q5, q6] [(0, l4)] ds m Q) := P_nx k145_115 rfl
set_option maxRecDepth 20000 in
theorem k145_117 : mjCode 145 117 = some (.ifCond .lt 51, 3, 168, 0) := by decide +kernel
theorem p145_117 {s0 : Int} {q0 q1 q2 q3 q4 q5 q6 : MV} {ds : Ds} {m : Mm} {Q : Ds → Mm → List MV → Prop} : WP 145 117 [q0, q1, q2, q3, q4, q5, q6] [(0, s0)] ds m Q = (if s0 < 0 then WP 145 168 [q0, q1, q2, q3, q4, q5, q6] [] ds m Q else WP 145 120 [q0, q1, q2, q3, q4, q5, q6] [] ds m Q) := P_if k145_117 rfl
set_option maxRecDepth 20000 in
theorem k145_120 : mjCode 145 120 = some (.iload_n 3, 1, 0, 0) := by decide +kernel
theorem p145_120 {l3 : Int} {q0 q1 q2 q4 q5 q6 : MV} {ds : Ds} {m : Mm} {Q : Ds → Mm → List MV → Prop} : WP 145 120 [q0, q1, q2, (0, l3), q4, q5, q6] [] ds m Q = (WP 145 121 [q0, q1, q2, (0, l3), q4, q5, q6] [(0, l3)] ds m Q) := P_nx k145_120 rfl
set_option maxRecDepth 20000 in
theorem k145_121 : mjCode 145 121 = some (.aload_n 0, 1, 0, 0) := by decide +kernel
theorem p145_121 {l0 s0 : Int} {q1 q2 q3 q4 q5 q6 : MV} {ds : Ds} {m : Mm} {Q : Ds → Mm → List MV → Prop} : WP 145 121 [(2, l0), q1, q2, q3, q4, q5, q6] [(0, s0)] ds m Q = (WP 145 122 [(2, l0), q1, q2, q3, q4, q5, q6] [(2, l0), (0, s0)] ds m Q) := P_nx k145_121 rfl
set_option maxRecDepth 20000 in
theorem k145_122 : mjCode 145 122 = some (.getfield 41, 3, 7, 12) := by decide +kernel
theorem p145_122 {s0 s1 : Int} {q0 q1 q2 q3 q4 q5 q6 : MV} {ds : Ds} {m : Mm} {Q : Ds → Mm → List MV → Prop} : WP 145 122 [q0, q1, q2, q3, q4, q5, q6] [(2, s0), (0, s1)] ds m Q = ((dk ds s0 = 7 ∧ WP 145 125 [q0, q1, q2, q3, q4, q5, q6] [(2, m s0 12), (0, s1)] ds m Q)) := P_gd k145_122 rfl
set_option maxRecDepth 20000 in
theorem k145_125 : mjCode 145 125 = some (.iload_n 1, 1, 0, 0) := by decide +kernel
theorem p145_125 {l1 s0 s1 : Int} {q0 q2 q3 q4 q5 q6 : MV} {ds : Ds} {m : Mm} {Q : Ds → Mm → List MV → Prop} : WP 145 125 [q0, (0, l1), q2, q3, q4, q5, q6] [(2, s0), (0, s1)] ds m Q = (WP 145 126 [q0, (0, l1), q2, q3, q4, q5, q6] [(0, l1), (2, s0), (0, s1)] ds m Q) := P_nx k145_125 rfl
set_option maxRecDepth 20000 in
theorem k145_126 : mjCode 145 126 = some (.iaload, 1, 0, 0) := by decide +kernel
theorem p145_126 {s0 s1 s2 : Int} {q0 q1 q2 q3 q4 q5 q6 : MV} {ds : Ds} {m : Mm} {Q : Ds → Mm → List MV → Prop} : WP 145 126 [q0, q1, q2, q3, q4, q5, q6] [(0, s0), (2, s1), (0, s2)] ds m Q = ((dk ds s1 = 10 ∧ 0 ≤ s0 ∧ s0 < dl ds s1 ∧ WP 145 127 [q0, q1, q2, q3, q4, q5, q6] [(0, m s1 s0), (0, s2)] ds m Q)) := P_g3 k145_126 rfl
set_option maxRecDepth 20000 in
theorem k145_127 : mjCode 145 127 = some (.if_icmp .gt 41, 3, 168, 0) := by decide +kernel
theorem p145_127 {s0 s1 : Int} {q0 q1 q2 q3 q4 q5 q6 : MV} {ds : Ds} {m : Mm} {Q : Ds → Mm → List MV → Prop} : WP 145 127 [q0, q1, q2, q3, q4, q5, q6] [(0, s0), (0, s1)] ds m Q = (if s0 < s1 then WP 145 168 [q0, q1, q2, q3, q4, q5, q6] [] ds m Q else WP 145 130 [q0, q1, q2, q3, q4, q5, q6] [] ds m Q) := P_if k145_127 rfl
set_option maxRecDepth 20000 in
theorem k145_130 : mjCode 145 130 = some (.iload 4, 2, 0, 0) := by decide +kernel
theorem p145_130 {l4 : Int} {q0 q1 q2 q3 q5 q6 : MV} {ds : Ds} {m : Mm} {Q : Ds → Mm → List MV → Prop} : WP 145 130 [q0, q1, q2, q3, (0, l4), q5, q6] [] ds m Q = (WP 145 132 [q0, q1, q2, q3, (0, l4), q5, q6] [(0, l4)] ds m Q) := P_nx k145_130 rfl
set_option maxRecDepth 20000 in
theorem k145_132 : mjCode 145 132 = some (.aload_n 0, 1, 0, 0) := by decide +kernel
theorem p145_132 {l0 s0 : Int} {q1 q2 q3 q4 q5 q6 : MV} {ds : Ds} {m : Mm} {Q : Ds → Mm → List MV → Prop} : WP 145 132 [(2, l0), q1, q2, q3, q4, q5, q6] [(0, s0)] ds m Q = (WP 145 133 [(2, l0), q1, q2, q3, q4, q5, q6] [(2, l0), (0, s0)] ds m Q) := P_nx k145_132 rfl
set_option maxRecDepth 20000 in
theorem k145_133 : mjCode 145 133 = some (.getfield 41, 3, 7, 12) := by decide +kernel
theorem p145_133 {s0 s1 : Int} {q0 q1 q2 q3 q4 q5 q6 : MV} {ds : Ds} {m : Mm} {Q : Ds → Mm → List MV → Prop} : WP 145 133 [q0, q1, q2, q3, q4, q5, q6] [(2, s0), (0, s1)] ds m Q = ((dk ds s0 = 7 ∧ WP 145 136 [q0, q1, q2, q3, q4, q5, q6] [(2, m s0 12), (0, s1)] ds m Q)) := P_gd k145_133 rfl
set_option maxRecDepth 20000 in
theorem k145_136 : mjCode 145 136 = some (.iload_n 2, 1, 0, 0) := by decide +kernel
theorem p145_136 {l2 s0 s1 : Int} {q0 q1 q3 q4 q5 q6 : MV} {ds : Ds} {m : Mm} {Q : Ds → Mm → List MV → Prop} : WP 145 136 [q0, q1, (0, l2), q3, q4, q5, q6] [(2, s0), (0, s1)] ds m Q = (WP 145 137 [q0, q1, (0, l2), q3, q4, q5, q6] [(0, l2), (2, s0), (0, s1)] ds m Q) := P_nx k145_136 rfl
set_option maxRecDepth 20000 in
theorem k145_137 : mjCode 145 137 = some (.iaload, 1, 0, 0) := by decide +kernel
theorem p145_137 {s0 s1 s2 : Int} {q0 q1 q2 q3 q4 q5 q6 : MV} {ds : Ds} {m : Mm} {Q : Ds → Mm → List MV → Prop} : WP 145 137 [q0, q1, q2, q3, q4, q5, q6] [(0, s0), (2, s1), (0, s2)] ds m Q = ((dk ds s1 = 10 ∧ 0 ≤ s0 ∧ s0 < dl ds s1 ∧ WP 145 138 [q0, q1, q2, q3, q4, q5, q6] [(0, m s1 s0), (0, s2)] ds m Q)) := P_g3 k145_137 rfl
set_option maxRecDepth 20000 in
theorem k145_138 : mjCode 145 138 = some (.if_icmp .gt 30, 3, 168, 0) := by decide +kernel
theorem p145_138 {s0 s1 : Int} {q0 q1 q2 q3 q4 q5 q6 : MV} {ds : Ds} {m : Mm} {Q : Ds → Mm → List MV → Prop} : WP 145 138 [q0, q1, q2, q3, q4, q5, q6] [(0, s0), (0, s1)] ds m Q = (if s0 < s1 then WP 145 168 [q0, q1, q2, q3, q4, q5, q6] [] ds m Q else WP 145 141 [q0, q1, q2, q3, q4, q5, q6] [] ds m Q) := P_if k145_138 rfl
set_option maxRecDepth 20000 in
theorem k145_141 : mjCode 145 141 = some (.iload 5, 2, 0, 0) := by decide +kernel
theorem p145_141 {l5 : Int} {q0 q1 q2 q3 q4 q6 : MV} {ds : Ds} {m : Mm} {Q : Ds → Mm → List MV → Prop} : WP 145 141 [q0, q1, q2, q3, q4, (0, l5), q6] [] ds m Q = (WP 145 143 [q0, q1, q2, q3, q4, (0, l5), q6] [(0, l5)] ds m Q) := P_nx k145_141 rfl
set_option maxRecDepth 20000 in
theorem k145_143 : mjCode 145 143 = some (.aload_n 0, 1, 0, 0) := by decide +kernel
theorem p145_143 {l0 s0 : Int} {q1 q2 q3 q4 q5 q6 : MV} {ds : Ds} {m : Mm} {Q : Ds → Mm → List MV → Prop} : WP 145 143 [(2, l0), q1, q2, q3, q4, q5, q6] [(0, s0)] ds m Q = (WP 145 144 [(2, l0), q1, q2, q3, q4, q5, q6] [(2, l0), (0, s0)] ds m Q) := P_nx k145_143 rfl
set_option maxRecDepth 20000 in
theorem k145_144 : mjCode 145 144 = some (.getfield 41, 3, 7, 12) := by decide +kernel
theorem p145_144 {s0 s1 : Int} {q0 q1 q2 q3 q4 q5 q6 : MV} {ds : Ds} {m : Mm} {Q : Ds → Mm → List MV → Prop} : WP 145 144 [q0, q1, q2, q3, q4, q5, q6] [(2, s0), (0, s1)] ds m Q = ((dk ds s0 = 7 ∧ WP 145 147 [q0, q1, q2, q3, q4, q5, q6] [(2, m s0 12), (0, s1)] ds m Q)) := P_gd k145_144 rfl
set_option maxRecDepth 20000 in
theorem k145_147 : mjCode 145 147 = some (.iload_n 1, 1, 0, 0) := by decide +kernel
theorem p145_147 {l1 s0 s1 : Int} {q0 q2 q3 q4 q5 q6 : MV} {ds : Ds} {m : Mm} {Q : Ds → Mm → List MV → Prop} : WP 145 147 [q0, (0, l1), q2, q3, q4, q5, q6] [(2, s0), (0, s1)] ds m Q = (WP 145 148 [q0, (0, l1), q2, q3, q4, q5, q6] [(0, l1), (2, s0), (0, s1)] ds m Q) := P_nx k145_147 rfl
set_option maxRecDepth 20000 in
theorem k145_148 : mjCode 145 148 = some (.iaload, 1, 0, 0) := by decide +kernel
theorem p145_148 {s0 s1 s2 : Int} {q0 q1 q2 q3 q4 q5 q6 : MV} {ds : Ds} {m : Mm} {Q : Ds → Mm → List MV → Prop} : WP 145 148 [q0, q1, q2, q3, q4, q5, q6] [(0, s0), (2, s1), (0, s2)] ds m Q = ((dk ds s1 = 10 ∧ 0 ≤ s0 ∧ s0 < dl ds s1 ∧ WP 145 149 [q0, q1, q2, q3, q4, q5, q6] [(0, m s1 s0), (0, s2)] ds m Q)) := P_g3 k145_148 rfl
set_option maxRecDepth 20000 in
theorem k145_149 : mjCode 145 149 = some (.iload_n 3, 1, 0, 0) := by decide +kernel
theorem p145_149 {l3 s0 s1 : Int} {q0 q1 q2 q4 q5 q6 : MV} {ds : Ds} {m : Mm} {Q : Ds → Mm → List MV → Prop} : WP 145 149 [q0, q1, q2, (0, l3), q4, q5, q6] [(0, s0), (0, s1)] ds m Q = (WP 145 150 [q0, q1, q2, (0, l3), q4, q5, q6] [(0, l3), (0, s0), (0, s1)] ds m Q) := P_nx k145_149 rfl
set_option maxRecDepth 20000 in
theorem k145_150 : mjCode 145 150 = some (.isub, 1, 0, 0) := by decide +kernel
theorem p145_150 {s0 s1 s2 : Int} {q0 q1 q2 q3 q4 q5 q6 : MV} {ds : Ds} {m : Mm} {Q : Ds → Mm → List MV → Prop} : WP 145 150 [q0, q1, q2, q3, q4, q5, q6] [(0, s0), (0, s1), (0, s2)] ds m Q = (WP 145 151 [q0, q1, q2, q3, q4, q5, q6] [(0, w32 (s1 - s0)), (0, s2)] ds m Q) := P_nx k145_150 rfl
set_option maxRecDepth 20000 in
theorem k145_151 : mjCode 145 151 = some (.if_icmp .gt 17, 3, 168, 0) := by decide +kernel
theorem p145_151 {s0 s1 : Int} {q0 q1 q2 q3 q4 q5 q6 : MV} {ds : Ds} {m : Mm} {Q : Ds → Mm → List MV → Prop} : WP 145 151 [q0, q1, q2, q3, q4, q5, q6] [(0, s0), (0, s1)] ds m Q = (if s0 < s1 then WP 145 168 [q0, q1, q2, q3, q4, q5, q6] [] ds m Q else WP 145 154 [q0, q1, q2, q3, q4, q5, q6] [] ds m Q) := P_if k145_151 rfl
set_option maxRecDepth 20000 in
theorem k145_154 : mjCode 145 154 = some (.iload 5, 2, 0, 0) := by decide +kernel
theorem p145_154 {l5 : Int} {q0 q1 q2 q3 q4 q6 : MV} {ds : Ds} {m : Mm} {Q : Ds → Mm → List MV → Prop} : WP 145 154 [q0, q1, q2, q3, q4, (0, l5), q6] [] ds m Q = (WP 145 156 [q0, q1, q2, q3, q4, (0, l5), q6] [(0, l5)] ds m Q) := P_nx k145_154 rfl
set_option maxRecDepth 20000 in
theorem k145_156 : mjCode 145 156 = some (.aload_n 0, 1, 0, 0) := by decide +kernel
theorem p145_156 {l0 s0 : Int} {q1 q2 q3 q4 q5 q6 : MV} {ds : Ds} {m : Mm} {Q : Ds → Mm → List MV → Prop} : WP 145 156 [(2, l0), q1, q2, q3, q4, q5, q6] [(0, s0)] ds m Q = (WP 145 157 [(2, l0), q1, q2, q3, q4, q5, q6] [(2, l0), (0, s0)] ds m Q) := P_nx k145_156 rfl
set_option maxRecDepth 20000 in
theorem k145_157 : mjCode 145 157 = some (.getfield 41, 3, 7, 12) := by decide +kernel
theorem p145_157 {s0 s1 : Int} {q0 q1 q2 q3 q4 q5 q6 : MV} {ds : Ds} {m : Mm} {Q : Ds → Mm → List MV → Prop} : WP 145 157 [q0, q1, q2, q3, q4, q5, q6] [(2, s0), (0, s1)] ds m Q = ((dk ds s0 = 7 ∧ WP 145 160 [q0, q1, q2, q3, q4, q5, q6] [(2, m s0 12), (0, s1)] ds m Q)) := P_gd k145_157 rfl
set_option maxRecDepth 20000 in
theorem k145_160 : mjCode 145 160 = some (.iload_n 2, 1, 0, 0) := by decide +kernel
theorem p145_160 {l2 s0 s1 : Int} {q0 q1 q3 q4 q5 q6 : MV} {ds : Ds} {m : Mm} {Q : Ds → Mm → List MV → Prop} : WP 145 160 [q0, q1, (0, l2), q3, q4, q5, q6] [(2, s0), (0, s1)] ds m Q = (WP 145 161 [q0, q1, (0, l2), q3, q4, q5, q6] [(0, l2), (2, s0), (0, s1)] ds m Q) := P_nx k145_160 rfl
set_option maxRecDepth 20000 in
theorem k145_161 : mjCode 145 161 = some (.iaload, 1, 0, 0) := by decide +kernel
theorem p145_161 {s0 s1 s2 : Int} {q0 q1 q2 q3 q4 q5 q6 : MV} {ds : Ds} {m : Mm} {Q : Ds → Mm → List MV → Prop} : WP 145 161 [q0, q1, q2, q3, q4, q5, q6] [(0, s0), (2, s1), (0, s2)] ds m Q = ((dk ds s1 = 10 ∧ 0 ≤ s0 ∧ s0 < dl ds s1 ∧ WP 145 162 [q0, q1, q2, q3, q4, q5, q6] [(0, m s1 s0), (0, s2)] ds m Q)) := P_g3 k145_161 rfl
set_option maxRecDepth 20000 in
theorem k145_162 : mjCode 145 162 = some (.iload 4, 2, 0, 0) := by decide +kernel
theorem p145_162 {l4 s0 s1 : Int} {q0 q1 q2 q3 q5 q6 : MV} {ds : Ds} {m : Mm} {Q : Ds → Mm → List MV → Prop} : WP 145 162 [q0, q1, q2, q3, (0, l4), q5, q6] [(0, s0), (0, s1)] ds m Q = (WP 145 164 [q0, q1, q2, q3, (0, l4), q5, q6] [(0, l4), (0, s0), (0, s1)] ds m Q) := P_nx k145_162 rfl
set_option maxRecDepth 20000 in
theorem k145_164 : mjCode 145 164 = some (.isub, 1, 0, 0) := by decide +kernel
theorem p145_164 {s0 s1 s2 : Int} {q0 q1 q2 q3 q4 q5 q6 : MV} {ds : Ds} {m : Mm} {Q : Ds → Mm → List MV → Prop} : WP 145 164 [q0, q1, q2, q3, q4, q5, q6] [(0, s0), (0, s1), (0, s2)] ds m Q = (WP 145 165 [q0, q1, q2, q3, q4, q5, q6] [(0, w32 (s1 - s0)), (0, s2)] ds m Q) := P_nx k145_164 rfl
set_option maxRecDepth 20000 in
theorem k145_165 : mjCode 145 165 = some (.if_icmp .le 10, 3, 175, 0) := by decide +kernel
theorem p145_165 {s0 s1 : Int} {q0 q1 q2 q3 q4 q5 q6 : MV} {ds : Ds} {m : Mm} {Q : Ds → Mm → List MV → Prop} : WP 145 165 [q0, q1, q2, q3, q4, q5, q6] [(0, s0), (0, s1)] ds m Q = (if s0 < s1 then WP 145 168 [q0, q1, q2, q3, q4, q5, q6] [] ds m Q else WP 145 175 [q0, q1, q2, q3, q4, q5, q6] [] ds m Q) := P_if k145_165 rfl
set_option maxRecDepth 20000 in
theorem k145_168 : mjCode 145 168 = some (.aload_n 0, 1, 0, 0) := by decide +kernel
theorem p145_168 {l0 : Int} {q1 q2 q3 q4 q5 q6 : MV} {ds : Ds} {m : Mm} {Q : Ds → Mm → List MV → Prop} : WP 145 168 [(2, l0), q1, q2, q3, q4, q5, q6] [] ds m Q = (WP 145 169 [(2, l0), q1, q2, q3, q4, q5, q6] [(2, l0)] ds m Q) := P_nx k145_168 rfl
set_option maxRecDepth 20000 in
theorem k145_169 : mjCode 145 169 = some (.bipush (-5), 2, 0, 0) := by decide +kernel
theorem p145_169 {s0 : Int} {q0 q1 q2 q3 q4 q5 q6 : MV} {ds : Ds} {m : Mm} {Q : Ds → Mm → List MV → Prop} : WP 145 169 [q0, q1, q2, q3, q4, q5, q6] [(2, s0)] ds m Q = (WP 145 171 [q0, q1, q2, q3, q4, q5, q6] [(0, (-5)), (2, s0)] ds m Q) := P_nx k145_169 rfl
set_option maxRecDepth 20000 in
theorem k145_171 : mjCode 145 171 = some (.invokevirtual 155, 3, 122, 2) := by decide +kernel
theorem p145_171 {s0 s1 : Int} {q0 q1 q2 q3 q4 q5 q6 : MV} {ds : Ds} {m : Mm} {Q : Ds → Mm → List MV → Prop} : WP 145 171 [q0, q1, q2, q3, q4, q5, q6] [(0, s0), (2, s1)] ds m Q = ((dk ds s1 = 7 ∧ WP 121 0 [(2, s1), (0, s0)] [] ds m (fun d2 m2 r2 => WP 145 174 [q0, q1, q2, q3, q4, q5, q6] (r2 ++ []) d2 m2 Q))) := P_cv k145_171 mx121 mo121 rfl rfl rfl rfl rfl rfl rfl rfl
set_option maxRecDepth 20000 in
theorem k145_174 : mjCode 145 174 = some (.ireturn, 1, 0, 0) := by decide +kernel
theorem p145_174 {s0 : Int} {q0 q1 q2 q3 q4 q5 q6 : MV} {ds : Ds} {m : Mm} {Q : Ds → Mm → List MV → Prop} : WP 145 174 [q0, q1, q2, q3, q4, q5, q6] [(0, s0)] ds m Q = (Q ds m [(0, s0)]) := P_ri k145_174 rk145
set_option maxRecDepth 20000 in
theorem k145_175 : mjCode 145 175 = some (.iconst 0, 1, 0, 0) := by decide +kernel
theorem p145_175 {q0 q1 q2 q3 q4 q5 q6 : MV} {ds : Ds} {m : Mm} {Q : Ds → Mm → List MV → Prop} : WP 145 175 [q0, q1, q2, q3, q4, q5, q6] [] ds m Q = (WP 145 176 [q0, q1, q2, q3, q4, q5, q6] [(0, 0)] ds m Q) := P_nx k145_175 rfl
set_option maxRecDepth 20000 in
theorem k145_176 : mjCode 145 176 = some (.istore 6, 2, 0, 0) := by decide +kernel
theorem p145_176 {l5 s0 : Int} {q0 q1 q2 q3 q4 q6 : MV} {ds : Ds} {m : Mm} {Q : Ds → Mm → List MV → Prop} : WP 145 176 [q0, q1, q2, q3, q4, (0, l5), q6] [(0, s0)] ds m Q = (WP 145 178 [q0, q1, q2, q3, q4, (0, l5), (0, s0)] [] ds m Q) := P_nx k145_176 rfl
set_option maxRecDepth 20000 in
theorem k145_178 : mjCode 145 178 = some (.iload 6, 2, 0, 0) := by decide +kernel
theorem p145_178 {l6 : Int} {q0 q1 q2 q3 q4 q5 : MV} {ds : Ds} {m : Mm} {Q : Ds → Mm → List MV → Prop} : WP 145 178 [q0, q1, q2, q3, q4, q5, (0, l6)] [] ds m Q = (WP 145 180 [q0, q1, q2, q3, q4, q5, (0, l6)] [(0, l6)] ds m Q) := P_nx k145_178 rfl
set_option maxRecDepth 20000 in
theorem k145_180 : mjCode 145 180 = some (.iload 5, 2, 0, 0) := by decide +kernel
theorem p145_180 {l5 s0 : Int} {q0 q1 q2 q3 q4 q6 : MV} {ds : Ds} {m : Mm} {Q : Ds → Mm → List MV → Prop} : WP 145 180 [q0, q1, q2, q3, q4, (0, l5), q6] [(0, s0)] ds m Q = (WP 145 182 [q0, q1, q2, q3, q4, (0, l5), q6] [(0, l5), (0, s0)] ds m Q) := P_nx k145_180 rfl
set_option maxRecDepth 20000 in
theorem k145_182 : mjCode 145 182 = some (.if_icmp .ge 30, 3, 212, 0) := by decide +kernel
theorem p145_182 {s0 s1 : Int} {q0 q1 q2 q3 q4 q5 q6 : MV} {ds : Ds} {m : Mm} {Q : Ds → Mm → List MV → Prop} : WP 145 182 [q0, q1, q2, q3, q4, q5, q6] [(0, s0), (0, s1)] ds m Q = (if s1 < s0 then WP 145 185 [q0, q1, q2, q3, q4, q5, q6] [] ds m Q else WP 145 212 [q0, q1, q2, q3, q4, q5, q6] [] ds m Q) := P_if k145_182 rfl
set_option maxRecDepth 20000 in
theorem k145_185 : mjCode 145 185 = some (.aload_n 0, 1, 0, 0) := by decide +kernel
theorem p145_185 {l0 : Int} {q1 q2 q3 q4 q5 q6 : MV} {ds : Ds} {m : Mm} {Q : Ds → Mm → List MV → Prop} : WP 145 185 [(2, l0), q1, q2, q3, q4, q5, q6] [] ds m Q = (WP 145 186 [(2, l0), q1, q2, q3, q4, q5, q6] [(2, l0)] ds m Q) := P_nx k145_185 rfl
set_option maxRecDepth 20000 in
theorem k145_186 : mjCode 145 186 = some (.getfield 48, 3, 7, 14) := by decide +kernel
theorem p145_186 {s0 : Int} {q0 q1 q2 q3 q4 q5 q6 : MV} {ds : Ds} {m : Mm} {Q : Ds → Mm → List MV → Prop} : WP 145 186 [q0, q1, q2, q3, q4, q5, q6] [(2, s0)] ds m Q = ((dk ds s0 = 7 ∧ WP 145 189 [q0, q1, q2, q3, q4, q5, q6] [(2, m s0 14)] ds m Q)) := P_gd k145_186 rfl
set_option maxRecDepth 20000 in
theorem k145_189 : mjCode 145 189 = some (.iload 6, 2, 0, 0) := by decide +kernel
theorem p145_189 {l6 s0 : Int} {q0 q1 q2 q3 q4 q5 : MV} {ds : Ds} {m : Mm} {Q : Ds → Mm → List MV → Prop} : WP 145 189 [q0, q1, q2, q3, q4, q5, (0, l6)] [(2, s0)] ds m Q = (WP 145 191 [q0, q1, q2, q3, q4, q5, (0, l6)] [(0, l6), (2, s0)] ds m Q) := P_nx k145_189 rfl
set_option maxRecDepth 20000 in
theorem k145_191 : mjCode 145 191 = some (.aload_n 0, 1, 0, 0) := by decide +kernel
theorem p145_191 {l0 s0 s1 : Int} {q1 q2 q3 q4 q5 q6 : MV} {ds : Ds} {m : Mm} {Q : Ds → Mm → List MV → Prop} : WP 145 191 [(2, l0), q1, q2, q3, q4, q5, q6] [(0, s0), (2, s1)] ds m Q = (WP 145 192 [(2, l0), q1, q2, q3, q4, q5, q6] [(2, l0), (0, s0), (2, s1)] ds m Q) := P_nx k145_191 rfl
set_option maxRecDepth 20000 in
theorem k145_192 : mjCode 145 192 = some (.getfield 44, 3, 7, 13) := by decide +kernel
theorem p145_192 {s0 s1 s2 : Int} {q0 q1 q2 q3 q4 q5 q6 : MV} {ds : Ds} {m : Mm} {Q : Ds → Mm → List MV → Prop} : WP 145 192 [q0, q1, q2, q3, q4, q5, q6] [(2, s0), (0, s1), (2, s2)] ds m Q = ((dk ds s0 = 7 ∧ WP 145 195 [q0, q1, q2, q3, q4, q5, q6] [(2, m s0 13), (0, s1), (2, s2)] ds m Q)) := P_gd k145_192 rfl
set_option maxRecDepth 20000 in
theorem k145_195 : mjCode 145 195 = some (.bipush 100, 2, 0, 0) := by decide +kernel
theorem p145_195 {s0 s1 s2 : Int} {q0 q1 q2 q3 q4 q5 q6 : MV} {ds : Ds} {m : Mm} {Q : Ds → Mm → List MV → Prop} : WP 145 195 [q0, q1, q2, q3, q4, q5, q6] [(2, s0), (0, s1), (2, s2)] ds m Q = (WP 145 197 [q0, q1, q2, q3, q4, q5, q6] [(0, 100), (2, s0), (0, s1), (2, s2)] ds m Q) := P_nx k145_195 rfl
set_option maxRecDepth 20000 in
theorem k145_197 : mjCode 145 197 = some (.iload_n 1, 1, 0, 0) := by decide +kernel
theorem p145_197 {l1 s0 s1 s2 s3 : Int} {q0 q2 q3 q4 q5 q6 : MV} {ds : Ds} {m : Mm} {Q : Ds → Mm → List MV → Prop} : WP 145 197 [q0, (0, l1), q2, q3, q4, q5, q6] [(0, s0), (2, s1), (0, s2), (2, s3)] ds m Q = (WP 145 198 [q0, (0, l1), q2, q3, q4, q5, q6] [(0, l1), (0, s0), (2, s1), (0, s2), (2, s3)] ds m Q) := P_nx k145_197 rfl
set_option maxRecDepth 20000 in
theorem k145_198 : mjCode 145 198 = some (.imul, 1, 0, 0) := by decide +kernel
theorem p145_198 {s0 s1 s2 s3 s4 : Int} {q0 q1 q2 q3 q4 q5 q6 : MV} {ds : Ds} {m : Mm} {Q : Ds → Mm → List MV → Prop} : WP 145 198 [q0, q1, q2, q3, q4, q5, q6] [(0, s0), (0, s1), (2, s2), (0, s3), (2, s4)] ds m Q = (WP 145 199 [q0, q1, q2, q3, q4, q5, q6] [(0, w32 (s1 * s0)), (2, s2), (0, s3), (2, s4)] ds m Q) := P_nx k145_198 rfl
set_option maxRecDepth 20000 in
theorem k145_199 : mjCode 145 199 = some (.iload_n 3, 1, 0, 0) := by decide +kernel
theorem p145_199 {l3 s0 s1 s2 s3 : Int} {q0 q1 q2 q4 q5 q6 : MV} {ds : Ds} {m : Mm} {Q : Ds → Mm → List MV → Prop} : WP 145 199 [q0, q1, q2, (0, l3), q4, q5, q6] [(0, s0), (2, s1), (0, s2), (2, s3)] ds m Q = (WP 145 200 [q0, q1, q2, (0, l3), q4, q5, q6] [(0, l3), (0, s0), (2, s1), (0, s2), (2, s3)] ds m Q) := P_nx k145_199 rfl
set_option maxRecDepth 20000 in
theorem k145_200 : mjCode 145 200 = some (.iadd, 1, 0, 0) := by decide +kernel
theorem p145_200 {s0 s1 s2 s3 s4 : Int} {q0 q1 q2 q3 q4 q5 q6 : MV} {ds : Ds} {m : Mm} {Q : Ds → Mm → List MV → Prop} : WP 145 200 [q0, q1, q2, q3, q4, q5, q6] [(0, s0), (0, s1), (2, s2), (0, s3), (2, s4)] ds m Q = (WP 145 201 [q0, q1, q2, q3, q4, q5, q6] [(0, w32 (s1 + s0)), (2, s2), (0, s3), (2, s4)] ds m Q) := P_nx k145_200 rfl
set_option maxRecDepth 20000 in
theorem k145_201 : mjCode 145 201 = some (.iload 6, 2, 0, 0) := by decide +kernel
theorem p145_201 {l6 s0 s1 s2 s3 : Int} {q0 q1 q2 q3 q4 q5 : MV} {ds : Ds} {m : Mm} {Q : Ds → Mm → List MV → Prop} : WP 145 201 [q0, q1, q2, q3, q4, q5, (0, l6)] [(0, s0), (2, s1), (0, s2), (2, s3)] ds m Q = (WP 145 203 [q0, q1, q2, q3, q4, q5, (0, l6)] [(0, l6), (0, s0), (2, s1), (0, s2), (2, s3)] ds m Q) := P_nx k145_201 rfl
set_option maxRecDepth 20000 in
theorem k145_203 : mjCode 145 203 = some (.iadd, 1, 0, 0) := by decide +kernel
theorem p145_203 {s0 s1 s2 s3 s4 : Int} {q0 q1 q2 q3 q4 q5 q6 : MV} {ds : Ds} {m : Mm} {Q : Ds → Mm → List MV → Prop} : WP 145 203 [q0, q1, q2, q3, q4, q5, q6] [(0, s0), (0, s1), (2, s2), (0, s3), (2, s4)] ds m Q = (WP 145 204 [q0, q1, q2, q3, q4, q5, q6] [(0, w32 (s1 + s0)), (2, s2), (0, s3), (2, s4)] ds m Q) := P_nx k145_203 rfl
set_option maxRecDepth 20000 in
theorem k145_204 : mjCode 145 204 = some (.laload, 1, 0, 0) := by decide +kernel
theorem p145_204 {s0 s1 s2 s3 : Int} {q0 q1 q2 q3 q4 q5 q6 : MV} {ds : Ds} {m : Mm} {Q : Ds → Mm → List MV → Prop} : WP 145 204 [q0, q1, q2, q3, q4, q5, q6] [(0, s0), (2, s1), (0, s2), (2, s3)] ds m Q = ((dk ds s1 = 12 ∧ 0 ≤ s0 ∧ s0 < dl ds s1 ∧ WP 145 205 [q0, q1, q2, q3, q4, q5, q6] [(1, m s1 s0), (0, s2), (2, s3)] ds m Q)) := P_g3 k145_204 rfl
set_option maxRecDepth 20000 in
theorem k145_205 : mjCode 145 205 = some (.lastore, 1, 0, 0) := by decide +kernel
theorem p145_205 {s0 s1 s2 : Int} {q0 q1 q2 q3 q4 q5 q6 : MV} {ds : Ds} {m : Mm} {Q : Ds → Mm → List MV → Prop} : WP 145 205 [q0, q1, q2, q3, q4, q5, q6] [(1, s0), (0, s1), (2, s2)] ds m Q = ((dk ds s2 = 12 ∧ 0 ≤ s1 ∧ s1 < dl ds s2 ∧ WP 145 206 [q0, q1, q2, q3, q4, q5, q6] [] ds (up m s2 s1 s0) Q)) := P_s3 k145_205 rfl
set_option maxRecDepth 20000 in
theorem k145_206 : mjCode 145 206 = some (.iinc 6 1, 3, 0, 0) := by decide +kernel
theorem p145_206 {l6 : Int} {q0 q1 q2 q3 q4 q5 : MV} {ds : Ds} {m : Mm} {Q : Ds → Mm → List MV → Prop} : WP 145 206 [q0, q1, q2, q3, q4, q5, (0, l6)] [] ds m Q = (WP 145 209 [q0, q1, q2, q3, q4, q5, (0, w32 (l6 + 1))] [] ds m Q) := P_nx k145_206 rfl
set_option maxRecDepth 20000 in
theorem k145_209 : mjCode 145 209 = some (.goto (-31), 3, 178, 0) := by decide +kernel
theorem p145_209 {q0 q1 q2 q3 q4 q5 q6 : MV} {ds : Ds} {m : Mm} {Q : Ds → Mm → List MV → Prop} : WP 145 209 [q0, q1, q2, q3, q4, q5, q6] [] ds m Q = (WP 145 178 [q0, q1, q2, q3, q4, q5, q6] [] ds m Q) := P_nx k145_209 rfl
set_option maxRecDepth 20000 in
theorem k145_212 : mjCode 145 212 = some (.iconst 0, 1, 0, 0) := by decide +kernel
theorem p145_212 {q0 q1 q2 q3 q4 q5 q6 : MV} {ds : Ds} {m : Mm} {Q : Ds → Mm → List MV → Prop} : WP 145 212 [q0, q1, q2, q3, q4, q5, q6] [] ds m Q = (WP 145 213 [q0, q1, q2, q3, q4, q5, q6] [(0, 0)] ds m Q) := P_nx k145_212 rfl
set_option maxRecDepth 20000 in
theorem k145_213 : mjCode 145 213 = some (.istore 6, 2, 0, 0) := by decide +kernel
theorem p145_213 {l5 s0 : Int} {q0 q1 q2 q3 q4 q6 : MV} {ds : Ds} {m : Mm} {Q : Ds → Mm → List MV → Prop} : WP 145 213 [q0, q1, q2, q3, q4, (0, l5), q6] [(0, s0)] ds m Q = (WP 145 215 [q0, q1, q2, q3, q4, (0, l5), (0, s0)] [] ds m Q) := P_nx k145_213 rfl
set_option maxRecDepth 20000 in
theorem k145_215 : mjCode 145 215 = some (.iload 6, 2, 0, 0) := by decide +kernel
theorem p145_215 {l6 : Int} {q0 q1 q2 q3 q4 q5 : MV} {ds : Ds} {m : Mm} {Q : Ds → Mm → List MV → Prop} : WP 145 215 [q0, q1, q2, q3, q4, q5, (0, l6)] [] ds m Q = (WP 145 217 [q0, q1, q2, q3, q4, q5, (0, l6)] [(0, l6)] ds m Q) := P_nx k145_215 rfl
set_option maxRecDepth 20000 in
theorem k145_217 : mjCode 145 217 = some (.iload 5, 2, 0, 0) := by decide +kernel
theorem p145_217 {l5 s0 : Int} {q0 q1 q2 q3 q4 q6 : MV} {ds : Ds} {m : Mm} {Q : Ds → Mm → List MV → Prop} : WP 145 217 [q0, q1, q2, q3, q4, (0, l5), q6] [(0, s0)] ds m Q = (WP 145 219 [q0, q1, q2, q3, q4, (0, l5), q6] [(0, l5), (0, s0)] ds m Q) := P_nx k145_217 rfl
set_option maxRecDepth 20000 in
theorem k145_219 : mjCode 145 219 = some (.if_icmp .ge 31, 3, 250, 0) := by decide +kernel
theorem p145_219 {s0 s1 : Int} {q0 q1 q2 q3 q4 q5 q6 : MV} {ds : Ds} {m : Mm} {Q : Ds → Mm → List MV → Prop} : WP 145 219 [q0, q1, q2, q3, q4, q5, q6] [(0, s0), (0, s1)] ds m Q = (if s1 < s0 then WP 145 222 [q0, q1, q2, q3, q4, q5, q6] [] ds m Q else WP 145 250 [q0, q1, q2, q3, q4, q5, q6] [] ds m Q) := P_if k145_219 rfl
set_option maxRecDepth 20000 in
theorem k145_222 : mjCode 145 222 = some (.aload_n 0, 1, 0, 0) := by decide +kernel
theorem p145_222 {l0 : Int} {q1 q2 q3 q4 q5 q6 : MV} {ds : Ds} {m : Mm} {Q : Ds → Mm → List MV → Prop} : WP 145 222 [(2, l0), q1, q2, q3, q4, q5, q6] [] ds m Q = (WP 145 223 [(2, l0), q1, q2, q3, q4, q5, q6] [(2, l0)] ds m Q) := P_nx k145_222 rfl
set_option maxRecDepth 20000 in
theorem k145_223 : mjCode 145 223 = some (.getfield 44, 3, 7, 13) := by decide +kernel
theorem p145_223 {s0 : Int} {q0 q1 q2 q3 q4 q5 q6 : MV} {ds : Ds} {m : Mm} {Q : Ds → Mm → List MV → Prop} : WP 145 223 [q0, q1, q2, q3, q4, q5, q6] [(2, s0)] ds m Q = ((dk ds s0 = 7 ∧ WP 145 226 [q0, q1, q2, q3, q4, q5, q6] [(2, m s0 13)] ds m Q)) := P_gd k145_223 rfl
set_option maxRecDepth 20000 in
theorem k145_226 : mjCode 145 226 = some (.bipush 100, 2, 0, 0) := by decide +kernel
theorem p145_226 {s0 : Int} {q0 q1 q2 q3 q4 q5 q6 : MV} {ds : Ds} {m : Mm} {Q : Ds → Mm → List MV → Prop} : WP 145 226 [q0, q1, q2, q3, q4, q5, q6] [(2, s0)] ds m Q = (WP 145 228 [q0, q1, q2, q3, q4, q5, q6] [(0, 100), (2, s0)] ds m Q) := P_nx k145_226 rfl
set_option maxRecDepth 20000 in
theorem k145_228 : mjCode 145 228 = some (.iload_n 2, 1, 0, 0) := by decide +kernel
theorem p145_228 {l2 s0 s1 : Int} {q0 q1 q3 q4 q5 q6 : MV} {ds : Ds} {m : Mm} {Q : Ds → Mm → List MV → Prop} : WP 145 228 [q0, q1, (0, l2), q3, q4, q5, q6] [(0, s0), (2, s1)] ds m Q = (WP 145 229 [q0, q1, (0, l2), q3, q4, q5, q6] [(0, l2), (0, s0), (2, s1)] ds m Q) := P_nx k145_228 rfl
set_option maxRecDepth 20000 in
theorem k145_229 : mjCode 145 229 = some (.imul, 1, 0, 0) := by decide +kernel
theorem p145_229 {s0 s1 s2 : Int} {q0 q1 q2 q3 q4 q5 q6 : MV} {ds : Ds} {m : Mm} {Q : Ds → Mm → List MV → Prop} : WP 145 229 [q0, q1, q2, q3, q4, q5, q6] [(0, s0), (0, s1), (2, s2)] ds m Q = (WP 145 230 [q0, q1, q2, q3, q4, q5, q6] [(0, w32 (s1 * s0)), (2, s2)] ds m Q) := P_nx k145_229 rfl
set_option maxRecDepth 20000 in
theorem k145_230 : mjCode 145 230 = some (.iload 4, 2, 0, 0) := by decide +kernel
theorem p145_230 {l4 s0 s1 : Int} {q0 q1 q2 q3 q5 q6 : MV} {ds : Ds} {m : Mm} {Q : Ds → Mm → List MV → Prop} : WP 145 230 [q0, q1, q2, q3, (0, l4), q5, q6] [(0, s0), (2, s1)] ds m Q = (WP 145 232 [q0, q1, q2, q3, (0, l4), q5, q6] [(0, l4), (0, s0), (2, s1)] ds m Q) := P_nx k145_230 rfl
set_option maxRecDepth 20000 in
theorem k145_232 : mjCode 145 232 = some (.iadd, 1, 0, 0) := by decide +kernel
theorem p145_232 {s0 s1 s2 : Int} {q0 q1 q2 q3 q4 q5 q6 : MV} {ds : Ds} {m : Mm} {Q : Ds → Mm → List MV → Prop} : WP 145 232 [q0, q1, q2, q3, q4, q5, q6] [(0, s0), (0, s1), (2, s2)] ds m Q = (WP 145 233 [q0, q1, q2, q3, q4, q5, q6] [(0, w32 (s1 + s0)), (2, s2)] ds m Q) := P_nx k145_232 rfl
set_option maxRecDepth 20000 in
theorem k145_233 : mjCode 145 233 = some (.iload 6, 2, 0, 0) := by decide +kernel
theorem p145_233 {l6 s0 s1 : Int} {q0 q1 q2 q3 q4 q5 : MV} {ds : Ds} {m : Mm} {Q : Ds → Mm → List MV → Prop} : WP 145 233 [q0, q1, q2, q3, q4, q5, (0, l6)] [(0, s0), (2, s1)] ds m Q = (WP 145 235 [q0, q1, q2, q3, q4, q5, (0, l6)] [(0, l6), (0, s0), (2, s1)] ds m Q) := P_nx k145_233 rfl
set_option maxRecDepth 20000 in
theorem k145_235 : mjCode 145 235 = some (.iadd, 1, 0, 0) := by decide +kernel
theorem p145_235 {s0 s1 s2 : Int} {q0 q1 q2 q3 q4 q5 q6 : MV} {ds : Ds} {m : Mm} {Q : Ds → Mm → List MV → Prop} : WP 145 235 [q0, q1, q2, q3, q4, q5, q6] [(0, s0), (0, s1), (2, s2)] ds m Q = (WP 145 236 [q0, q1, q2, q3, q4, q5, q6] [(0, w32 (s1 + s0)), (2, s2)] ds m Q) := P_nx k145_235 rfl
set_option maxRecDepth 20000 in
theorem k145_236 : mjCode 145 236 = some (.aload_n 0, 1, 0, 0) := by decide +kernel
theorem p145_236 {l0 s0 s1 : Int} {q1 q2 q3 q4 q5 q6 : MV} {ds : Ds} {m : Mm} {Q : Ds → Mm → List MV → Prop} : WP 145 236 [(2, l0), q1, q2, q3, q4, q5, q6] [(0, s0), (2, s1)] ds m Q = (WP 145 237 [(2, l0), q1, q2, q3, q4, q5, q6] [(2, l0), (0, s0), (2, s1)] ds m Q) := P_nx k145_236 rfl
set_option maxRecDepth 20000 in
theorem k145_237 : mjCode 145 237 = some (.getfield 48, 3, 7, 14) := by decide +kernel
theorem p145_237 {s0 s1 s2 : Int} {q0 q1 q2 q3 q4 q5 q6 : MV} {ds : Ds} {m : Mm} {Q : Ds → Mm → List MV → Prop} : WP 145 237 [q0, q1, q2, q3, q4, q5, q6] [(2, s0), (0, s1), (2, s2)] ds m Q = ((dk ds s0 = 7 ∧ WP 145 240 [q0, q1, q2, q3, q4, q5, q6] [(2, m s0 14), (0, s1), (2, s2)] ds m Q)) := P_gd k145_237 rfl
set_option maxRecDepth 20000 in
theorem k145_240 : mjCode 145 240 = some (.iload 6, 2, 0, 0) := by decide +kernel
theorem p145_240 {l6 s0 s1 s2 : Int} {q0 q1 q2 q3 q4 q5 : MV} {ds : Ds} {m : Mm} {Q : Ds → Mm → List MV → Prop} : WP 145 240 [q0, q1, q2, q3, q4, q5, (0, l6)] [(2, s0), (0, s1), (2, s2)] ds m Q = (WP 145 242 [q0, q1, q2, q3, q4, q5, (0, l6)] [(0, l6), (2, s0), (0, s1), (2, s2)] ds m Q) := P_nx k145_240 rfl
set_option maxRecDepth 20000 in
theorem k145_242 : mjCode 145 242 = some (.laload, 1, 0, 0) := by decide +kernel
theorem p145_242 {s0 s1 s2 s3 : Int} {q0 q1 q2 q3 q4 q5 q6 : MV} {ds : Ds} {m : Mm} {Q : Ds → Mm → List MV → Prop} : WP 145 242 [q0, q1, q2, q3, q4, q5, q6] [(0, s0), (2, s1), (0, s2), (2, s3)] ds m Q = ((dk ds s1 = 12 ∧ 0 ≤ s0 ∧ s0 < dl ds s1 ∧ WP 145 243 [q0, q1, q2, q3, q4, q5, q6] [(1, m s1 s0), (0, s2), (2, s3)] ds m Q)) := P_g3 k145_242 rfl
set_option maxRecDepth 20000 in
theorem k145_243 : mjCode 145 243 = some (.lastore, 1, 0, 0) := by decide +kernel
theorem p145_243 {s0 s1 s2 : Int} {q0 q1 q2 q3 q4 q5 q6 : MV} {ds : Ds} {m : Mm} {Q : Ds → Mm → List MV → Prop} : WP 145 243 [q0, q1, q2, q3, q4, q5, q6] [(1, s0), (0, s1), (2, s2)] ds m Q = ((dk ds s2 = 12 ∧ 0 ≤ s1 ∧ s1 < dl ds s2 ∧ WP 145 244 [q0, q1, q2, q3, q4, q5, q6] [] ds (up m s2 s1 s0) Q)) := P_s3 k145_243 rfl
set_option maxRecDepth 20000 in
theorem k145_244 : mjCode 145 244 = some (.iinc 6 1, 3, 0, 0) := by decide +kernel
theorem p145_244 {l6 : Int} {q0 q1 q2 q3 q4 q5 : MV} {ds : Ds} {m : Mm} {Q : Ds → Mm → List MV → Prop} : WP 145 244 [q0, q1, q2, q3, q4, q5, (0, l6)] [] ds m Q = (WP 145 247 [q0, q1, q2, q3, q4, q5, (0, w32 (l6 + 1))] [] ds m Q) := P_nx k145_244 rfl
set_option maxRecDepth 20000 in
theorem k145_247 : mjCode 145 247 = some (.goto (-32), 3, 215, 0) := by decide +kernel
theorem p145_247 {q0 q1 q2 q3 q4 q5 q6 : MV} {ds : Ds} {m : Mm} {Q : Ds → Mm → List MV → Prop} : WP 145 247 [q0, q1, q2, q3, q4, q5, q6] [] ds m Q = (WP 145 215 [q0, q1, q2, q3, q4, q5, q6] [] ds m Q) := P_nx k145_247 rfl
set_option maxRecDepth 20000 in
theorem k145_250 : mjCode 145 250 = some (.iconst 1, 1, 0, 0) := by decide +kernel
theorem p145_250 {q0 q1 q2 q3 q4 q5 q6 : MV} {ds : Ds} {m : Mm} {Q : Ds → Mm → List MV → Prop} : WP 145 250 [q0, q1, q2, q3, q4, q5, q6] [] ds m Q = (WP 145 251 [q0, q1, q2, q3, q4, q5, q6] [(0, 1)] ds m Q) := P_nx k145_250 rfl
set_option maxRecDepth 20000 in
theorem k145_251 : mjCode 145 251 = some (.ireturn, 1, 0, 0) := by decide +kernel
theorem p145_251 {s0 : Int} {q0 q1 q2 q3 q4 q5 q6 : MV} {ds : Ds} {m : Mm} {Q : Ds → Mm → List MV → Prop} : WP 145 251 [q0, q1, q2, q3, q4, q5, q6] [(0, s0)] ds m Q = (Q ds m [(0, s0)]) := P_ri k145_251 rk145
set_option maxRecDepth 20000 in
theorem k146_0 : mjCode 146 0 = some (.iload_n 1, 1, 0, 0) := by decide +kernel
theorem p146_0 {l1 : Int} {q0 q2 : MV} {ds : Ds} {m : Mm} {Q : Ds → Mm → List MV → Prop} : WP 146 0 [q0, (0, l1), q2] [] ds m Q = (WP 146 1 [q0, (0, l1), q2] [(0, l1)] ds m Q) := P_nx k146_0 rfl
set_option maxRecDepth 20000 in
theorem k146_1 : mjCode 146 1 = some (.invokestatic 177, 3, 140, 1) := by decide +kernel
theorem p146_1 {s0 : Int} {q0 q1 q2 : MV} {ds : Ds} {m : Mm} {Q : Ds → Mm → List MV → Prop} : WP 146 1 [q0, q1, q2] [(0, s0)] ds m Q = (WP 139 0 [(0, s0)] [] ds m (fun d2 m2 r2 => WP 146 4 [q0, q1, q2] (r2 ++ []) d2 m2 Q)) := P_cs k146_1 mx139 rfl rfl rfl rfl rfl rfl rfl
set_option maxRecDepth 20000 in
theorem k146_4 : mjCode 146 4 = some (.ifCond .eq 41, 3, 45, 0) := by decide +kernel
theorem p146_4 {s0 : Int} {q0 q1 q2 : MV} {ds : Ds} {m : Mm} {Q : Ds → Mm → List MV → Prop} : WP 146 4 [q0, q1, q2] [(0, s0)] ds m Q = (if s0 = 0 then WP 146 45 [q0, q1, q2] [] ds m Q else WP 146 7 [q0, q1, q2] [] ds m Q) := P_if k146_4 rfl
set_option maxRecDepth 20000 in
theorem k146_7 : mjCode 146 7 = some (.aload_n 0, 1, 0, 0) := by decide +kernel
theorem p146_7 {l0 : Int} {q1 q2 : MV} {ds : Ds} {m : Mm} {Q : Ds → Mm → List MV → Prop} : WP 146 7 [(2, l0), q1, q2] [] ds m Q = (WP 146 8 [(2, l0), q1, q2] [(2, l0)] ds m Q) := P_nx k146_7 rfl
set_option maxRecDepth 20000 in
theorem k146_8 : mjCode 146 8 = some (.iload_n 1, 1, 0, 0) := by decide +kernel
theorem p146_8 {l1 s0 : Int} {q0 q2 : MV} {ds : Ds} {m : Mm} {Q : Ds → Mm → List MV → Prop} : WP 146 8 [q0, (0, l1), q2] [(2, s0)] ds m Q = (WP 146 9 [q0, (0, l1), q2] [(0, l1), (2, s0)] ds m Q) := P_nx k146_8 rfl
set_option maxRecDepth 20000 in
theorem k146_9 : mjCode 146 9 = some (.invokevirtual 180, 3, 141, 2) := by decide +kernel
theorem p146_9 {s0 s1 : Int} {q0 q1 q2 : MV} {ds : Ds} {m : Mm} {Q : Ds → Mm → List MV → Prop} : WP 146 9 [q0, q1, q2] [(0, s0), (2, s1)] ds m Q = ((dk ds s1 = 7 ∧ WP 140 0 [(2, s1), (0, s0)] [] ds m (fun d2 m2 r2 => WP 146 12 [q0, q1, q2] (r2 ++ []) d2 m2 Q))) := P_cv k146_9 mx140 mo140 rfl rfl rfl rfl rfl rfl rfl rfl
set_option maxRecDepth 20000 in
theorem k146_12 : mjCode 146 12 = some (.ifCond .eq 33, 3, 45, 0) := by decide +kernel
theorem p146_12 {s0 : Int} {q0 q1 q2 : MV} {ds : Ds} {m : Mm} {Q : Ds → Mm → List MV → Prop} : WP 146 12 [q0, q1, q2] [(0, s0)] ds m Q = (if s0 = 0 then WP 146 45 [q0, q1, q2] [] ds m Q else WP 146 15 [q0, q1, q2] [] ds m Q) := P_if k146_12 rfl
set_option maxRecDepth 20000 in
theorem k146_15 : mjCode 146 15 = some (.iload_n 2, 1, 0, 0) := by decide +kernel
theorem p146_15 {l2 : Int} {q0 q1 : MV} {ds : Ds} {m : Mm} {Q : Ds → Mm → List MV → Prop} : WP 146 15 [q0, q1, (0, l2)] [] ds m Q = (WP 146 16 [q0, q1, (0, l2)] [(0, l2)] ds m Q) := P_nx k146_15 rfl
set_option maxRecDepth 20000 in
theorem k146_16 : mjCode 146 16 = some (.iconst 0, 1, 0, 0) := by decide +kernel
theorem p146_16 {s0 : Int} {q0 q1 q2 : MV} {ds : Ds} {m : Mm} {Q : Ds → Mm → List MV → Prop} : WP 146 16 [q0, q1, q2] [(0, s0)] ds m Q = (WP 146 17 [q0, q1, q2] [(0, 0), (0, s0)] ds m Q) := P_nx k146_16 rfl
set_option maxRecDepth 20000 in
theorem k146_17 : mjCode 146 17 = some (.aload_n 0, 1, 0, 0) := by decide +kernel
theorem p146_17 {l0 s0 s1 : Int} {q1 q2 : MV} {ds : Ds} {m : Mm} {Q : Ds → Mm → List MV → Prop} : WP 146 17 [(2, l0), q1, q2] [(0, s0), (0, s1)] ds m Q = (WP 146 18 [(2, l0), q1, q2] [(2, l0), (0, s0), (0, s1)] ds m Q) := P_nx k146_17 rfl
set_option maxRecDepth 20000 in
theorem k146_18 : mjCode 146 18 = some (.getfield 41, 3, 7, 12) := by decide +kernel
theorem p146_18 {s0 s1 s2 : Int} {q0 q1 q2 : MV} {ds : Ds} {m : Mm} {Q : Ds → Mm → List MV → Prop} : WP 146 18 [q0, q1, q2] [(2, s0), (0, s1), (0, s2)] ds m Q = ((dk ds s0 = 7 ∧ WP 146 21 [q0, q1, q2] [(2, m s0 12), (0, s1), (0, s2)] ds m Q)) := P_gd k146_18 rfl
set_option maxRecDepth 20000 in
theorem k146_21 : mjCode 146 21 = some (.iload_n 1, 1, 0, 0) := by decide +kernel
theorem p146_21 {l1 s0 s1 s2 : Int} {q0 q2 : MV} {ds : Ds} {m : Mm} {Q : Ds → Mm → List MV → Prop} : WP 146 21 [q0, (0, l1), q2] [(2, s0), (0, s1), (0, s2)] ds m Q = (WP 146 22 [q0, (0, l1), q2] [(0, l1), (2, s0), (0, s1), (0, s2)] ds m Q) := P_nx k146_21 rfl
set_option maxRecDepth 20000 in
theorem k146_22 : mjCode 146 22 = some (.iaload, 1, 0, 0) := by decide +kernel
theorem p146_22 {s0 s1 s2 s3 : Int} {q0 q1 q2 : MV} {ds : Ds} {m : Mm} {Q : Ds → Mm → List MV → Prop} : WP 146 22 [q0, q1, q2] [(0, s0), (2, s1), (0, s2), (0, s3)] ds m Q = ((dk ds s1 = 10 ∧ 0 ≤ s0 ∧ s0 < dl ds s1 ∧ WP 146 23 [q0, q1, q2] [(0, m s1 s0), (0, s2), (0, s3)] ds m Q)) := P_g3 k146_22 rfl
set_option maxRecDepth 20000 in
theorem k146_23 : mjCode 146 23 = some (.iconst 1, 1, 0, 0) := by decide +kernel
theorem p146_23 {s0 s1 s2 : Int} {q0 q1 q2 : MV} {ds : Ds} {m : Mm} {Q : Ds → Mm → List MV → Prop} : WP 146 23 [q0, q1, q2] [(0, s0), (0, s1), (0, s2)] ds m Q = (WP 146 24 [q0, q1, q2] [(0, 1), (0, s0), (0, s1), (0, s2)] ds m Q) := P_nx k146_23 rfl
set_option maxRecDepth 20000 in
theorem k146_24 : mjCode 146 24 = some (.isub, 1, 0, 0) := by decide +kernel
theorem p146_24 {s0 s1 s2 s3 : Int} {q0 q1 q2 : MV} {ds : Ds} {m : Mm} {Q : Ds → Mm → List MV → Prop} : WP 146 24 [q0, q1, q2] [(0, s0), (0, s1), (0, s2), (0, s3)] ds m Q = (WP 146 25 [q0, q1, q2] [(0, w32 (s1 - s0)), (0, s2), (0, s3)] ds m Q) := P_nx k146_24 rfl
set_option maxRecDepth 20000 in
theorem k146_25 : mjCode 146 25 = some (.invokestatic 141, 3, 121, 3) := by decide +kernel
theorem p146_25 {s0 s1 s2 : Int} {q0 q1 q2 : MV} {ds : Ds} {m : Mm} {Q : Ds → Mm → List MV → Prop} : WP 146 25 [q0, q1, q2] [(0, s0), (0, s1), (0, s2)] ds m Q = (WP 120 0 [(0, s2), (0, s1), (0, s0)] [] ds m (fun d2 m2 r2 => WP 146 28 [q0, q1, q2] (r2 ++ []) d2 m2 Q)) := P_cs k146_25 mx120 rfl rfl rfl rfl rfl rfl rfl
set_option maxRecDepth 20000 in
theorem k146_28 : mjCode 146 28 = some (.ifCond .eq 17, 3, 45, 0) := by decide +kernel
theorem p146_28 {s0 : Int} {q0 q1 q2 : MV} {ds : Ds} {m : Mm} {Q : Ds → Mm → List MV → Prop} : WP 146 28 [q0, q1, q2] [(0, s0)] ds m Q = (if s0 = 0 then WP 146 45 [q0, q1, q2] [] ds m Q else WP 146 31 [q0, q1, q2] [] ds m Q) := P_if k146_28 rfl
set_option maxRecDepth 20000 in
theorem k146_31 : mjCode 146 31 = some (.aload_n 0, 1, 0, 0) := by decide +kernel
theorem p146_31 {l0 : Int} {q1 q2 : MV} {ds : Ds} {m : Mm} {Q : Ds → Mm → List MV → Prop} : WP 146 31 [(2, l0), q1, q2] [] ds m Q = (WP 146 32 [(2, l0), q1, q2] [(2, l0)] ds m Q) := P_nx k146_31 rfl
set_option maxRecDepth 20000 in
theorem k146_32 : mjCode 146 32 = some (.getfield 44, 3, 7, 13) := by decide +kernel
theorem p146_32 {s0 : Int} {q0 q1 q2 : MV} {ds : Ds} {m : Mm} {Q : Ds → Mm → List MV → Prop} : WP 146 32 [q0, q1, q2] [(2, s0)] ds m Q = ((dk ds s0 = 7 ∧ WP 146 35 [q0, q1, q2] [(2, m s0 13)] ds m Q)) := P_gd k146_32 rfl
set_option maxRecDepth 20000 in
theorem k146_35 : mjCode 146 35 = some (.bipush 100, 2, 0, 0) := by decide +kernel
theorem p146_35 {s0 : Int} {q0 q1 q2 : MV} {ds : Ds} {m : Mm} {Q : Ds → Mm → List MV → Prop} : WP 146 35 [q0, q1, q2] [(2, s0)] ds m Q = (WP 146 37 [q0, q1, q2] [(0, 100), (2, s0)] ds m Q) := P_nx k146_35 rfl
set_option maxRecDepth 20000 in
theorem k146_37 : mjCode 146 37 = some (.iload_n 1, 1, 0, 0) := by decide +kernel
theorem p146_37 {l1 s0 s1 : Int} {q0 q2 : MV} {ds : Ds} {m : Mm} {Q : Ds → Mm → List MV → Prop} : WP 146 37 [q0, (0, l1), q2] [(0, s0), (2, s1)] ds m Q = (WP 146 38 [q0, (0, l1), q2] [(0, l1), (0, s0), (2, s1)] ds m Q) := P_nx k146_37 rfl
set_option maxRecDepth 20000 in
theorem k146_38 : mjCode 146 38 = some (.imul, 1, 0, 0) := by decide +kernel
theorem p146_38 {s0 s1 s2 : Int} {q0 q1 q2 : MV} {ds : Ds} {m : Mm} {Q : Ds → Mm → List MV → Prop} : WP 146 38 [q0, q1, q2] [(0, s0), (0, s1), (2, s2)] ds m Q = (WP 146 39 [q0, q1, q2] [(0, w32 (s1 * s0)), (2, s2)] ds m Q) := P_nx k146_38 rfl
set_option maxRecDepth 20000 in
theorem k146_39 : mjCode 146 39 = some (.iload_n 2, 1, 0, 0) := by decide +kernel
theorem p146_39 {l2 s0 s1 : Int} {q0 q1 : MV} {ds : Ds} {m : Mm} {Q : Ds → Mm → List MV → Prop} : WP 146 39 [q0, q1, (0, l2)] [(0, s0), (2, s1)] ds m Q = (WP 146 40 [q0, q1, (0, l2)] [(0, l2), (0, s0), (2, s1)] ds m Q) := P_nx k146_39 rfl
set_option maxRecDepth 20000 in
theorem k146_40 : mjCode 146 40 = some (.iadd, 1, 0, 0) := by decide +kernel
theorem p146_40 {s0 s1 s2 : Int} {q0 q1 q2 : MV} {ds : Ds} {m : Mm} {Q : Ds → Mm → List MV → Prop} : WP 146 40 [q0, q1, q2] [(0, s0), (0, s1), (2, s2)] ds m Q = (WP 146 41 [q0, q1, q2] [(0, w32 (s1 + s0)), (2, s2)] ds m Q) := P_nx k146_40 rfl
set_option maxRecDepth 20000 in
theorem k146_41 : mjCode 146 41 = some (.laload, 1, 0, 0) := by decide +kernel
theorem p146_41 {s0 s1 : Int} {q0 q1 q2 : MV} {ds : Ds} {m : Mm} {Q : Ds → Mm → List MV → Prop} : WP 146 41 [q0, q1, q2] [(0, s0), (2, s1)] ds m Q = ((dk ds s1 = 12 ∧ 0 ≤ s0 ∧ s0 < dl ds s1 ∧ WP 146 42 [q0, q1, q2] [(1, m s1 s0)] ds m Q)) := P_g3 k146_41 rfl
set_option maxRecDepth 20000 in
theorem k146_42 : mjCode 146 42 = some (.goto 4, 3, 46, 0) := by decide +kernel
theorem p146_42 {s0 : Int} {q0 q1 q2 : MV} {ds : Ds} {m : Mm} {Q : Ds → Mm → List MV → Prop} : WP 146 42 [q0, q1, q2] [(1, s0)] ds m Q = (WP 146 46 [q0, q1, q2] [(1, s0)] ds m Q) := P_nx k146_42 rfl
set_option maxRecDepth 20000 in
theorem k146_45 : mjCode 146 45 = some (.lconst 0, 1, 0, 0) := by decide +kernel
theorem p146_45 {q0 q1 q2 : MV} {ds : Ds} {m : Mm} {Q : Ds → Mm → List MV → Prop} : WP 146 45 [q0, q1, q2] [] ds m Q = (WP 146 46 [q0, q1, q2] [(1, 0)] ds m Q) := P_nx k146_45 rfl
set_option maxRecDepth 20000 in
theorem k146_46 : mjCode 146 46 = some (.lreturn, 1, 0, 0) := by decide +kernel
theorem p146_46 {s0 : Int} {q0 q1 q2 : MV} {ds : Ds} {m : Mm} {Q : Ds → Mm → List MV → Prop} : WP 146 46 [q0, q1, q2] [(1, s0)] ds m Q = (Q ds m [(1, s0)]) := P_rl k146_46 rk146
set_option maxRecDepth 20000 in
theorem k147_0 : mjCode 147 0 = some (.iload_n 1, 1, 0, 0) := by decide +kernel
theorem p147_0 {l1 : Int} {q0 : MV} {ds : Ds} {m : Mm} {Q : Ds → Mm → List MV → Prop} : WP 147 0 [q0, (0, l1)] [] ds m Q = (WP 147 1 [q0, (0, l1)] [(0, l1)] ds m Q) := P_nx k147_0 rfl
set_option maxRecDepth 20000 in
theorem k147_1 : mjCode 147 1 = some (.invokestatic 177, 3, 140, 1) := by decide +kernel
theorem p147_1 {s0 : Int} {q0 q1 : MV} {ds : Ds} {m : Mm} {Q : Ds → Mm → List MV → Prop} : WP 147 1 [q0, q1] [(0, s0)] ds m Q = (WP 139 0 [(0, s0)] [] ds m (fun d2 m2 r2 => WP 147 4 [q0, q1] (r2 ++ []) d2 m2 Q)) := P_cs k147_1 mx139 rfl rfl rfl rfl rfl rfl rfl
set_option maxRecDepth 20000 in
theorem k147_4 : mjCode 147 4 = some (.ifCond .eq 12, 3, 16, 0) := by decide +kernel
theorem p147_4 {s0 : Int} {q0 q1 : MV} {ds : Ds} {m : Mm} {Q : Ds → Mm → List MV → Prop} : WP 147 4 [q0, q1] [(0, s0)] ds m Q = (if s0 = 0 then WP 147 16 [q0, q1] [] ds m Q else WP 147 7 [q0, q1] [] ds m Q) := P_if k147_4 rfl
set_option maxRecDepth 20000 in
theorem k147_7 : mjCode 147 7 = some (.aload_n 0, 1, 0, 0) := by decide +kernel
theorem p147_7 {l0 : Int} {q1 : MV} {ds : Ds} {m : Mm} {Q : Ds → Mm → List MV → Prop} : WP 147 7 [(2, l0), q1] [] ds m Q = (WP 147 8 [(2, l0), q1] [(2, l0)] ds m Q) := P_nx k147_7 rfl
set_option maxRecDepth 20000 in
theorem k147_8 : mjCode 147 8 = some (.getfield 38, 3, 7, 11) := by decide +kernel
theorem p147_8 {s0 : Int} {q0 q1 : MV} {ds : Ds} {m : Mm} {Q : Ds → Mm → List MV → Prop} : WP 147 8 [q0, q1] [(2, s0)] ds m Q = ((dk ds s0 = 7 ∧ WP 147 11 [q0, q1] [(2, m s0 11)] ds m Q)) := P_gd k147_8 rfl
set_option maxRecDepth 20000 in
theorem k147_11 : mjCode 147 11 = some (.iload_n 1, 1, 0, 0) := by decide +kernel
theorem p147_11 {l1 s0 : Int} {q0 : MV} {ds : Ds} {m : Mm} {Q : Ds → Mm → List MV → Prop} : WP 147 11 [q0, (0, l1)] [(2, s0)] ds m Q = (WP 147 12 [q0, (0, l1)] [(0, l1), (2, s0)] ds m Q) := P_nx k147_11 rfl
set_option maxRecDepth 20000 in
theorem k147_12 : mjCode 147 12 = some (.iaload, 1, 0, 0) := by decide +kernel
theorem p147_12 {s0 s1 : Int} {q0 q1 : MV} {ds : Ds} {m : Mm} {Q : Ds → Mm → List MV → Prop} : WP 147 12 [q0, q1] [(0, s0), (2, s1)] ds m Q = ((dk ds s1 = 10 ∧ 0 ≤ s0 ∧ s0 < dl ds s1 ∧ WP 147 13 [q0, q1] [(0, m s1 s0)] ds m Q)) := P_g3 k147_12 rfl
set_option maxRecDepth 20000 in
theorem k147_13 : mjCode 147 13 = some (.goto 4, 3, 17, 0) := by decide +kernel
theorem p147_13 {s0 : Int} {q0 q1 : MV} {ds : Ds} {m : Mm} {Q : Ds → Mm → List MV → Prop} : WP 147 13 [q0, q1] [(0, s0)] ds m Q = (WP 147 17 [q0, q1] [(0, s0)] ds m Q) := P_nx k147_13 rfl
set_option maxRecDepth 20000 in
theorem k147_16 : mjCode 147 16 = some (.iconst (-1), 1, 0, 0) := by decide +kernel
theorem p147_16 {q0 q1 : MV} {ds : Ds} {m : Mm} {Q : Ds → Mm → List MV → Prop} : WP 147 16 [q0, q1] [] ds m Q = (WP 147 17 [q0, q1] [(0, (-1))] ds m Q) := P_nx k147_16 rfl
set_option maxRecDepth 20000 in
theorem k147_17 : mjCode 147 17 = some (.ireturn, 1, 0, 0) := by decide +kernel
theorem p147_17 {s0 : Int} {q0 q1 : MV} {ds : Ds} {m : Mm} {Q : Ds → Mm → List MV → Prop} : WP 147 17 [q0, q1] [(0, s0)] ds m Q = (Q ds m [(0, s0)]) := P_ri k147_17 rk147
set_option maxRecDepth 20000 in
theorem k148_0 : mjCode 148 0 = some (.aload_n 0, 1, 0, 0) := by decide +kernel
theorem p148_0 {l0 : Int} {q1 q2 : MV} {ds : Ds} {m : Mm} {Q : Ds → Mm → List MV → Prop} : WP 148 0 [(2, l0), q1, q2] [] ds m Q = (WP 148 1 [(2, l0), q1, q2] [(2, l0)] ds m Q) := P_nx k148_0 rfl
set_option maxRecDepth 20000 in
theorem k148_1 : mjCode 148 1 = some (.getfield 44, 3, 7, 13) := by decide +kernel
theorem p148_1 {s0 : Int} {q0 q1 q2 : MV} {ds : Ds} {m : Mm} {Q : Ds → Mm → List MV → Prop} : WP 148 1 [q0, q1, q2] [(2, s0)] ds m Q = ((dk ds s0 = 7 ∧ WP 148 4 [q0, q1, q2] [(2, m s0 13)] ds m Q)) := P_gd k148_1 rfl
set_option maxRecDepth 20000 in
theorem k148_4 : mjCode 148 4 = some (.bipush 100, 2, 0, 0) := by decide +kernel
theorem p148_4 {s0 : Int} {q0 q1 q2 : MV} {ds : Ds} {m : Mm} {Q : Ds → Mm → List MV → Prop} : WP 148 4 [q0, q1, q2] [(2, s0)] ds m Q = (WP 148 6 [q0, q1, q2] [(0, 100), (2, s0)] ds m Q) := P_nx k148_4 rfl
set_option maxRecDepth 20000 in
theorem k148_6 : mjCode 148 6 = some (.iload_n 1, 1, 0, 0) := by decide +kernel
theorem p148_6 {l1 s0 s1 : Int} {q0 q2 : MV} {ds : Ds} {m : Mm} {Q : Ds → Mm → List MV → Prop} : WP 148 6 [q0, (0, l1), q2] [(0, s0), (2, s1)] ds m Q = (WP 148 7 [q0, (0, l1), q2] [(0, l1), (0, s0), (2, s1)] ds m Q) := P_nx k148_6 rfl
set_option maxRecDepth 20000 in
theorem k148_7 : mjCode 148 7 = some (.imul, 1, 0, 0) := by decide +kernel
theorem p148_7 {s0 s1 s2 : Int} {q0 q1 q2 : MV} {ds : Ds} {m : Mm} {Q : Ds → Mm → List MV → Prop} : WP 148 7 [q0, q1, q2] [(0, s0), (0, s1), (2, s2)] ds m Q = (WP 148 8 [q0, q1, q2] [(0, w32 (s1 * s0)), (2, s2)] ds m Q) := P_nx k148_7 rfl
set_option maxRecDepth 20000 in
theorem k148_8 : mjCode 148 8 = some (.iload_n 2, 1, 0, 0) := by decide +kernel
theorem p148_8 {l2 s0 s1 : Int} {q0 q1 : MV} {ds : Ds} {m : Mm} {Q : Ds → Mm → List MV → Prop} : WP 148 8 [q0, q1, (0, l2)] [(0, s0), (2, s1)] ds m Q = (WP 148 9 [q0, q1, (0, l2)] [(0, l2), (0, s0), (2, s1)] ds m Q) := P_nx k148_8 rfl
set_option maxRecDepth 20000 in
theorem k148_9 : mjCode 148 9 = some (.iadd, 1, 0, 0) := by decide +kernel
theorem p148_9 {s0 s1 s2 : Int} {q0 q1 q2 : MV} {ds : Ds} {m : Mm} {Q : Ds → Mm → List MV → Prop} : WP 148 9 [q0, q1, q2] [(0, s0), (0, s1), (2, s2)] ds m Q = (WP 148 10 [q0, q1, q2] [(0, w32 (s1 + s0)), (2, s2)] ds m Q) := P_nx k148_9 rfl
set_option maxRecDepth 20000 in
theorem k148_10 : mjCode 148 10 = some (.laload, 1, 0, 0) := by decide +kernel
theorem p148_10 {s0 s1 : Int} {q0 q1 q2 : MV} {ds : Ds} {m : Mm} {Q : Ds → Mm → List MV → Prop} : WP 148 10 [q0, q1, q2] [(0, s0), (2, s1)] ds m Q = ((dk ds s1 = 12 ∧ 0 ≤ s0 ∧ s0 < dl ds s1 ∧ WP 148 11 [q0, q1, q2] [(1, m s1 s0)] ds m Q)) := P_g3 k148_10 rfl
set_option maxRecDepth 20000 in
theorem k148_11 : mjCode 148 11 = some (.l2i, 1, 0, 0) := by decide +kernel
theorem p148_11 {s0 : Int} {q0 q1 q2 : MV} {ds : Ds} {m : Mm} {Q : Ds → Mm → List MV → Prop} : WP 148 11 [q0, q1, q2] [(1, s0)] ds m Q = (WP 148 12 [q0, q1, q2] [(0, ji s0)] ds m Q) := P_nx k148_11 rfl
set_option maxRecDepth 20000 in
theorem k148_12 : mjCode 148 12 = some (.ireturn, 1, 0, 0) := by decide +kernel
theorem p148_12 {s0 : Int} {q0 q1 q2 : MV} {ds : Ds} {m : Mm} {Q : Ds → Mm → List MV → Prop} : WP 148 12 [q0, q1, q2] [(0, s0)] ds m Q = (Q ds m [(0, s0)]) := P_ri k148_12 rk148
set_option maxRecDepth 20000 in
theorem k149_0 : mjCode 149 0 = some (.iconst 0, 1, 0, 0) := by decide +kernel
theorem p149_0 {q0 q1 q2 q3 : MV} {ds : Ds} {m : Mm} {Q : Ds → Mm → List MV → Prop} : WP 149 0 [q0, q1, q2, q3] [] ds m Q = (WP 149 1 [q0, q1, q2, q3] [(0, 0)] ds m Q) := P_nx k149_0 rfl
set_option maxRecDepth 20000 in
theorem k149_1 : mjCode 149 1 = some (.istore_n 2, 1, 0, 0) := by decide +kernel
theorem p149_1 {l1 s0 : Int} {q0 q2 q3 : MV} {ds : Ds} {m : Mm} {Q : Ds → Mm → List MV → Prop} : WP 149 1 [q0, (0, l1), q2, q3] [(0, s0)] ds m Q = (WP 149 2 [q0, (0, l1), (0, s0), q3] [] ds m Q) := P_nx k149_1 rfl
set_option maxRecDepth 20000 in
theorem k149_2 : mjCode 149 2 = some (.iload_n 2, 1, 0, 0) := by decide +kernel
theorem p149_2 {l2 : Int} {q0 q1 q3 : MV} {ds : Ds} {m : Mm} {Q : Ds → Mm → List MV → Prop} : WP 149 2 [q0, q1, (0, l2), q3] [] ds m Q = (WP 149 3 [q0, q1, (0, l2), q3] [(0, l2)] ds m Q) := P_nx k149_2 rfl
set_option maxRecDepth 20000 in
theorem k149_3 : mjCode 149 3 = some (.bipush 96, 2, 0, 0) := by decide +kernel
theorem p149_3 {s0 : Int} {q0 q1 q2 q3 : MV} {ds : Ds} {m : Mm} {Q : Ds → Mm → List MV → Prop} : WP 149 3 [q0, q1, q2, q3] [(0, s0)] ds m Q = (WP 149 5 [q0, q1, q2, q3] [(0, 96), (0, s0)] ds m Q) := P_nx k149_3 rfl
set_option maxRecDepth 20000 in
theorem k149_5 : mjCode 149 5 = some (.if_icmp .ge 95, 3, 100, 0) := by decide +kernel
theorem p149_5 {s0 s1 : Int} {q0 q1 q2 q3 : MV} {ds : Ds} {m : Mm} {Q : Ds → Mm → List MV → Prop} : WP 149 5 [q0, q1, q2, q3] [(0, s0), (0, s1)] ds m Q = (if s1 < s0 then WP 149 8 [q0, q1, q2, q3] [] ds m Q else WP 149 100 [q0, q1, q2, q3] [] ds m Q) := P_if k149_5 rfl
set_option maxRecDepth 20000 in
theorem k149_8 : mjCode 149 8 = some (.sipush 480, 3, 0, 0) := by decide +kernel
theorem p149_8 {q0 q1 q2 q3 : MV} {ds : Ds} {m : Mm} {Q : Ds → Mm → List MV → Prop} : WP 149 8 [q0, q1, q2, q3] [] ds m Q = (WP 149 11 [q0, q1, q2, q3] [(0, 480)] ds m Q) := P_nx k149_8 rfl
set_option maxRecDepth 20000 in
theorem k149_11 : mjCode 149 11 = some (.iload_n 1, 1, 0, 0) := by decide +kernel
theorem p149_11 {l1 s0 : Int} {q0 q2 q3 : MV} {ds : Ds} {m : Mm} {Q : Ds → Mm → List MV → Prop} : WP 149 11 [q0, (0, l1), q2, q3] [(0, s0)] ds m Q = (WP 149 12 [q0, (0, l1), q2, q3] [(0, l1), (0, s0)] ds m Q) := P_nx k149_11 rfl
set_option maxRecDepth 20000 in
theorem k149_12 : mjCode 149 12 = some (.imul, 1, 0, 0) := by decide +kernel
theorem p149_12 {s0 s1 : Int} {q0 q1 q2 q3 : MV} {ds : Ds} {m : Mm} {Q : Ds → Mm → List MV → Prop} : WP 149 12 [q0, q1, q2, q3] [(0, s0), (0, s1)] ds m Q = (WP 149 13 [q0, q1, q2, q3] [(0, w32 (s1 * s0))] ds m Q) := P_nx k149_12 rfl
set_option maxRecDepth 20000 in
theorem k149_13 : mjCode 149 13 = some (.iconst 5, 1, 0, 0) := by decide +kernel
theorem p149_13 {s0 : Int} {q0 q1 q2 q3 : MV} {ds : Ds} {m : Mm} {Q : Ds → Mm → List MV → Prop} : WP 149 13 [q0, q1, q2, q3] [(0, s0)] ds m Q = (WP 149 14 [q0, q1, q2, q3] [(0, 5), (0, s0)] ds m Q) := P_nx k149_13 rfl
set_option maxRecDepth 20000 in
theorem k149_14 : mjCode 149 14 = some (.iload_n 2, 1, 0, 0) := by decide +kernel
theorem p149_14 {l2 s0 s1 : Int} {q0 q1 q3 : MV} {ds : Ds} {m : Mm} {Q : Ds → Mm → List MV → Prop} : WP 149 14 [q0, q1, (0, l2), q3] [(0, s0), (0, s1)] ds m Q = (WP 149 15 [q0, q1, (0, l2), q3] [(0, l2), (0, s0), (0, s1)] ds m Q) := P_nx k149_14 rfl
set_option maxRecDepth 20000 in
theorem k149_15 : mjCode 149 15 = some (.imul, 1, 0, 0) := by decide +kernel
theorem p149_15 {s0 s1 s2 : Int} {q0 q1 q2 q3 : MV} {ds : Ds} {m : Mm} {Q : Ds → Mm → List MV → Prop} : WP 149 15 [q0, q1, q2, q3] [(0, s0), (0, s1), (0, s2)] ds m Q = (WP 149 16 [q0, q1, q2, q3] [(0, w32 (s1 * s0)), (0, s2)] ds m Q) := P_nx k149_15 rfl
set_option maxRecDepth 20000 in
theorem k149_16 : mjCode 149 16 = some (.iadd, 1, 0, 0) := by decide +kernel
theorem p149_16 {s0 s1 : Int} {q0 q1 q2 q3 : MV} {ds : Ds} {m : Mm} {Q : Ds → Mm → List MV → Prop} : WP 149 16 [q0, q1, q2, q3] [(0, s0), (0, s1)] ds m Q = (WP 149 17 [q0, q1, q2, q3] [(0, w32 (s1 + s0))] ds m Q) := P_nx k149_16 rfl
set_option maxRecDepth 20000 in
theorem k149_17 : mjCode 149 17 = some (.istore_n 3, 1, 0, 0) := by decide +kernel
theorem p149_17 {l2 s0 : Int} {q0 q1 q3 : MV} {ds : Ds} {m : Mm} {Q : Ds → Mm → List MV → Prop} : WP 149 17 [q0, q1, (0, l2), q3] [(0, s0)] ds m Q = (WP 149 18 [q0, q1, (0, l2), (0, s0)] [] ds m Q) := P_nx k149_17 rfl
set_option maxRecDepth 20000 in
theorem k149_18 : mjCode 149 18 = some (.aload_n 0, 1, 0, 0) := by decide +kernel
theorem p149_18 {l0 : Int} {q1 q2 q3 : MV} {ds : Ds} {m : Mm} {Q : Ds → Mm → List MV → Prop} : WP 149 18 [(2, l0), q1, q2, q3] [] ds m Q = (WP 149 19 [(2, l0), q1, q2, q3] [(2, l0)] ds m Q) := P_nx k149_18 rfl
set_option maxRecDepth 20000 in
theorem k149_19 : mjCode 149 19 = some (.getfield 51, 3, 7, 15) := by decide +kernel
theorem p149_19 {s0 : Int} {q0 q1 q2 q3 : MV} {ds : Ds} {m : Mm} {Q : Ds → Mm → List MV → Prop} : WP 149 19 [q0, q1, q2, q3] [(2, s0)] ds m Q = ((dk ds s0 = 7 ∧ WP 149 22 [q0, q1, q2, q3] [(2, m s0 15)] ds m Q)) := P_gd k149_19 rfl
set_option maxRecDepth 20000 in
theorem k149_22 : mjCode 149 22 = some (.iload_n 3, 1, 0, 0) := by decide +kernel
theorem p149_22 {l3 s0 : Int} {q0 q1 q2 : MV} {ds : Ds} {m : Mm} {Q : Ds → Mm → List MV → Prop} : WP 149 22 [q0, q1, q2, (0, l3)] [(2, s0)] ds m Q = (WP 149 23 [q0, q1, q2, (0, l3)] [(0, l3), (2, s0)] ds m Q) := P_nx k149_22 rfl
set_option maxRecDepth 20000 in
theorem k149_23 : mjCode 149 23 = some (.aload_n 0, 1, 0, 0) := by decide +kernel
theorem p149_23 {l0 s0 s1 : Int} {q1 q2 q3 : MV} {ds : Ds} {m : Mm} {Q : Ds → Mm → List MV → Prop} : WP 149 23 [(2, l0), q1, q2, q3] [(0, s0), (2, s1)] ds m Q = (WP 149 24 [(2, l0), q1, q2, q3] [(2, l0), (0, s0), (2, s1)] ds m Q) := P_nx k149_23 rfl
set_option maxRecDepth 20000 in
theorem k149_24 : mjCode 149 24 = some (.getfield 13, 3, 7, 1) := by decide +kernel
theorem p149_24 {s0 s1 s2 : Int} {q0 q1 q2 q3 : MV} {ds : Ds} {m : Mm} {Q : Ds → Mm → List MV → Prop} : WP 149 24 [q0, q1, q2, q3] [(2, s0), (0, s1), (2, s2)] ds m Q = ((dk ds s0 = 7 ∧ WP 149 27 [q0, q1, q2, q3] [(2, m s0 1), (0, s1), (2, s2)] ds m Q)) := P_gd k149_24 rfl
set_option maxRecDepth 20000 in
theorem k149_27 : mjCode 149 27 = some (.iload_n 2, 1, 0, 0) := by decide +kernel
theorem p149_27 {l2 s0 s1 s2 : Int} {q0 q1 q3 : MV} {ds : Ds} {m : Mm} {Q : Ds → Mm → List MV → Prop} : WP 149 27 [q0, q1, (0, l2), q3] [(2, s0), (0, s1), (2, s2)] ds m Q = (WP 149 28 [q0, q1, (0, l2), q3] [(0, l2), (2, s0), (0, s1), (2, s2)] ds m Q) := P_nx k149_27 rfl
set_option maxRecDepth 20000 in
theorem k149_28 : mjCode 149 28 = some (.iaload, 1, 0, 0) := by decide +kernel
theorem p149_28 {s0 s1 s2 s3 : Int} {q0 q1 q2 q3 : MV} {ds : Ds} {m : Mm} {Q : Ds → Mm → List MV → Prop} : WP 149 28 [q0, q1, q2, q3] [(0, s0), (2, s1), (0, s2), (2, s3)] ds m Q = ((dk ds s1 = 10 ∧ 0 ≤ s0 ∧ s0 < dl ds s1 ∧ WP 149 29 [q0, q1, q2, q3] [(0, m s1 s0), (0, s2), (2, s3)] ds m Q)) := P_g3 k149_28 rfl
set_option maxRecDepth 20000 in
theorem k149_29 : mjCode 149 29 = some (.iastore, 1, 0, 0) := by decide +kernel
theorem p149_29 {s0 s1 s2 : Int} {q0 q1 q2 q3 : MV} {ds : Ds} {m : Mm} {Q : Ds → Mm → List MV → Prop} : WP 149 29 [q0, q1, q2, q3] [(0, s0), (0, s1), (2, s2)] ds m Q = ((dk ds s2 = 10 ∧ 0 ≤ s1 ∧ s1 < dl ds s2 ∧ WP 149 30 [q0, q1, q2, q3] [] ds (up m s2 s1 s0) Q)) := P_s3 k149_29 rfl
set_option maxRecDepth 20000 in
theorem k149_30 : mjCode 149 30 = some (.aload_n 0, 1, 0, 0) := by decide +kernel
theorem p149_30 {l0 : Int} {q1 q2 q3 : MV} {ds : Ds} {m : Mm} {Q : Ds → Mm → List MV → Prop} : WP 149 30 [(2, l0), q1, q2, q3] [] ds m Q = (WP 149 31 [(2, l0), q1, q2, q3] [(2, l0)] ds m Q) := P_nx k149_30 rfl
set_option maxRecDepth 20000 in
theorem k149_31 : mjCode 149 31 = some (.getfield 51, 3, 7, 15) := by decide +kernel
theorem p149_31 {s0 : Int} {q0 q1 q2 q3 : MV} {ds : Ds} {m : Mm} {Q : Ds → Mm → List MV → Prop} : WP 149 31 [q0, q1, q2, q3] [(2, s0)] ds m Q = ((dk ds s0 = 7 ∧ WP 149 34 [q0, q1, q2, q3] [(2, m s0 15)] ds m Q)) := P_gd k149_31 rfl
set_option maxRecDepth 20000 in
theorem k149_34 : mjCode 149 34 = some (.iload_n 3, 1, 0, 0) := by decide +kernel
theorem p149_34 {l3 s0 : Int} {q0 q1 q2 : MV} {ds : Ds} {m : Mm} {Q : Ds → Mm → List MV → Prop} : WP 149 34 [q0, q1, q2, (0, l3)] [(2, s0)] ds m Q = (WP 149 35 [q0, q1, q2, (0, l3)] [(0, l3), (2, s0)] ds m Q) := P_nx k149_34 rfl
set_option maxRecDepth 20000 in
theorem k149_35 : mjCode 149 35 = some (.iconst 1, 1, 0, 0) := by decide +kernel
theorem p149_35 {s0 s1 : Int} {q0 q1 q2 q3 : MV} {ds : Ds} {m : Mm} {Q : Ds → Mm → List MV → Prop} : WP 149 35 [q0, q1, q2, q3] [(0, s0), (2, s1)] ds m Q = (WP 149 36 [q0, q1, q2, q3] [(0, 1), (0, s0), (2, s1)] ds m Q) := P_nx k149_35 rfl
set_option maxRecDepth 20000 in
theorem k149_36 : mjCode 149 36 = some (.iadd, 1, 0, 0) := by decide +kernel
theorem p149_36 {s0 s1 s2 : Int} {q0 q1 q2 q3 : MV} {ds : Ds} {m : Mm} {Q : Ds → Mm → List MV → Prop} : WP 149 36 [q0, q1, q2, q3] [(0, s0), (0, s1), (2, s2)] ds m Q = (WP 149 37 [q0, q1, q2, q3] [(0, w32 (s1 + s0)), (2, s2)] ds m Q) := P_nx k149_36 rfl
set_option maxRecDepth 20000 in
theorem k149_37 : mjCode 149 37 = some (.aload_n 0, 1, 0, 0) := by decide +kernel
theorem p149_37 {l0 s0 s1 : Int} {q1 q2 q3 : MV} {ds : Ds} {m : Mm} {Q : Ds → Mm → List MV → Prop} : WP 149 37 [(2, l0), q1, q2, q3] [(0, s0), (2, s1)] ds m Q = (WP 149 38 [(2, l0), q1, q2, q3] [(2, l0), (0, s0), (2, s1)] ds m Q) := P_nx k149_37 rfl
set_option maxRecDepth 20000 in
theorem k149_38 : mjCode 149 38 = some (.getfield 16, 3, 7, 2) := by decide +kernel
theorem p149_38 {s0 s1 s2 : Int} {q0 q1 q2 q3 : MV} {ds : Ds} {m : Mm} {Q : Ds → Mm → List MV → Prop} : WP 149 38 [q0, q1, q2, q3] [(2, s0), (0, s1), (2, s2)] ds m Q = ((dk ds s0 = 7 ∧ WP 149 41 [q0, q1, q2, q3] [(2, m s0 2), (0, s1), (2, s2)] ds m Q)) := P_gd k149_38 rfl
set_option maxRecDepth 20000 in
theorem k149_41 : mjCode 149 41 = some (.iload_n 2, 1, 0, 0) := by decide +kernel
theorem p149_41 {l2 s0 s1 s2 : Int} {q0 q1 q3 : MV} {ds : Ds} {m : Mm} {Q : Ds → Mm → List MV → Prop} : WP 149 41 [q0, q1, (0, l2), q3] [(2, s0), (0, s1), (2, s2)] ds m Q = (WP 149 42 [q0, q1, (0, l2), q3] [(0, l2), (2, s0), (0, s1), (2, s2)] ds m Q) := P_nx k149_41 rfl
set_option maxRecDepth 20000 in
theorem k149_42 : mjCode 149 42 = some (.iaload, 1, 0, 0) := by decide +kernel
theorem p149_42 {s0 s1 s2 s3 : Int} {q0 q1 q2 q3 : MV} {ds : Ds} {m : Mm} {Q : Ds → Mm → List MV → Prop} : WP 149 42 [q0, q1, q2, q3] [(0, s0), (2, s1), (0, s2), (2, s3)] ds m Q = ((dk ds s1 = 10 ∧ 0 ≤ s0 ∧ s0 < dl ds s1 ∧ WP 149 43 [q0, q1, q2, q3] [(0, m s1 s0), (0, s2), (2, s3)] ds m Q)) := P_g3 k149_42 rfl
set_option maxRecDepth 20000 in
theorem k149_43 : mjCode 149 43 = some (.iastore, 1, 0, 0) := by decide +kernel
theorem p149_43 {s0 s1 s2 : Int} {q0 q1 q2 q3 : MV} {ds : Ds} {m : Mm} {Q : Ds → Mm → List MV → Prop} : WP 149 43 [q0, q1, q2, q3] [(0, s0), (0, s1), (2, s2)] ds m Q = ((dk ds s2 = 10 ∧ 0 ≤ s1 ∧ s1 < dl ds s2 ∧ WP 149 44 [q0, q1, q2, q3] [] ds (up m s2 s1 s0) Q)) := P_s3 k149_43 rfl
set_option maxRecDepth 20000 in
theorem k149_44 : mjCode 149 44 = some (.aload_n 0, 1, 0, 0) := by decide +kernel
theorem p149_44 {l0 : Int} {q1 q2 q3 : MV} {ds : Ds} {m : Mm} {Q : Ds → Mm → List MV → Prop} : WP 149 44 [(2, l0), q1, q2, q3] [] ds m Q = (WP 149 45 [(2, l0), q1, q2, q3] [(2, l0)] ds m Q) := P_nx k149_44 rfl
set_option maxRecDepth 20000 in
theorem k149_45 : mjCode 149 45 = some (.getfield 51, 3, 7, 15) := by decide +kernel
theorem p149_45 {s0 : Int} {q0 q1 q2 q3 : MV} {ds : Ds} {m : Mm} {Q : Ds → Mm → List MV → Prop} : WP 149 45 [q0, q1, q2, q3] [(2, s0)] ds m Q = ((dk ds s0 = 7 ∧ WP 149 48 [q0, q1, q2, q3] [(2, m s0 15)] ds m Q)) := P_gd k149_45 rfl
set_option maxRecDepth 20000 in
theorem k149_48 : mjCode 149 48 = some (.iload_n 3, 1, 0, 0) := by decide +kernel
theorem p149_48 {l3 s0 : Int} {q0 q1 q2 : MV} {ds : Ds} {m : Mm} {Q : Ds → Mm → List MV → Prop} : WP 149 48 [q0, q1, q2, (0, l3)] [(2, s0)] ds m Q = (WP 149 49 [q0, q1, q2, (0, l3)] [(0, l3), (2, s0)] ds m Q) := P_nx k149_48 rfl
set_option maxRecDepth 20000 in
theorem k149_49 : mjCode 149 49 = some (.iconst 2, 1, 0, 0) := by decide +kernel
theorem p149_49 {s0 s1 : Int} {q0 q1 q2 q3 : MV} {ds : Ds} {m : Mm} {Q : Ds → Mm → List MV → Prop} : WP 149 49 [q0, q1, q2, q3] [(0, s0), (2, s1)] ds m Q = (WP 149 50 [q0, q1, q2, q3] [(0, 2), (0, s0), (2, s1)] ds m Q) := P_nx k149_49 rfl
set_option maxRecDepth 20000 in
theorem k149_50 : mjCode 149 50 = some (.iadd, 1, 0, 0) := by decide +kernel
theorem p149_50 {s0 s1 s2 : Int} {q0 q1 q2 q3 : MV} {ds : Ds} {m : Mm} {Q : Ds → Mm → List MV → Prop} : WP 149 50 [q0, q1, q2, q3] [(0, s0), (0, s1), (2, s2)] ds m Q = (WP 149 51 [q0, q1, q2, q3] [(0, w32 (s1 + s0)), (2, s2)] ds m Q) := P_nx k149_50 rfl
set_option maxRecDepth 20000 in
theorem k149_51 : mjCode 149 51 = some (.aload_n 0, 1, 0, 0) := by decide +kernel
theorem p149_51 {l0 s0 s1 : Int} {q1 q2 q3 : MV} {ds : Ds} {m : Mm} {Q : Ds → Mm → List MV → Prop} : WP 149 51 [(2, l0), q1, q2, q3] [(0, s0), (2, s1)] ds m Q = (WP 149 52 [(2, l0), q1, q2, q3] [(2, l0), (0, s0), (2, s1)] ds m Q) := P_nx k149_51 rfl
set_option maxRecDepth 20000 in
theorem k149_52 : mjCode 149 52 = some (.getfield 19, 3, 7, 3) := by decide +kernel
theorem p149_52 {s0 s1 s2 : Int} {q0 q1 q2 q3 : MV} {ds : Ds} {m : Mm} {Q : Ds → Mm → List MV → Prop} : WP 149 52 [q0, q1, q2, q3] [(2, s0), (0, s1), (2, s2)] ds m Q = ((dk ds s0 = 7 ∧ WP 149 55 [q0, q1, q2, q3] [(2, m s0 3), (0, s1), (2, s2)] ds m Q)) := P_gd k149_52 rfl
set_option maxRecDepth 20000 in
theorem k149_55 : mjCode 149 55 = some (.iload_n 2, 1, 0, 0) := by decide +kernel
theorem p149_55 {l2 s0 s1 s2 : Int} {q0 q1 q3 : MV} {ds : Ds} {m : Mm} {Q : Ds → Mm → List MV → Prop} : WP 149 55 [q0, q1, (0, l2), q3] [(2, s0), (0, s1), (2, s2)] ds m Q = (WP 149 56 [q0, q1, (0, l2), q3] [(0, l2), (2, s0), (0, s1), (2, s2)] ds m Q) := P_nx k149_55 rfl
set_option maxRecDepth 20000 in
theorem k149_56 : mjCode 149 56 = some (.iaload, 1, 0, 0) := by decide +kernel
theorem p149_56 {s0 s1 s2 s3 : Int} {q0 q1 q2 q3 : MV} {ds : Ds} {m : Mm} {Q : Ds → Mm → List MV → Prop} : WP 149 56 [q0, q1, q2, q3] [(0, s0), (2, s1), (0, s2), (2, s3)] ds m Q = ((dk ds s1 = 10 ∧ 0 ≤ s0 ∧ s0 < dl ds s1 ∧ WP 149 57 [q0, q1, q2, q3] [(0, m s1 s0), (0, s2), (2, s3)] ds m Q)) := P_g3 k149_56 rfl
set_option maxRecDepth 20000 in
theorem k149_57 : mjCode 149 57 = some (.iastore, 1, 0, 0) := by decide +kernel
theorem p149_57 {s0 s1 s2 : Int} {q0 q1 q2 q3 : MV} {ds : Ds} {m : Mm} {Q : Ds → Mm → List MV → Prop} : WP 149 57 [q0, q1, q2, q3] [(0, s0), (0, s1), (2, s2)] ds m Q = ((dk ds s2 = 10 ∧ 0 ≤ s1 ∧ s1 < dl ds s2 ∧ WP 149 58 [q0, q1, q2, q3] [] ds (up m s2 s1 s0) Q)) := P_s3 k149_57 rfl
set_option maxRecDepth 20000 in
theorem k149_58 : mjCode 149 58 = some (.aload_n 0, 1, 0, 0) := by decide +kernel
theorem p149_58 {l0 : Int} {q1 q2 q3 : MV} {ds : Ds} {m : Mm} {Q : Ds → Mm → List MV → Prop} : WP 149 58 [(2, l0), q1, q2, q3] [] ds m Q = (WP 149 59 [(2, l0), q1, q2, q3] [(2, l0)] ds m Q) := P_nx k149_58 rfl
set_option maxRecDepth 20000 in
theorem k149_59 : mjCode 149 59 = some (.getfield 51, 3, 7, 15) := by decide +kernel
theorem p149_59 {s0 : Int} {q0 q1 q2 q3 : MV} {ds : Ds} {m : Mm} {Q : Ds → Mm → List MV → Prop} : WP 149 59 [q0, q1, q2, q3] [(2, s0)] ds m Q = ((dk ds s0 = 7 ∧ WP 149 62 [q0, q1, q2, q3] [(2, m s0 15)] ds m Q)) := P_gd k149_59 rfl
set_option maxRecDepth 20000 in
theorem k149_62 : mjCode 149 62 = some (.iload_n 3, 1, 0, 0) := by decide +kernel
theorem p149_62 {l3 s0 : Int} {q0 q1 q2 : MV} {ds : Ds} {m : Mm} {Q : Ds → Mm → List MV → Prop} : WP 149 62 [q0, q1, q2, (0, l3)] [(2, s0)] ds m Q = (WP 149 63 [q0, q1, q2, (0, l3)] [(0, l3), (2, s0)] ds m Q) := P_nx k149_62 rfl
set_option maxRecDepth 20000 in
theorem k149_63 : mjCode 149 63 = some (.iconst 3, 1, 0, 0) := by decide +kernel
theorem p149_63 {s0 s1 : Int} {q0 q1 q2 q3 : MV} {ds : Ds} {m : Mm} {Q : Ds → Mm → List MV → Prop} : WP 149 63 [q0, q1, q2, q3] [(0, s0), (2, s1)] ds m Q = (WP 149 64 [q0, q1, q2, q3] [(0, 3), (0, s0), (2, s1)] ds m Q) := P_nx k149_63 rfl
set_option maxRecDepth 20000 in
theorem k149_64 : mjCode 149 64 = some (.iadd, 1, 0, 0) := by decide +kernel
theorem p149_64 {s0 s1 s2 : Int} {q0 q1 q2 q3 : MV} {ds : Ds} {m : Mm} {Q : Ds → Mm → List MV → Prop} : WP 149 64 [q0, q1, q2, q3] [(0, s0), (0, s1), (2, s2)] ds m Q = (WP 149 65 [q0, q1, q2, q3] [(0, w32 (s1 + s0)), (2, s2)] ds m Q) := P_nx k149_64 rfl
set_option maxRecDepth 20000 in
theorem k149_65 : mjCode 149 65 = some (.aload_n 0, 1, 0, 0) := by decide +kernel
theorem p149_65 {l0 s0 s1 : Int} {q1 q2 q3 : MV} {ds : Ds} {m : Mm} {Q : Ds → Mm → List MV → Prop} : WP 149 65 [(2, l0), q1, q2, q3] [(0, s0), (2, s1)] ds m Q = (WP 149 66 [(2, l0), q1, q2, q3] [(2, l0), (0, s0), (2, s1)] ds m Q) := P_nx k149_65 rfl
set_option maxRecDepth 20000 in
theorem k149_66 : mjCode 149 66 = some (.getfield 22, 3, 7, 4) := by decide +kernel
theorem p149_66 {s0 s1 s2 : Int} {q0 q1 q2 q3 : MV} {ds : Ds} {m : Mm} {Q : Ds → Mm → List MV → Prop} : WP 149 66 [q0, q1, q2, q3] [(2, s0), (0, s1), (2, s2)] ds m Q = ((dk ds s0 = 7 ∧ WP 149 69 [q0, q1, q2, q3] [(2, m s0 4), (0, s1), (2, s2)] ds m Q)) := P_gd k149_66 rfl
set_option maxRecDepth 20000 in
theorem k149_69 : mjCode 149 69 = some (.iload_n 2, 1, 0, 0) := by decide +kernel
theorem p149_69 {l2 s0 s1 s2 : Int} {q0 q1 q3 : MV} {ds : Ds} {m : Mm} {Q : Ds → Mm → List MV → Prop} : WP 149 69 [q0, q1, (0, l2), q3] [(2, s0), (0, s1), (2, s2)] ds m Q = (WP 149 70 [q0, q1, (0, l2), q3] [(0, l2), (2, s0), (0, s1), (2, s2)] ds m Q) := P_nx k149_69 rfl
set_option maxRecDepth 20000 in
theorem k149_70 : mjCode 149 70 = some (.iaload, 1, 0, 0) := by decide +kernel
theorem p149_70 {s0 s1 s2 s3 : Int} {q0 q1 q2 q3 : MV} {ds : Ds} {m : Mm} {Q : Ds → Mm → List MV → Prop} : WP 149 70 [q0, q1, q2, q3] [(0, s0), (2, s1), (0, s2), (2, s3)] ds m Q = ((dk ds s1 = 10 ∧ 0 ≤ s0 ∧ s0 < dl ds s1 ∧ WP 149 71 [q0, q1, q2, q3] [(0, m s1 s0), (0, s2), (2, s3)] ds m Q)) := P_g3 k149_70 rfl
set_option maxRecDepth 20000 in
theorem k149_71 : mjCode 149 71 = some (.iastore, 1, 0, 0) := by decide +kernel
theorem p149_71 {s0 s1 s2 : Int} {q0 q1 q2 q3 : MV} {ds : Ds} {m : Mm} {Q : Ds → Mm → List MV → Prop} : WP 149 71 [q0, q1, q2, q3] [(0, s0), (0, s1), (2, s2)] ds m Q = ((dk ds s2 = 10 ∧ 0 ≤ s1 ∧ s1 < dl ds s2 ∧ WP 149 72 [q0, q1, q2, q3] [] ds (up m s2 s1 s0) Q)) := P_s3 k149_71 rfl
set_option maxRecDepth 20000 in
theorem k149_72 : mjCode 149 72 = some (.aload_n 0, 1, 0, 0) := by decide +kernel
theorem p149_72 {l0 : Int} {q1 q2 q3 : MV} {ds : Ds} {m : Mm} {Q : Ds → Mm → List MV → Prop} : WP 149 72 [(2, l0), q1, q2, q3] [] ds m Q = (WP 149 73 [(2, l0), q1, q2, q3] [(2, l0)] ds m Q) := P_nx k149_72 rfl
set_option maxRecDepth 20000 in
theorem k149_73 : mjCode 149 73 = some (.getfield 51, 3, 7, 15) := by decide +kernel
theorem p149_73 {s0 : Int} {q0 q1 q2 q3 : MV} {ds : Ds} {m : Mm} {Q : Ds → Mm → List MV → Prop} : WP 149 73 [q0, q1, q2, q3] [(2, s0)] ds m Q = ((dk ds s0 = 7 ∧ WP 149 76 [q0, q1, q2, q3] [(2, m s0 15)] ds m Q)) := P_gd k149_73 rfl
set_option maxRecDepth 20000 in
theorem k149_76 : mjCode 149 76 = some (.iload_n 3, 1, 0, 0) := by decide +kernel
theorem p149_76 {l3 s0 : Int} {q0 q1 q2 : MV} {ds : Ds} {m : Mm} {Q : Ds → Mm → List MV → Prop} : WP 149 76 [q0, q1, q2, (0, l3)] [(2, s0)] ds m Q = (WP 149 77 [q0, q1, q2, (0, l3)] [(0, l3), (2, s0)] ds m Q) := P_nx k149_76 rfl
set_option maxRecDepth 20000 in
theorem k149_77 : mjCode 149 77 = some (.iconst 4, 1, 0, 0) := by decide +kernel
theorem p149_77 {s0 s1 : Int} {q0 q1 q2 q3 : MV} {ds : Ds} {m : Mm} {Q : Ds → Mm → List MV → Prop} : WP 149 77 [q0, q1, q2, q3] [(0, s0), (2, s1)] ds m Q = (WP 149 78 [q0, q1, q2, q3] [(0, 4), (0, s0), (2, s1)] ds m Q) := P_nx k149_77 rfl
set_option maxRecDepth 20000 in
theorem k149_78 : mjCode 149 78 = some (.iadd, 1, 0, 0) := by decide +kernel
theorem p149_78 {s0 s1 s2 : Int} {q0 q1 q2 q3 : MV} {ds : Ds} {m : Mm} {Q : Ds → Mm → List MV → Prop} : WP 149 78 [q0, q1, q2, q3] [(0, s0), (0, s1), (2, s2)] ds m Q = (WP 149 79 [q0, q1, q2, q3] [(0, w32 (s1 + s0)), (2, s2)] ds m Q) := P_nx k149_78 rfl
set_option maxRecDepth 20000 in
theorem k149_79 : mjCode 149 79 = some (.aload_n 0, 1, 0, 0) := by decide +kernel
theorem p149_79 {l0 s0 s1 : Int} {q1 q2 q3 : MV} {ds : Ds} {m : Mm} {Q : Ds → Mm → List MV → Prop} : WP 149 79 [(2, l0), q1, q2, q3] [(0, s0), (2, s1)] ds m Q = (WP 149 80 [(2, l0), q1, q2, q3] [(2, l0), (0, s0), (2, s1)] ds m Q) := P_nx k149_79 rfl
set_option maxRecDepth 20000 in
theorem k149_80 : mjCode 149 80 = some (.getfield 25, 3, 7, 5) := by decide +kernel
theorem p149_80 {s0 s1 s2 : Int} {q0 q1 q2 q3 : MV} {ds : Ds} {m : Mm} {Q : Ds → Mm → List MV → Prop} : WP 149 80 [q0, q1, q2, q3] [(2, s0), (0, s1), (2, s2)] ds m Q = ((dk ds s0 = 7 ∧ WP 149 83 [q0, q1, q2, q3] [(2, m s0 5), (0, s1), (2, s2)] ds m Q)) := P_gd k149_80 rfl
set_option maxRecDepth 20000 in
theorem k149_83 : mjCode 149 83 = some (.iload_n 2, 1, 0, 0) := by decide +kernel
theorem p149_83 {l2 s0 s1 s2 : Int} {q0 q1 q3 : MV} {ds : Ds} {m : Mm} {Q : Ds → Mm → List MV → Prop} : WP 149 83 [q0, q1, (0, l2), q3] [(2, s0), (0, s1), (2, s2)] ds m Q = (WP 149 84 [q0, q1, (0, l2), q3] [(0, l2), (2, s0), (0, s1), (2, s2)] ds m Q) := P_nx k149_83 rfl
set_option maxRecDepth 20000 in
theorem k149_84 : mjCode 149 84 = some (.baload, 1, 0, 0) := by decide +kernel
theorem p149_84 {s0 s1 s2 s3 : Int} {q0 q1 q2 q3 : MV} {ds : Ds} {m : Mm} {Q : Ds → Mm → List MV → Prop} : WP 149 84 [q0, q1, q2, q3] [(0, s0), (2, s1), (0, s2), (2, s3)] ds m Q = ((dk ds s1 = 11 ∧ 0 ≤ s0 ∧ s0 < dl ds s1 ∧ WP 149 85 [q0, q1, q2, q3] [(0, m s1 s0), (0, s2), (2, s3)] ds m Q)) := P_g3 k149_84 rfl
set_option maxRecDepth 20000 in
theorem k149_85 : mjCode 149 85 = some (.ifCond .eq 7, 3, 92, 0) := by decide +kernel
theorem p149_85 {s0 s1 s2 : Int} {q0 q1 q2 q3 : MV} {ds : Ds} {m : Mm} {Q : Ds → Mm → List MV → Prop} : WP 149 85 [q0, q1, q2, q3] [(0, s0), (0, s1), (2, s2)] ds m Q = (if s0 = 0 then WP 149 92 [q0, q1, q2, q3] [(0, s1), (2, s2)] ds m Q else WP 149 88 [q0, q1, q2, q3] [(0, s1), (2, s2)] ds m Q) := P_if k149_85 rfl
set_option maxRecDepth 20000 in
theorem k149_88 : mjCode 149 88 = some (.iconst 1, 1, 0, 0) := by decide +kernel
theorem p149_88 {s0 s1 : Int} {q0 q1 q2 q3 : MV} {ds : Ds} {m : Mm} {Q : Ds → Mm → List MV → Prop} : WP 149 88 [q0, q1, q2, q3] [(0, s0), (2, s1)] ds m Q = (WP 149 89 [q0, q1, q2, q3] [(0, 1), (0, s0), (2, s1)] ds m Q) := P_nx k149_88 rfl
set_option maxRecDepth 20000 in
theorem k149_89 : mjCode 149 89 = some (.goto 4, 3, 93, 0) := by decide +kernel
theorem p149_89 {s0 s1 s2 : Int} {q0 q1 q2 q3 : MV} {ds : Ds} {m : Mm} {Q : Ds → Mm → List MV → Prop} : WP 149 89 [q0, q1, q2, q3] [(0, s0), (0, s1), (2, s2)] ds m Q = (WP 149 93 [q0, q1, q2, q3] [(0, s0), (0, s1), (2, s2)] ds m Q) := P_nx k149_89 rfl
set_option maxRecDepth 20000 in
theorem k149_92 : mjCode 149 92 = some (.iconst 0, 1, 0, 0) := by decide +kernel
theorem p149_92 {s0 s1 : Int} {q0 q1 q2 q3 : MV} {ds : Ds} {m : Mm} {Q : Ds → Mm → List MV → Prop} : WP 149 92 [q0, q1, q2, q3] [(0, s0), (2, s1)] ds m Q = (WP 149 93 [q0, q1, q2, q3] [(0, 0), (0, s0), (2, s1)] ds m Q) := P_nx k149_92 rfl
set_option maxRecDepth 20000 in
theorem k149_93 : mjCode 149 93 = some (.iastore, 1, 0, 0) := by decide +kernel
theorem p149_93 {s0 s1 s2 : Int} {q0 q1 q2 q3 : MV} {ds : Ds} {m : Mm} {Q : Ds → Mm → List MV → Prop} : WP 149 93 [q0, q1, q2, q3] [(0, s0), (0, s1), (2, s2)] ds m Q = ((dk ds s2 = 10 ∧ 0 ≤ s1 ∧ s1 < dl ds s2 ∧ WP 149 94 [q0, q1, q2, q3] [] ds (up m s2 s1 s0) Q)) := P_s3 k149_93 rfl
set_option maxRecDepth 20000 in
theorem k149_94 : mjCode 149 94 = some (.iinc 2 1, 3, 0, 0) := by decide +kernel
theorem p149_94 {l2 : Int} {q0 q1 q3 : MV} {ds : Ds} {m : Mm} {Q : Ds → Mm → List MV → Prop} : WP 149 94 [q0, q1, (0, l2), q3] [] ds m Q = (WP 149 97 [q0, q1, (0, w32 (l2 + 1)), q3] [] ds m Q) := P_nx k149_94 rfl
set_option maxRecDepth 20000 in
theorem k149_97 : mjCode 149 97 = some (.goto (-95), 3, 2, 0) := by decide +kernel
theorem p149_97 {q0 q1 q2 q3 : MV} {ds : Ds} {m : Mm} {Q : Ds → Mm → List MV → Prop} : WP 149 97 [q0, q1, q2, q3] [] ds m Q = (WP 149 2 [q0, q1, q2, q3] [] ds m Q) := P_nx k149_97 rfl
set_option maxRecDepth 20000 in
theorem k149_100 : mjCode 149 100 = some (.aload_n 0, 1, 0, 0) := by decide +kernel
theorem p149_100 {l0 : Int} {q1 q2 q3 : MV} {ds : Ds} {m : Mm} {Q : Ds → Mm → List MV → Prop} : WP 149 100 [(2, l0), q1, q2, q3] [] ds m Q = (WP 149 101 [(2, l0), q1, q2, q3] [(2, l0)] ds m Q) := P_nx k149_100 rfl
set_option maxRecDepth 20000 in
theorem k149_101 : mjCode 149 101 = some (.getfield 54, 3, 7, 16) := by decide +kernel
theorem p149_101 {s0 : Int} {q0 q1 q2 q3 : MV} {ds : Ds} {m : Mm} {Q : Ds → Mm → List MV → Prop} : WP 149 101 [q0, q1, q2, q3] [(2, s0)] ds m Q = ((dk ds s0 = 7 ∧ WP 149 104 [q0, q1, q2, q3] [(2, m s0 16)] ds m Q)) := P_gd k149_101 rfl
set_option maxRecDepth 20000 in
theorem k149_104 : mjCode 149 104 = some (.bipush 13, 2, 0, 0) := by decide +kernel
theorem p149_104 {s0 : Int} {q0 q1 q2 q3 : MV} {ds : Ds} {m : Mm} {Q : Ds → Mm → List MV → Prop} : WP 149 104 [q0, q1, q2, q3] [(2, s0)] ds m Q = (WP 149 106 [q0, q1, q2, q3] [(0, 13), (2, s0)] ds m Q) := P_nx k149_104 rfl
set_option maxRecDepth 20000 in
theorem k149_106 : mjCode 149 106 = some (.iload_n 1, 1, 0, 0) := by decide +kernel
theorem p149_106 {l1 s0 s1 : Int} {q0 q2 q3 : MV} {ds : Ds} {m : Mm} {Q : Ds → Mm → List MV → Prop} : WP 149 106 [q0, (0, l1), q2, q3] [(0, s0), (2, s1)] ds m Q = (WP 149 107 [q0, (0, l1), q2, q3] [(0, l1), (0, s0), (2, s1)] ds m Q) := P_nx k149_106 rfl
set_option maxRecDepth 20000 in
theorem k149_107 : mjCode 149 107 = some (.imul, 1, 0, 0) := by decide +kernel
theorem p149_107 {s0 s1 s2 : Int} {q0 q1 q2 q3 : MV} {ds : Ds} {m : Mm} {Q : Ds → Mm → List MV → Prop} : WP 149 107 [q0, q1, q2, q3] [(0, s0), (0, s1), (2, s2)] ds m Q = (WP 149 108 [q0, q1, q2, q3] [(0, w32 (s1 * s0)), (2, s2)] ds m Q) := P_nx k149_107 rfl
set_option maxRecDepth 20000 in
theorem k149_108 : mjCode 149 108 = some (.aload_n 0, 1, 0, 0) := by decide +kernel
theorem p149_108 {l0 s0 s1 : Int} {q1 q2 q3 : MV} {ds : Ds} {m : Mm} {Q : Ds → Mm → List MV → Prop} : WP 149 108 [(2, l0), q1, q2, q3] [(0, s0), (2, s1)] ds m Q = (WP 149 109 [(2, l0), q1, q2, q3] [(2, l0), (0, s0), (2, s1)] ds m Q) := P_nx k149_108 rfl
set_option maxRecDepth 20000 in
theorem k149_109 : mjCode 149 109 = some (.getfield 173, 3, 7, 6) := by decide +kernel
theorem p149_109 {s0 s1 s2 : Int} {q0 q1 q2 q3 : MV} {ds : Ds} {m : Mm} {Q : Ds → Mm → List MV → Prop} : WP 149 109 [q0, q1, q2, q3] [(2, s0), (0, s1), (2, s2)] ds m Q = ((dk ds s0 = 7 ∧ WP 149 112 [q0, q1, q2, q3] [(0, m s0 6), (0, s1), (2, s2)] ds m Q)) := P_gd k149_109 rfl
set_option maxRecDepth 20000 in
theorem k149_112 : mjCode 149 112 = some (.iastore, 1, 0, 0) := by decide +kernel
theorem p149_112 {s0 s1 s2 : Int} {q0 q1 q2 q3 : MV} {ds : Ds} {m : Mm} {Q : Ds → Mm → List MV → Prop} : WP 149 112 [q0, q1, q2, q3] [(0, s0), (0, s1), (2, s2)] ds m Q = ((dk ds s2 = 10 ∧ 0 ≤ s1 ∧ s1 < dl ds s2 ∧ WP 149 113 [q0, q1, q2, q3] [] ds (up m s2 s1 s0) Q)) := P_s3 k149_112 rfl
set_option maxRecDepth 20000 in
theorem k149_113 : mjCode 149 113 = some (.iconst 0, 1, 0, 0) := by decide +kernel
theorem p149_113 {q0 q1 q2 q3 : MV} {ds : Ds} {m : Mm} {Q : Ds → Mm → List MV → Prop} : WP 149 113 [q0, q1, q2, q3] [] ds m Q = (WP 149 114 [q0, q1, q2, q3] [(0, 0)] ds m Q) := P_nx k149_113 rfl
set_option maxRecDepth 20000 in
theorem k149_114 : mjCode 149 114 = some (.istore_n 2, 1, 0, 0) := by decide +kernel
theorem p149_114 {l1 s0 : Int} {q0 q2 q3 : MV} {ds : Ds} {m : Mm} {Q : Ds → Mm → List MV → Prop} : WP 149 114 [q0, (0, l1), q2, q3] [(0, s0)] ds m Q = (WP 149 115 [q0, (0, l1), (0, s0), q3] [] ds m Q) := P_nx k149_114 rfl
set_option maxRecDepth 20000 in
theorem k149_115 : mjCode 149 115 = some (.iload_n 2, 1, 0, 0) := by decide +kernel
theorem p149_115 {l2 : Int} {q0 q1 q3 : MV} {ds : Ds} {m : Mm} {Q : Ds → Mm → List MV → Prop} : WP 149 115 [q0, q1, (0, l2), q3] [] ds m Q = (WP 149 116 [q0, q1, (0, l2), q3] [(0, l2)] ds m Q) := P_nx k149_115 rfl
set_option maxRecDepth 20000 in
theorem k149_116 : mjCode 149 116 = some (.iconst 4, 1, 0, 0) := by decide +kernel
theorem p149_116 {s0 : Int} {q0 q1 q2 q3 : MV} {ds : Ds} {m : Mm} {Q : Ds → Mm → List MV → Prop} : WP 149 116 [q0, q1, q2, q3] [(0, s0)] ds m Q = (WP 149 117 [q0, q1, q2, q3] [(0, 4), (0, s0)] ds m Q) := P_nx k149_116 rfl
set_option maxRecDepth 20000 in
theorem k149_117 : mjCode 149 117 = some (.if_icmp .ge 67, 3, 184, 0) := by decide +kernel
theorem p149_117 {s0 s1 : Int} {q0 q1 q2 q3 : MV} {ds : Ds} {m : Mm} {Q : Ds → Mm → List MV → Prop} : WP 149 117 [q0, q1, q2, q3] [(0, s0), (0, s1)] ds m Q = (if s1 < s0 then WP 149 120 [q0, q1, q2, q3] [] ds m Q else WP 149 184 [q0, q1, q2, q3] [] ds m Q) := P_if k149_117 rfl
set_option maxRecDepth 20000 in
theorem k149_120 : mjCode 149 120 = some (.aload_n 0, 1, 0, 0) := by decide +kernel
theorem p149_120 {l0 : Int} {q1 q2 q3 : MV} {ds : Ds} {m : Mm} {Q : Ds → Mm → List MV → Prop} : WP 149 120 [(2, l0), q1, q2, q3] [] ds m Q = (WP 149 121 [(2, l0), q1, q2, q3] [(2, l0)] ds m Q) := P_nx k149_120 rfl
set_option maxRecDepth 20000 in
theorem k149_121 : mjCode 149 121 = some (.getfield 54, 3, 7, 16) := by decide +kernel
theorem p149_121 {s0 : Int} {q0 q1 q2 q3 : MV} {ds : Ds} {m : Mm} {Q : Ds → Mm → List MV → Prop} : WP 149 121 [q0, q1, q2, q3] [(2, s0)] ds m Q = ((dk ds s0 = 7 ∧ WP 149 124 [q0, q1, q2, q3] [(2, m s0 16)] ds m Q)) := P_gd k149_121 rfl
set_option maxRecDepth 20000 in
theorem k149_124 : mjCode 149 124 = some (.bipush 13, 2, 0, 0) := by decide +kernel
theorem p149_124 {s0 : Int} {q0 q1 q2 q3 : MV} {ds : Ds} {m : Mm} {Q : Ds → Mm → List MV → Prop} : WP 149 124 [q0, q1, q2, q3] [(2, s0)] ds m Q = (WP 149 126 [q0, q1, q2, q3] [(0, 13), (2, s0)] ds m Q) := P_nx k149_124 rfl
set_option maxRecDepth 20000 in
theorem k149_126 : mjCode 149 126 = some (.iload_n 1, 1, 0, 0) := by decide +kernel
theorem p149_126 {l1 s0 s1 : Int} {q0 q2 q3 : MV} {ds : Ds} {m : Mm} {Q : Ds → Mm → List MV → Prop} : WP 149 126 [q0, (0, l1), q2, q3] [(0, s0), (2, s1)] ds m Q = (WP 149 127 [q0, (0, l1), q2, q3] [(0, l1), (0, s0), (2, s1)] ds m Q) := P_nx k149_126 rfl
set_option maxRecDepth 20000 in
theorem k149_127 : mjCode 149 127 = some (.imul, 1, 0, 0) := by decide +kernel
theorem p149_127 {s0 s1 s2 : Int} {q0 q1 q2 q3 : MV} {ds : Ds} {m : Mm} {Q : Ds → Mm → List MV → Prop} : WP 149 127 [q0, q1, q2, q3] [(0, s0), (0, s1), (2, s2)] ds m Q = (WP 149 128 [q0, q1, q2, q3] [(0, w32 (s1 * s0)), (2, s2)] ds m Q) := P_nx k149_127 rfl
set_option maxRecDepth 20000 in
theorem k149_128 : mjCode 149 128 = some (.iconst 1, 1, 0, 0) := by decide +kernel
theorem p149_128 {s0 s1 : Int} {q0 q1 q2 q3 : MV} {ds : Ds} {m : Mm} {Q : Ds → Mm → List MV → Prop} : WP 149 128 [q0, q1, q2, q3] [(0, s0), (2, s1)] ds m Q = (WP 149 129 [q0, q1, q2, q3] [(0, 1), (0, s0), (2, s1)] ds m Q) := P_nx k149_128 rfl
set_option maxRecDepth 20000 in
theorem k149_129 : mjCode 149 129 = some (.iadd, 1, 0, 0) := by decide +kernel
theorem p149_129 {s0 s1 s2 : Int} {q0 q1 q2 q3 : MV} {ds : Ds} {m : Mm} {Q : Ds → Mm → List MV → Prop} : WP 149 129 [q0, q1, q2, q3] [(0, s0), (0, s1), (2, s2)] ds m Q = (WP 149 130 [q0, q1, q2, q3] [(0, w32 (s1 + s0)), (2, s2)] ds m Q) := P_nx k149_129 rfl
set_option maxRecDepth 20000 in
theorem k149_130 : mjCode 149 130 = some (.iload_n 2, 1, 0, 0) := by decide +kernel
theorem p149_130 {l2 s0 s1 : Int} {q0 q1 q3 : MV} {ds : Ds} {m : Mm} {Q : Ds → Mm → List MV → Prop} : WP 149 130 [q0, q1, (0, l2), q3] [(0, s0), (2, s1)] ds m Q = (WP 149 131 [q0, q1, (0, l2), q3] [(0, l2), (0, s0), (2, s1)] ds m Q) := P_nx k149_130 rfl
set_option maxRecDepth 20000 in
theorem k149_131 : mjCode 149 131 = some (.iadd, 1, 0, 0) := by decide +kernel
theorem p149_131 {s0 s1 s2 : Int} {q0 q1 q2 q3 : MV} {ds : Ds} {m : Mm} {Q : Ds → Mm → List MV → Prop} : WP 149 131 [q0, q1, q2, q3] [(0, s0), (0, s1), (2, s2)] ds m Q = (WP 149 132 [q0, q1, q2, q3] [(0, w32 (s1 + s0)), (2, s2)] ds m Q) := P_nx k149_131 rfl
set_option maxRecDepth 20000 in
theorem k149_132 : mjCode 149 132 = some (.aload_n 0, 1, 0, 0) := by decide +kernel
theorem p149_132 {l0 s0 s1 : Int} {q1 q2 q3 : MV} {ds : Ds} {m : Mm} {Q : Ds → Mm → List MV → Prop} : WP 149 132 [(2, l0), q1, q2, q3] [(0, s0), (2, s1)] ds m Q = (WP 149 133 [(2, l0), q1, q2, q3] [(2, l0), (0, s0), (2, s1)] ds m Q) := P_nx k149_132 rfl
set_option maxRecDepth 20000 in
theorem k149_133 : mjCode 149 133 = some (.getfield 29, 3, 7, 7) := by decide +kernel
theorem p149_133 {s0 s1 s2 : Int} {q0 q1 q2 q3 : MV} {ds : Ds} {m : Mm} {Q : Ds → Mm → List MV → Prop} : WP 149 133 [q0, q1, q2, q3] [(2, s0), (0, s1), (2, s2)] ds m Q = ((dk ds s0 = 7 ∧ WP 149 136 [q0, q1, q2, q3] [(2, m s0 7), (0, s1), (2, s2)] ds m Q)) := P_gd k149_133 rfl
set_option maxRecDepth 20000 in
theorem k149_136 : mjCode 149 136 = some (.iload_n 2, 1, 0, 0) := by decide +kernel
theorem p149_136 {l2 s0 s1 s2 : Int} {q0 q1 q3 : MV} {ds : Ds} {m : Mm} {Q : Ds → Mm → List MV → Prop} : WP 149 136 [q0, q1, (0, l2), q3] [(2, s0), (0, s1), (2, s2)] ds m Q = (WP 149 137 [q0, q1, (0, l2), q3] [(0, l2), (2, s0), (0, s1), (2, s2)] ds m Q) := P_nx k149_136 rfl
set_option maxRecDepth 20000 in
theorem k149_137 : mjCode 149 137 = some (.iaload, 1, 0, 0) := by decide +kernel
theorem p149_137 {s0 s1 s2 s3 : Int} {q0 q1 q2 q3 : MV} {ds : Ds} {m : Mm} {Q : Ds → Mm → List MV → Prop} : WP 149 137 [q0, q1, q2, q3] [(0, s0), (2, s1), (0, s2), (2, s3)] ds m Q = ((dk ds s1 = 10 ∧ 0 ≤ s0 ∧ s0 < dl ds s1 ∧ WP 149 138 [q0, q1, q2, q3] [(0, m s1 s0), (0, s2), (2, s3)] ds m Q)) := P_g3 k149_137 rfl
set_option maxRecDepth 20000 in
theorem k149_138 : mjCode 149 138 = some (.iastore, 1, 0, 0) := by decide +kernel
theorem p149_138 {s0 s1 s2 : Int} {q0 q1 q2 q3 : MV} {ds : Ds} {m : Mm} {Q : Ds → Mm → List MV → Prop} : WP 149 138 [q0, q1, q2, q3] [(0, s0), (0, s1), (2, s2)] ds m Q = ((dk ds s2 = 10 ∧ 0 ≤ s1 ∧ s1 < dl ds s2 ∧ WP 149 139 [q0, q1, q2, q3] [] ds (up m s2 s1 s0) Q)) := P_s3 k149_138 rfl
set_option maxRecDepth 20000 in
theorem k149_139 : mjCode 149 139 = some (.aload_n 0, 1, 0, 0) := by decide +kernel
theorem p149_139 {l0 : Int} {q1 q2 q3 : MV} {ds : Ds} {m : Mm} {Q : Ds → Mm → List MV → Prop} : WP 149 139 [(2, l0), q1, q2, q3] [] ds m Q = (WP 149 140 [(2, l0), q1, q2, q3] [(2, l0)] ds m Q) := P_nx k149_139 rfl
set_option maxRecDepth 20000 in
theorem k149_140 : mjCode 149 140 = some (.getfield 54, 3, 7, 16) := by decide +kernel
theorem p149_140 {s0 : Int} {q0 q1 q2 q3 : MV} {ds : Ds} {m : Mm} {Q : Ds → Mm → List MV → Prop} : WP 149 140 [q0, q1, q2, q3] [(2, s0)] ds m Q = ((dk ds s0 = 7 ∧ WP 149 143 [q0, q1, q2, q3] [(2, m s0 16)] ds m Q)) := P_gd k149_140 rfl
set_option maxRecDepth 20000 in
theorem k149_143 : mjCode 149 143 = some (.bipush 13, 2, 0, 0) := by decide +kernel
theorem p149_143 {s0 : Int} {q0 q1 q2 q3 : MV} {ds : Ds} {m : Mm} {Q : Ds → Mm → List MV → Prop} : WP 149 143 [q0, q1, q2, q3] [(2, s0)] ds m Q = (WP 149 145 [q0, q1, q2, q3] [(0, 13), (2, s0)] ds m Q) := P_nx k149_143 rfl
set_option maxRecDepth 20000 in
theorem k149_145 : mjCode 149 145 = some (.iload_n 1, 1, 0, 0) := by decide +kernel
theorem p149_145 {l1 s0 s1 : Int} {q0 q2 q3 : MV} {ds : Ds} {m : Mm} {Q : Ds → Mm → List MV → Prop} : WP 149 145 [q0, (0, l1), q2, q3] [(0, s0), (2, s1)] ds m Q = (WP 149 146 [q0, (0, l1), q2, q3] [(0, l1), (0, s0), (2, s1)] ds m Q) := P_nx k149_145 rfl
set_option maxRecDepth 20000 in
theorem k149_146 : mjCode 149 146 = some (.imul, 1, 0, 0) := by decide +kernel
theorem p149_146 {s0 s1 s2 : Int} {q0 q1 q2 q3 : MV} {ds : Ds} {m : Mm} {Q : Ds → Mm → List MV → Prop} : WP 149 146 [q0, q1, q2, q3] [(0, s0), (0, s1), (2, s2)] ds m Q = (WP 149 147 [q0, q1, q2, q3] [(0, w32 (s1 * s0)), (2, s2)] ds m Q) := P_nx k149_146 rfl
set_option maxRecDepth 20000 in
theorem k149_147 : mjCode 149 147 = some (.iconst 5, 1, 0, 0) := by decide +kernel
theorem p149_147 {s0 s1 : Int} {q0 q1 q2 q3 : MV} {ds : Ds} {m : Mm} {Q : Ds → Mm → List MV → Prop} : WP 149 147 [q0, q1, q2, q3] [(0, s0), (2, s1)] ds m Q = (WP 149 148 [q0, q1, q2, q3] [(0, 5), (0, s0), (2, s1)] ds m Q) := P_nx k149_147 rfl
set_option maxRecDepth 20000 in
theorem k149_148 : mjCode 149 148 = some (.iadd, 1, 0, 0) := by decide +kernel
theorem p149_148 {s0 s1 s2 : Int} {q0 q1 q2 q3 : MV} {ds : Ds} {m : Mm} {Q : Ds → Mm → List MV → Prop} : WP 149 148 [q0, q1, q2, q3] [(0, s0), (0, s1), (2, s2)] ds m Q = (WP 149 149 [q0, q1, q2, q3] [(0, w32 (s1 + s0)), (2, s2)] ds m Q) := P_nx k149_148 rfl
set_option maxRecDepth 20000 in
theorem k149_149 : mjCode 149 149 = some (.iload_n 2, 1, 0, 0) := by decide +kernel
theorem p149_149 {l2 s0 s1 : Int} {q0 q1 q3 : MV} {ds : Ds} {m : Mm} {Q : Ds → Mm → List MV → Prop} : WP 149 149 [q0, q1, (0, l2), q3] [(0, s0), (2, s1)] ds m Q = (WP 149 150 [q0, q1, (0, l2), q3] [(0, l2), (0, s0), (2, s1)] ds m Q) := P_nx k149_149 rfl
set_option maxRecDepth 20000 in
theorem k149_150 : mjCode 149 150 = some (.iadd, 1, 0, 0) := by decide +kernel
theorem p149_150 {s0 s1 s2 : Int} {q0 q1 q2 q3 : MV} {ds : Ds} {m : Mm} {Q : Ds → Mm → List MV → Prop} : WP 149 150 [q0, q1, q2, q3] [(0, s0), (0, s1), (2, s2)] ds m Q = (WP 149 151 [q0, q1, q2, q3] [(0, w32 (s1 + s0)), (2, s2)] ds m Q) := P_nx k149_150 rfl
set_option maxRecDepth 20000 in
theorem k149_151 : mjCode 149 151 = some (.aload_n 0, 1, 0, 0) := by decide +kernel
theorem p149_151 {l0 s0 s1 : Int} {q1 q2 q3 : MV} {ds : Ds} {m : Mm} {Q : Ds → Mm → List MV → Prop} : WP 149 151 [(2, l0), q1, q2, q3] [(0, s0), (2, s1)] ds m Q = (WP 149 152 [(2, l0), q1, q2, q3] [(2, l0), (0, s0), (2, s1)] ds m Q) := P_nx k149_151 rfl
set_option maxRecDepth 20000 in
theorem k149_152 : mjCode 149 152 = some (.getfield 32, 3, 7, 8) := by decide +kernel
theorem p149_152 {s0 s1 s2 : Int} {q0 q1 q2 q3 : MV} {ds : Ds} {m : Mm} {Q : Ds → Mm → List MV → Prop} : WP 149 152 [q0, q1, q2, q3] [(2, s0), (0, s1), (2, s2)] ds m Q = ((dk ds s0 = 7 ∧ WP 149 155 [q0, q1, q2, q3] [(2, m s0 8), (0, s1), (2, s2)] ds m Q)) := P_gd k149_152 rfl
set_option maxRecDepth 20000 in
theorem k149_155 : mjCode 149 155 = some (.iload_n 2, 1, 0, 0) := by decide +kernel
theorem p149_155 {l2 s0 s1 s2 : Int} {q0 q1 q3 : MV} {ds : Ds} {m : Mm} {Q : Ds → Mm → List MV → Prop} : WP 149 155 [q0, q1, (0, l2), q3] [(2, s0), (0, s1), (2, s2)] ds m Q = (WP 149 156 [q0, q1, (0, l2), q3] [(0, l2), (2, s0), (0, s1), (2, s2)] ds m Q) := P_nx k149_155 rfl
set_option maxRecDepth 20000 in
theorem k149_156 : mjCode 149 156 = some (.iaload, 1, 0, 0) := by decide +kernel
theorem p149_156 {s0 s1 s2 s3 : Int} {q0 q1 q2 q3 : MV} {ds : Ds} {m : Mm} {Q : Ds → Mm → List MV → Prop} : WP 149 156 [q0, q1, q2, q3] [(0, s0), (2, s1), (0, s2), (2, s3)] ds m Q = ((dk ds s1 = 10 ∧ 0 ≤ s0 ∧ s0 < dl ds s1 ∧ WP 149 157 [q0, q1, q2, q3] [(0, m s1 s0), (0, s2), (2, s3)] ds m Q)) := P_g3 k149_156 rfl
set_option maxRecDepth 20000 in
theorem k149_157 : mjCode 149 157 = some (.iastore, 1, 0, 0) := by decide +kernel
theorem p149_157 {s0 s1 s2 : Int} {q0 q1 q2 q3 : MV} {ds : Ds} {m : Mm} {Q : Ds → Mm → List MV → Prop} : WP 149 157 [q0, q1, q2, q3] [(0, s0), (0, s1), (2, s2)] ds m Q = ((dk ds s2 = 10 ∧ 0 ≤ s1 ∧ s1 < dl ds s2 ∧ WP 149 158 [q0, q1, q2, q3] [] ds (up m s2 s1 s0) Q)) := P_s3 k149_157 rfl
set_option maxRecDepth 20000 in
theorem k149_158 : mjCode 149 158 = some (.aload_n 0, 1, 0, 0) := by decide +kernel
theorem p149_158 {l0 : Int} {q1 q2 q3 : MV} {ds : Ds} {m : Mm} {Q : Ds → Mm → List MV → Prop} : WP 149 158 [(2, l0), q1, q2, q3] [] ds m Q = (WP 149 159 [(2, l0), q1, q2, q3] [(2, l0)] ds m Q) := P_nx k149_158 rfl
set_option maxRecDepth 20000 in
theorem k149_159 : mjCode 149 159 = some (.getfield 54, 3, 7, 16) := by decide +kernel
theorem p149_159 {s0 : Int} {q0 q1 q2 q3 : MV} {ds : Ds} {m : Mm} {Q : Ds → Mm → List MV → Prop} : WP 149 159 [q0, q1, q2, q3] [(2, s0)] ds m Q = ((dk ds s0 = 7 ∧ WP 149 162 [q0, q1, q2, q3] [(2, m s0 16)] ds m Q)) := P_gd k149_159 rfl
set_option maxRecDepth 20000 in
theorem k149_162 : mjCode 149 162 = some (.bipush 13, 2, 0, 0) := by decide +kernel
theorem p149_162 {s0 : Int} {q0 q1 q2 q3 : MV} {ds : Ds} {m : Mm} {Q : Ds → Mm → List MV → Prop} : WP 149 162 [q0, q1, q2, q3] [(2, s0)] ds m Q = (WP 149 164 [q0, q1, q2, q3] [(0, 13), (2, s0)] ds m Q) := P_nx k149_162 rfl
set_option maxRecDepth 20000 in
theorem k149_164 : mjCode 149 164 = some (.iload_n 1, 1, 0, 0) := by decide +kernel
theorem p149_164 {l1 s0 s1 : Int} {q0 q2 q3 : MV} {ds : Ds} {m : Mm} {Q : Ds → Mm → List MV → Prop} : WP 149 164 [q0, (0, l1), q2, q3] [(0, s0), (2, s1)] ds m Q = (WP 149 165 [q0, (0, l1), q2, q3] [(0, l1), (0, s0), (2, s1)] ds m Q) := P_nx k149_164 rfl
set_option maxRecDepth 20000 in
theorem k149_165 : mjCode 149 165 = some (.imul, 1, 0, 0) := by decide +kernel
theorem p149_165 {s0 s1 s2 : Int} {q0 q1 q2 q3 : MV} {ds : Ds} {m : Mm} {Q : Ds → Mm → List MV → Prop} : WP 149 165 [q0, q1, q2, q3] [(0, s0), (0, s1), (2, s2)] ds m Q = (WP 149 166 [q0, q1, q2, q3] [(0, w32 (s1 * s0)), (2, s2)] ds m Q) := P_nx k149_165 rfl
set_option maxRecDepth 20000 in
theorem k149_166 : mjCode 149 166 = some (.bipush 9, 2, 0, 0) := by decide +kernel
theorem p149_166 {s0 s1 : Int} {q0 q1 q2 q3 : MV} {ds : Ds} {m : Mm} {Q : Ds → Mm → List MV → Prop} : WP 149 166 [q0, q1, q2, q3] [(0, s0), (2, s1)] ds m Q = (WP 149 168 [q0, q1, q2, q3] [(0, 9), (0, s0), (2, s1)] ds m Q) := P_nx k149_166 rfl
set_option maxRecDepth 20000 in
theorem k149_168 : mjCode 149 168 = some (.iadd, 1, 0, 0) := by decide +kernel
theorem p149_168 {s0 s1 s2 : Int} {q0 q1 q2 q3 : MV} {ds : Ds} {m : Mm} {Q : Ds → Mm → List MV → Prop} : WP 149 168 [q0, q1, q2, q3] [(0, s0), (0, s1), (2, s2)] ds m Q = (WP 149 169 [q0, q1, q2, q3] [(0, w32 (s1 + s0)), (2, s2)] ds m Q) := P_nx k149_168 rfl
set_option maxRecDepth 20000 in
theorem k149_169 : mjCode 149 169 = some (.iload_n 2, 1, 0, 0) := by decide +kernel
theorem p149_169 {l2 s0 s1 : Int} {q0 q1 q3 : MV} {ds : Ds} {m : Mm} {Q : Ds → Mm → List MV → Prop} : WP 149 169 [q0, q1, (0, l2), q3] [(0, s0), (2, s1)] ds m Q = (WP 149 170 [q0, q1, (0, l2), q3] [(0, l2), (0, s0), (2, s1)] ds m Q) := P_nx k149_169 rfl
set_option maxRecDepth 20000 in
theorem k149_170 : mjCode 149 170 = some (.iadd, 1, 0, 0) := by decide +kernel
theorem p149_170 {s0 s1 s2 : Int} {q0 q1 q2 q3 : MV} {ds : Ds} {m : Mm} {Q : Ds → Mm → List MV → Prop} : WP 149 170 [q0, q1, q2, q3] [(0, s0), (0, s1), (2, s2)] ds m Q = (WP 149 171 [q0, q1, q2, q3] [(0, w32 (s1 + s0)), (2, s2)] ds m Q) := P_nx k149_170 rfl
set_option maxRecDepth 20000 in
theorem k149_171 : mjCode 149 171 = some (.aload_n 0, 1, 0, 0) := by decide +kernel
theorem p149_171 {l0 s0 s1 : Int} {q1 q2 q3 : MV} {ds : Ds} {m : Mm} {Q : Ds → Mm → List MV → Prop} : WP 149 171 [(2, l0), q1, q2, q3] [(0, s0), (2, s1)] ds m Q = (WP 149 172 [(2, l0), q1, q2, q3] [(2, l0), (0, s0), (2, s1)] ds m Q) := P_nx k149_171 rfl
set_option maxRecDepth 20000 in
theorem k149_172 : mjCode 149 172 = some (.getfield 35, 3, 7, 9) := by decide +kernel
theorem p149_172 {s0 s1 s2 : Int} {q0 q1 q2 q3 : MV} {ds : Ds} {m : Mm} {Q : Ds → Mm → List MV → Prop} : WP 149 172 [q0, q1, q2, q3] [(2, s0), (0, s1), (2, s2)] ds m Q = ((dk ds s0 = 7 ∧ WP 149 175 [q0, q1, q2, q3] [(2, m s0 9), (0, s1), (2, s2)] ds m Q)) := P_gd k149_172 rfl
set_option maxRecDepth 20000 in
theorem k149_175 : mjCode 149 175 = some (.iload_n 2, 1, 0, 0) := by decide +kernel
theorem p149_175 {l2 s0 s1 s2 : Int} {q0 q1 q3 : MV} {ds : Ds} {m : Mm} {Q : Ds → Mm → List MV → Prop} : WP 149 175 [q0, q1, (0, l2), q3] [(2, s0), (0, s1), (2, s2)] ds m Q = (WP 149 176 [q0, q1, (0, l2), q3] [(0, l2), (2, s0), (0, s1), (2, s2)] ds m Q) := P_nx k149_175 rfl
set_option maxRecDepth 20000 in
theorem k149_176 : mjCode 149 176 = some (.iaload, 1, 0, 0) := by decide +kernel
theorem p149_176 {s0 s1 s2 s3 : Int} {q0 q1 q2 q3 : MV} {ds : Ds} {m : Mm} {Q : Ds → Mm → List MV → Prop} : WP 149 176 [q0, q1, q2, q3] [(0, s0), (2, s1), (0, s2), (2, s3)] ds m Q = ((dk ds s1 = 10 ∧ 0 ≤ s0 ∧ s0 < dl ds s1 ∧ WP 149 177 [q0, q1, q2, q3] [(0, m s1 s0), (0, s2), (2, s3)] ds m Q)) := P_g3 k149_176 rfl
set_option maxRecDepth 20000 in
theorem k149_177 : mjCode 149 177 = some (.iastore, 1, 0, 0) := by decide +kernel
theorem p149_177 {s0 s1 s2 : Int} {q0 q1 q2 q3 : MV} {ds : Ds} {m : Mm} {Q : Ds → Mm → List MV → Prop} : WP 149 177 [q0, q1, q2, q3] [(0, s0), (0, s1), (2, s2)] ds m Q = ((dk ds s2 = 10 ∧ 0 ≤ s1 ∧ s1 < dl ds s2 ∧ WP 149 178 [q0, q1, q2, q3] [] ds (up m s2 s1 s0) Q)) := P_s3 k149_177 rfl
set_option maxRecDepth 20000 in
theorem k149_178 : mjCode 149 178 = some (.iinc 2 1, 3, 0, 0) := by decide +kernel
theorem p149_178 {l2 : Int} {q0 q1 q3 : MV} {ds : Ds} {m : Mm} {Q : Ds → Mm → List MV → Prop} : WP 149 178 [q0, q1, (0, l2), q3] [] ds m Q = (WP 149 181 [q0, q1, (0, w32 (l2 + 1)), q3] [] ds m Q) := P_nx k149_178 rfl
set_option maxRecDepth 20000 in
theorem k149_181 : mjCode 149 181 = some (.goto (-66), 3, 115, 0) := by decide +kernel
theorem p149_181 {q0 q1 q2 q3 : MV} {ds : Ds} {m : Mm} {Q : Ds → Mm → List MV → Prop} : WP 149 181 [q0, q1, q2, q3] [] ds m Q = (WP 149 115 [q0, q1, q2, q3] [] ds m Q) := P_nx k149_181 rfl
set_option maxRecDepth 20000 in
theorem k149_184 : mjCode 149 184 = some (.return_, 1, 0, 0) := by decide +kernel
theorem p149_184 {q0 q1 q2 q3 : MV} {ds : Ds} {m : Mm} {Q : Ds → Mm → List MV → Prop} : WP 149 184 [q0, q1, q2, q3] [] ds m Q = (Q ds m []) := P_rv k149_184 rk149
set_option maxRecDepth 20000 in
theorem k150_0 : mjCode 150 0 = some (.iconst 0, 1, 0, 0) := by decide +kernel
theorem p150_0 {q0 q1 q2 q3 : MV} {ds : Ds} {m : Mm} {Q : Ds → Mm → List MV → Prop} : WP 150 0 [q0, q1, q2, q3] [] ds m Q = (WP 150 1 [q0, q1, q2, q3] [(0, 0)] ds m Q) := P_nx k150_0 rfl
set_option maxRecDepth 20000 in
theorem k150_1 : mjCode 150 1 = some (.istore_n 2, 1, 0, 0) := by decide +kernel
theorem p150_1 {l1 s0 : Int} {q0 q2 q3 : MV} {ds : Ds} {m : Mm} {Q : Ds → Mm → List MV → Prop} : WP 150 1 [q0, (0, l1), q2, q3] [(0, s0)] ds m Q = (WP 150 2 [q0, (0, l1), (0, s0), q3] [] ds m Q) := P_nx k150_1 rfl
set_option maxRecDepth 20000 in
theorem k150_2 : mjCode 150 2 = some (.iload_n 2, 1, 0, 0) := by decide +kernel
theorem p150_2 {l2 : Int} {q0 q1 q3 : MV} {ds : Ds} {m : Mm} {Q : Ds → Mm → List MV → Prop} : WP 150 2 [q0, q1, (0, l2), q3] [] ds m Q = (WP 150 3 [q0, q1, (0, l2), q3] [(0, l2)] ds m Q) := P_nx k150_2 rfl
set_option maxRecDepth 20000 in
theorem k150_3 : mjCode 150 3 = some (.bipush 96, 2, 0, 0) := by decide +kernel
theorem p150_3 {s0 : Int} {q0 q1 q2 q3 : MV} {ds : Ds} {m : Mm} {Q : Ds → Mm → List MV → Prop} : WP 150 3 [q0, q1, q2, q3] [(0, s0)] ds m Q = (WP 150 5 [q0, q1, q2, q3] [(0, 96), (0, s0)] ds m Q) := P_nx k150_3 rfl
set_option maxRecDepth 20000 in
theorem k150_5 : mjCode 150 5 = some (.if_icmp .ge 96, 3, 101, 0) := by decide +kernel
theorem p150_5 {s0 s1 : Int} {q0 q1 q2 q3 : MV} {ds : Ds} {m : Mm} {Q : Ds → Mm → List MV → Prop} : WP 150 5 [q0, q1, q2, q3] [(0, s0), (0, s1)] ds m Q = (if s1 < s0 then WP 150 8 [q0, q1, q2, q3] [] ds m Q else WP 150 101 [q0, q1, q2, q3] [] ds m Q) := P_if k150_5 rfl
set_option maxRecDepth 20000 in
theorem k150_8 : mjCode 150 8 = some (.sipush 480, 3, 0, 0) := by decide +kernel
theorem p150_8 {q0 q1 q2 q3 : MV} {ds : Ds} {m : Mm} {Q : Ds → Mm → List MV → Prop} : WP 150 8 [q0, q1, q2, q3] [] ds m Q = (WP 150 11 [q0, q1, q2, q3] [(0, 480)] ds m Q) := P_nx k150_8 rfl
set_option maxRecDepth 20000 in
theorem k150_11 : mjCode 150 11 = some (.iload_n 1, 1, 0, 0) := by decide +kernel
theorem p150_11 {l1 s0 : Int} {q0 q2 q3 : MV} {ds : Ds} {m : Mm} {Q : Ds → Mm → List MV → Prop} : WP 150 11 [q0, (0, l1), q2, q3] [(0, s0)] ds m Q = (WP 150 12 [q0, (0, l1), q2, q3] [(0, l1), (0, s0)] ds m Q) := P_nx k150_11 rfl
set_option maxRecDepth 20000 in
theorem k150_12 : mjCode 150 12 = some (.imul, 1, 0, 0) := by decide +kernel
theorem p150_12 {s0 s1 : Int} {q0 q1 q2 q3 : MV} {ds : Ds} {m : Mm} {Q : Ds → Mm → List MV → Prop} : WP 150 12 [q0, q1, q2, q3] [(0, s0), (0, s1)] ds m Q = (WP 150 13 [q0, q1, q2, q3] [(0, w32 (s1 * s0))] ds m Q) := P_nx k150_12 rfl
set_option maxRecDepth 20000 in
theorem k150_13 : mjCode 150 13 = some (.iconst 5, 1, 0, 0) := by decide +kernel
theorem p150_13 {s0 : Int} {q0 q1 q2 q3 : MV} {ds : Ds} {m : Mm} {Q : Ds → Mm → List MV → Prop} : WP 150 13 [q0, q1, q2, q3] [(0, s0)] ds m Q = (WP 150 14 [q0, q1, q2, q3] [(0, 5), (0, s0)] ds m Q) := P_nx k150_13 rfl
set_option maxRecDepth 20000 in
theorem k150_14 : mjCode 150 14 = some (.iload_n 2, 1, 0, 0) := by decide +kernel
theorem p150_14 {l2 s0 s1 : Int} {q0 q1 q3 : MV} {ds : Ds} {m : Mm} {Q : Ds → Mm → List MV → Prop} : WP 150 14 [q0, q1, (0, l2), q3] [(0, s0), (0, s1)] ds m Q = (WP 150 15 [q0, q1, (0, l2), q3] [(0, l2), (0, s0), (0, s1)] ds m Q) := P_nx k150_14 rfl
set_option maxRecDepth 20000 in
theorem k150_15 : mjCode 150 15 = some (.imul, 1, 0, 0) := by decide +kernel
theorem p150_15 {s0 s1 s2 : Int} {q0 q1 q2 q3 : MV} {ds : Ds} {m : Mm} {Q : Ds → Mm → List MV → Prop} : WP 150 15 [q0, q1, q2, q3] [(0, s0), (0, s1), (0, s2)] ds m Q = (WP 150 16 [q0, q1, q2, q3] [(0, w32 (s1 * s0)), (0, s2)] ds m Q) := P_nx k150_15 rfl
set_option maxRecDepth 20000 in
theorem k150_16 : mjCode 150 16 = some (.iadd, 1, 0, 0) := by decide +kernel
theorem p150_16 {s0 s1 : Int} {q0 q1 q2 q3 : MV} {ds : Ds} {m : Mm} {Q : Ds → Mm → List MV → Prop} : WP 150 16 [q0, q1, q2, q3] [(0, s0), (0, s1)] ds m Q = (WP 150 17 [q0, q1, q2, q3] [(0, w32 (s1 + s0))] ds m Q) := P_nx k150_16 rfl
set_option maxRecDepth 20000 in
theorem k150_17 : mjCode 150 17 = some (.istore_n 3, 1, 0, 0) := by decide +kernel
theorem p150_17 {l2 s0 : Int} {q0 q1 q3 : MV} {ds : Ds} {m : Mm} {Q : Ds → Mm → List MV → Prop} : WP 150 17 [q0, q1, (0, l2), q3] [(0, s0)] ds m Q = (WP 150 18 [q0, q1, (0, l2), (0, s0)] [] ds m Q) := P_nx k150_17 rfl
set_option maxRecDepth 20000 in
theorem k150_18 : mjCode 150 18 = some (.aload_n 0, 1, 0, 0) := by decide +kernel
theorem p150_18 {l0 : Int} {q1 q2 q3 : MV} {ds : Ds} {m : Mm} {Q : Ds → Mm → List MV → Prop} : WP 150 18 [(2, l0), q1, q2, q3] [] ds m Q = (WP 150 19 [(2, l0), q1, q2, q3] [(2, l0)] ds m Q) := P_nx k150_18 rfl
set_option maxRecDepth 20000 in
theorem k150_19 : mjCode 150 19 = some (.getfield 13, 3, 7, 1) := by decide +kernel
theorem p150_19 {s0 : Int} {q0 q1 q2 q3 : MV} {ds : Ds} {m : Mm} {Q : Ds → Mm → List MV → Prop} : WP 150 19 [q0, q1, q2, q3] [(2, s0)] ds m Q = ((dk ds s0 = 7 ∧ WP 150 22 [q0, q1, q2, q3] [(2, m s0 1)] ds m Q)) := P_gd k150_19 rfl
set_option maxRecDepth 20000 in
theorem k150_22 : mjCode 150 22 = some (.iload_n 2, 1, 0, 0) := by decide +kernel
theorem p150_22 {l2 s0 : Int} {q0 q1 q3 : MV} {ds : Ds} {m : Mm} {Q : Ds → Mm → List MV → Prop} : WP 150 22 [q0, q1, (0, l2), q3] [(2, s0)] ds m Q = (WP 150 23 [q0, q1, (0, l2), q3] [(0, l2), (2, s0)] ds m Q) := P_nx k150_22 rfl
set_option maxRecDepth 20000 in
theorem k150_23 : mjCode 150 23 = some (.aload_n 0, 1, 0, 0) := by decide +kernel
theorem p150_23 {l0 s0 s1 : Int} {q1 q2 q3 : MV} {ds : Ds} {m : Mm} {Q : Ds → Mm → List MV → Prop} : WP 150 23 [(2, l0), q1, q2, q3] [(0, s0), (2, s1)] ds m Q = (WP 150 24 [(2, l0), q1, q2, q3] [(2, l0), (0, s0), (2, s1)] ds m Q) := P_nx k150_23 rfl
set_option maxRecDepth 20000 in
theorem k150_24 : mjCode 150 24 = some (.getfield 51, 3, 7, 15) := by decide +kernel
theorem p150_24 {s0 s1 s2 : Int} {q0 q1 q2 q3 : MV} {ds : Ds} {m : Mm} {Q : Ds → Mm → List MV → Prop} : WP 150 24 [q0, q1, q2, q3] [(2, s0), (0, s1), (2, s2)] ds m Q = ((dk ds s0 = 7 ∧ WP 150 27 [q0, q1, q2, q3] [(2, m s0 15), (0, s1), (2, s2)] ds m Q)) := P_gd k150_24 rfl
set_option maxRecDepth 20000 in
theorem k150_27 : mjCode 150 27 = some (.iload_n 3, 1, 0, 0) := by decide +kernel
theorem p150_27 {l3 s0 s1 s2 : Int} {q0 q1 q2 : MV} {ds : Ds} {m : Mm} {Q : Ds → Mm → List MV → Prop} : WP 150 27 [q0, q1, q2, (0, l3)] [(2, s0), (0, s1), (2, s2)] ds m Q = (WP 150 28 [q0, q1, q2, (0, l3)] [(0, l3), (2, s0), (0, s1), (2, s2)] ds m Q) := P_nx k150_27 rfl
set_option maxRecDepth 20000 in
theorem k150_28 : mjCode 150 28 = some (.iaload, 1, 0, 0) := by decide +kernel
theorem p150_28 {s0 s1 s2 s3 : Int} {q0 q1 q2 q3 : MV} {ds : Ds} {m : Mm} {Q : Ds → Mm → List MV → Prop} : WP 150 28 [q0, q1, q2, q3] [(0, s0), (2, s1), (0, s2), (2, s3)] ds m Q = ((dk ds s1 = 10 ∧ 0 ≤ s0 ∧ s0 < dl ds s1 ∧ WP 150 29 [q0, q1, q2, q3] [(0, m s1 s0), (0, s2), (2, s3)] ds m Q)) := P_g3 k150_28 rfl
set_option maxRecDepth 20000 in
theorem k150_29 : mjCode 150 29 = some (.iastore, 1, 0, 0) := by decide +kernel
theorem p150_29 {s0 s1 s2 : Int} {q0 q1 q2 q3 : MV} {ds : Ds} {m : Mm} {Q : Ds → Mm → List MV → Prop} : WP 150 29 [q0, q1, q2, q3] [(0, s0), (0, s1), (2, s2)] ds m Q = ((dk ds s2 = 10 ∧ 0 ≤ s1 ∧ s1 < dl ds s2 ∧ WP 150 30 [q0, q1, q2, q3] [] ds (up m s2 s1 s0) Q)) := P_s3 k150_29 rfl
set_option maxRecDepth 20000 in
theorem k150_30 : mjCode 150 30 = some (.aload_n 0, 1, 0, 0) := by decide +kernel
theorem p150_30 {l0 : Int} {q1 q2 q3 : MV} {ds : Ds} {m : Mm} {Q : Ds → Mm → List MV → Prop} : WP 150 30 [(2, l0), q1, q2, q3] [] ds m Q = (WP 150 31 [(2, l0), q1, q2, q3] [(2, l0)] ds m Q) := P_nx k150_30 rfl
set_option maxRecDepth 20000 in
theorem k150_31 : mjCode 150 31 = some (.getfield 16, 3, 7, 2) := by decide +kernel
theorem p150_31 {s0 : Int} {q0 q1 q2 q3 : MV} {ds : Ds} {m : Mm} {Q : Ds → Mm → List MV → Prop} : WP 150 31 [q0, q1, q2, q3] [(2, s0)] ds m Q = ((dk ds s0 = 7 ∧ WP 150 34 [q0, q1, q2, q3] [(2, m s0 2)] ds m Q)) := P_gd k150_31 rfl
set_option maxRecDepth 20000 in
theorem k150_34 : mjCode 150 34 = some (.iload_n 2, 1, 0, 0) := by decide +kernel
theorem p150_34 {l2 s0 : Int} {q0 q1 q3 : MV} {ds : Ds} {m : Mm} {Q : Ds → Mm → List MV → Prop} : WP 150 34 [q0, q1, (0, l2), q3] [(2, s0)] ds m Q = (WP 150 35 [q0, q1, (0, l2), q3] [(0, l2), (2, s0)] ds m Q) := P_nx k150_34 rfl
set_option maxRecDepth 20000 in
theorem k150_35 : mjCode 150 35 = some (.aload_n 0, 1, 0, 0) := by decide +kernel
theorem p150_35 {l0 s0 s1 : Int} {q1 q2 q3 : MV} {ds : Ds} {m : Mm} {Q : Ds → Mm → List MV → Prop} : WP 150 35 [(2, l0), q1, q2, q3] [(0, s0), (2, s1)] ds m Q = (WP 150 36 [(2, l0), q1, q2, q3] [(2, l0), (0, s0), (2, s1)] ds m Q) := P_nx k150_35 rfl
set_option maxRecDepth 20000 in
theorem k150_36 : mjCode 150 36 = some (.getfield 51, 3, 7, 15) := by decide +kernel
theorem p150_36 {s0 s1 s2 : Int} {q0 q1 q2 q3 : MV} {ds : Ds} {m : Mm} {Q : Ds → Mm → List MV → Prop} : WP 150 36 [q0, q1, q2, q3] [(2, s0), (0, s1), (2, s2)] ds m Q = ((dk ds s0 = 7 ∧ WP 150 39 [q0, q1, q2, q3] [(2, m s0 15), (0, s1), (2, s2)] ds m Q)) := P_gd k150_36 rfl
set_option maxRecDepth 20000 in
theorem k150_39 : mjCode 150 39 = some (.iload_n 3, 1, 0, 0) := by decide +kernel
theorem p150_39 {l3 s0 s1 s2 : Int} {q0 q1 q2 : MV} {ds : Ds} {m : Mm} {Q : Ds → Mm → List MV → Prop} : WP 150 39 [q0, q1, q2, (0, l3)] [(2, s0), (0, s1), (2, s2)] ds m Q = (WP 150 40 [q0, q1, q2, (0, l3)] [(0, l3), (2, s0), (0, s1), (2, s2)] ds m Q) := P_nx k150_39 rfl
set_option maxRecDepth 20000 in
theorem k150_40 : mjCode 150 40 = some (.iconst 1, 1, 0, 0) := by decide +kernel
theorem p150_40 {s0 s1 s2 s3 : Int} {q0 q1 q2 q3 : MV} {ds : Ds} {m : Mm} {Q : Ds → Mm → List MV → Prop} : WP 150 40 [q0, q1, q2, q3] [(0, s0), (2, s1), (0, s2), (2, s3)] ds m Q = (WP 150 41 [q0, q1, q2, q3] [(0, 1), (0, s0), (2, s1), (0, s2), (2, s3)] ds m Q) := P_nx k150_40 rfl
set_option maxRecDepth 20000 in
theorem k150_41 : mjCode 150 41 = some (.iadd, 1, 0, 0) := by decide +kernel
theorem p150_41 {s0 s1 s2 s3 s4 : Int} {q0 q1 q2 q3 : MV} {ds : Ds} {m : Mm} {Q : Ds → Mm → List MV → Prop} : WP 150 41 [q0, q1, q2, q3] [(0, s0), (0, s1), (2, s2), (0, s3), (2, s4)] ds m Q = (WP 150 42 [q0, q1, q2, q3] [(0, w32 (s1 + s0)), (2, s2), (0, s3), (2, s4)] ds m Q) := P_nx k150_41 rfl
set_option maxRecDepth 20000 in
theorem k150_42 : mjCode 150 42 = some (.iaload, 1, 0, 0) := by decide +kernel
theorem p150_42 {s0 s1 s2 s3 : Int} {q0 q1 q2 q3 : MV} {ds : Ds} {m : Mm} {Q : Ds → Mm → List MV → Prop} : WP 150 42 [q0, q1, q2, q3] [(0, s0), (2, s1), (0, s2), (2, s3)] ds m Q = ((dk ds s1 = 10 ∧ 0 ≤ s0 ∧ s0 < dl ds s1 ∧ WP 150 43 [q0, q1, q2, q3] [(0, m s1 s0), (0, s2), (2, s3)] ds m Q)) := P_g3 k150_42 rfl
set_option maxRecDepth 20000 in
theorem k150_43 : mjCode 150 43 = some (.iastore, 1, 0, 0) := by decide +kernel
theorem p150_43 {s0 s1 s2 : Int} {q0 q1 q2 q3 : MV} {ds : Ds} {m : Mm} {Q : Ds → Mm → List MV → Prop} : WP 150 43 [q0, q1, q2, q3] [(0, s0), (0, s1), (2, s2)] ds m Q = ((dk ds s2 = 10 ∧ 0 ≤ s1 ∧ s1 < dl ds s2 ∧ WP 150 44 [q0, q1, q2, q3] [] ds (up m s2 s1 s0) Q)) := P_s3 k150_43 rfl
set_option maxRecDepth 20000 in
theorem k150_44 : mjCode 150 44 = some (.aload_n 0, 1, 0, 0) := by decide +kernel
theorem p150_44 {l0 : Int} {q1 q2 q3 : MV} {ds : Ds} {m : Mm} {Q : Ds → Mm → List MV → Prop} : WP 150 44 [(2, l0), q1, q2, q3] [] ds m Q = (WP 150 45 [(2, l0), q1, q2, q3] [(2, l0)] ds m Q) := P_nx k150_44 rfl
set_option maxRecDepth 20000 in
theorem k150_45 : mjCode 150 45 = some (.getfield 19, 3, 7, 3) := by decide +kernel
theorem p150_45 {s0 : Int} {q0 q1 q2 q3 : MV} {ds : Ds} {m : Mm} {Q : Ds → Mm → List MV → Prop} : WP 150 45 [q0, q1, q2, q3] [(2, s0)] ds m Q = ((dk ds s0 = 7 ∧ WP 150 48 [q0, q1, q2, q3] [(2, m s0 3)] ds m Q)) := P_gd k150_45 rfl
set_option maxRecDepth 20000 in
theorem k150_48 : mjCode 150 48 = some (.iload_n 2, 1, 0, 0) := by decide +kernel
theorem p150_48 {l2 s0 : Int} {q0 q1 q3 : MV} {ds : Ds} {m : Mm} {Q : Ds → Mm → List MV → Prop} : WP 150 48 [q0, q1, (0, l2), q3] [(2, s0)] ds m Q = (WP 150 49 [q0, q1, (0, l2), q3] [(0, l2), (2, s0)] ds m Q) := P_nx k150_48 rfl
set_option maxRecDepth 20000 in
theorem k150_49 : mjCode 150 49 = some (.aload_n 0, 1, 0, 0) := by decide +kernel
theorem p150_49 {l0 s0 s1 : Int} {q1 q2 q3 : MV} {ds : Ds} {m : Mm} {Q : Ds → Mm → List MV → Prop} : WP 150 49 [(2, l0), q1, q2, q3] [(0, s0), (2, s1)] ds m Q = (WP 150 50 [(2, l0), q1, q2, q3] [(2, l0), (0, s0), (2, s1)] ds m Q) := P_nx k150_49 rfl
set_option maxRecDepth 20000 in
theorem k150_50 : mjCode 150 50 = some (.getfield 51, 3, 7, 15) := by decide +kernel
theorem p150_50 {s0 s1 s2 : Int} {q0 q1 q2 q3 : MV} {ds : Ds} {m : Mm} {Q : Ds → Mm → List MV → Prop} : WP 150 50 [q0, q1, q2, q3] [(2, s0), (0, s1), (2, s2)] ds m Q = ((dk ds s0 = 7 ∧ WP 150 53 [q0, q1, q2, q3] [(2, m s0 15), (0, s1), (2, s2)] ds m Q)) := P_gd k150_50 rfl
set_option maxRecDepth 20000 in
theorem k150_53 : mjCode 150 53 = some (.iload_n 3, 1, 0, 0) := by decide +kernel
theorem p150_53 {l3 s0 s1 s2 : Int} {q0 q1 q2 : MV} {ds : Ds} {m : Mm} {Q : Ds → Mm → List MV → Prop} : WP 150 53 [q0, q1, q2, (0, l3)] [(2, s0), (0, s1), (2, s2)] ds m Q = (WP 150 54 [q0, q1, q2, (0, l3)] [(0, l3), (2, s0), (0, s1), (2, s2)] ds m Q) := P_nx k150_53 rfl
set_option maxRecDepth 20000 in
theorem k150_54 : mjCode 150 54 = some (.iconst 2, 1, 0, 0) := by decide +kernel
theorem p150_54 {s0 s1 s2 s3 : Int} {q0 q1 q2 q3 : MV} {ds : Ds} {m : Mm} {Q : Ds → Mm → List MV → Prop} : WP 150 54 [q0, q1, q2, q3] [(0, s0), (2, s1), (0, s2), (2, s3)] ds m Q = (WP 150 55 [q0, q1, q2, q3] [(0, 2), (0, s0), (2, s1), (0, s2), (2, s3)] ds m Q) := P_nx k150_54 rfl
set_option maxRecDepth 20000 in
theorem k150_55 : mjCode 150 55 = some (.iadd, 1, 0, 0) := by decide +kernel
theorem p150_55 {s0 s1 s2 s3 s4 : Int} {q0 q1 q2 q3 : MV} {ds : Ds} {m : Mm} {Q : Ds → Mm → List MV → Prop} : WP 150 55 [q0, q1, q2, q3] [(0, s0), (0, s1), (2, s2), (0, s3), (2, s4)] ds m Q = (WP 150 56 [q0, q1, q2, q3] [(0, w32 (s1 + s0)), (2, s2), (0, s3), (2, s4)] ds m Q) := P_nx k150_55 rfl
set_option maxRecDepth 20000 in
theorem k150_56 : mjCode 150 56 = some (.iaload, 1, 0, 0) := by decide +kernel
theorem p150_56 {s0 s1 s2 s3 : Int} {q0 q1 q2 q3 : MV} {ds : Ds} {m : Mm} {Q : Ds → Mm → List MV → Prop} : WP 150 56 [q0, q1, q2, q3] [(0, s0), (2, s1), (0, s2), (2, s3)] ds m Q = ((dk ds s1 = 10 ∧ 0 ≤ s0 ∧ s0 < dl ds s1 ∧ WP 150 57 [q0, q1, q2, q3] [(0, m s1 s0), (0, s2), (2, s3)] ds m Q)) := P_g3 k150_56 rfl
set_option maxRecDepth 20000 in
theorem k150_57 : mjCode 150 57 = some (.iastore, 1, 0, 0) := by decide +kernel
theorem p150_57 {s0 s1 s2 : Int} {q0 q1 q2 q3 : MV} {ds : Ds} {m : Mm} {Q : Ds → Mm → List MV → Prop} : WP 150 57 [q0, q1, q2, q3] [(0, s0), (0, s1), (2, s2)] ds m Q = ((dk ds s2 = 10 ∧ 0 ≤ s1 ∧ s1 < dl ds s2 ∧ WP 150 58 [q0, q1, q2, q3] [] ds (up m s2 s1 s0) Q)) := P_s3 k150_57 rfl
set_option maxRecDepth 20000 in
theorem k150_58 : mjCode 150 58 = some (.aload_n 0, 1, 0, 0) := by decide +kernel
theorem p150_58 {l0 : Int} {q1 q2 q3 : MV} {ds : Ds} {m : Mm} {Q : Ds → Mm → List MV → Prop} : WP 150 58 [(2, l0), q1, q2, q3] [] ds m Q = (WP 150 59 [(2, l0), q1, q2, q3] [(2, l0)] ds m Q) := P_nx k150_58 rfl
set_option maxRecDepth 20000 in
theorem k150_59 : mjCode 150 59 = some (.getfield 22, 3, 7, 4) := by decide +kernel
theorem p150_59 {s0 : Int} {q0 q1 q2 q3 : MV} {ds : Ds} {m : Mm} {Q : Ds → Mm → List MV → Prop} : WP 150 59 [q0, q1, q2, q3] [(2, s0)] ds m Q = ((dk ds s0 = 7 ∧ WP 150 62 [q0, q1, q2, q3] [(2, m s0 4)] ds m Q)) := P_gd k150_59 rfl
set_option maxRecDepth 20000 in
theorem k150_62 : mjCode 150 62 = some (.iload_n 2, 1, 0, 0) := by decide +kernel
theorem p150_62 {l2 s0 : Int} {q0 q1 q3 : MV} {ds : Ds} {m : Mm} {Q : Ds → Mm → List MV → Prop} : WP 150 62 [q0, q1, (0, l2), q3] [(2, s0)] ds m Q = (WP 150 63 [q0, q1, (0, l2), q3] [(0, l2), (2, s0)] ds m Q) := P_nx k150_62 rfl
set_option maxRecDepth 20000 in
theorem k150_63 : mjCode 150 63 = some (.aload_n 0, 1, 0, 0) := by decide +kernel
theorem p150_63 {l0 s0 s1 : Int} {q1 q2 q3 : MV} {ds : Ds} {m : Mm} {Q : Ds → Mm → List MV → Prop} : WP 150 63 [(2, l0), q1, q2, q3] [(0, s0), (2, s1)] ds m Q = (WP 150 64 [(2, l0), q1, q2, q3] [(2, l0), (0, s0), (2, s1)] ds m Q) := P_nx k150_63 rfl
set_option maxRecDepth 20000 in
theorem k150_64 : mjCode 150 64 = some (.getfield 51, 3, 7, 15) := by decide +kernel
theorem p150_64 {s0 s1 s2 : Int} {q0 q1 q2 q3 : MV} {ds : Ds} {m : Mm} {Q : Ds → Mm → List MV → Prop} : WP 150 64 [q0, q1, q2, q3] [(2, s0), (0, s1), (2, s2)] ds m Q = ((dk ds s0 = 7 ∧ WP 150 67 [q0, q1, q2, q3] [(2, m s0 15), (0, s1), (2, s2)] ds m Q)) := P_gd k150_64 rfl
set_option maxRecDepth 20000 in
theorem k150_67 : mjCode 150 67 = some (.iload_n 3, 1, 0, 0) := by decide +kernel
theorem p150_67 {l3 s0 s1 s2 : Int} {q0 q1 q2 : MV} {ds : Ds} {m : Mm} {Q : Ds → Mm → List MV → Prop} : WP 150 67 [q0, q1, q2, (0, l3)] [(2, s0), (0, s1), (2, s2)] ds m Q = (WP 150 68 [q0, q1, q2, (0, l3)] [(0, l3), (2, s0), (0, s1), (2, s2)] ds m Q) := P_nx k150_67 rfl
set_option maxRecDepth 20000 in
theorem k150_68 : mjCode 150 68 = some (.iconst 3, 1, 0, 0) := by decide +kernel
theorem p150_68 {s0 s1 s2 s3 : Int} {q0 q1 q2 q3 : MV} {ds : Ds} {m : Mm} {Q : Ds → Mm → List MV → Prop} : WP 150 68 [q0, q1, q2, q3] [(0, s0), (2, s1), (0, s2), (2, s3)] ds m Q = (WP 150 69 [q0, q1, q2, q3] [(0, 3), (0, s0), (2, s1), (0, s2), (2, s3)] ds m Q) := P_nx k150_68 rfl
set_option maxRecDepth 20000 in
theorem k150_69 : mjCode 150 69 = some (.iadd, 1, 0, 0) := by decide +kernel
theorem p150_69 {s0 s1 s2 s3 s4 : Int} {q0 q1 q2 q3 : MV} {ds : Ds} {m : Mm} {Q : Ds → Mm → List MV → Prop} : WP 150 69 [q0, q1, q2, q3] [(0, s0), (0, s1), (2, s2), (0, s3), (2, s4)] ds m Q = (WP 150 70 [q0, q1, q2, q3] [(0, w32 (s1 + s0)), (2, s2), (0, s3), (2, s4)] ds m Q) := P_nx k150_69 rfl
set_option maxRecDepth 20000 in
theorem k150_70 : mjCode 150 70 = some (.iaload, 1, 0, 0) := by decide +kernel
theorem p150_70 {s0 s1 s2 s3 : Int} {q0 q1 q2 q3 : MV} {ds : Ds} {m : Mm} {Q : Ds → Mm → List MV → Prop} : WP 150 70 [q0, q1, q2, q3] [(0, s0), (2, s1), (0, s2), (2, s3)] ds m Q = ((dk ds s1 = 10 ∧ 0 ≤ s0 ∧ s0 < dl ds s1 ∧ WP 150 71 [q0, q1, q2, q3] [(0, m s1 s0), (0, s2), (2, s3)] ds m Q)) := P_g3 k150_70 rfl
set_option maxRecDepth 20000 in
theorem k150_71 : mjCode 150 71 = some (.iastore, 1, 0, 0) := by decide +kernel
theorem p150_71 {s0 s1 s2 : Int} {q0 q1 q2 q3 : MV} {ds : Ds} {m : Mm} {Q : Ds → Mm → List MV → Prop} : WP 150 71 [q0, q1, q2, q3] [(0, s0), (0, s1), (2, s2)] ds m Q = ((dk ds s2 = 10 ∧ 0 ≤ s1 ∧ s1 < dl ds s2 ∧ WP 150 72 [q0, q1, q2, q3] [] ds (up m s2 s1 s0) Q)) := P_s3 k150_71 rfl
set_option maxRecDepth 20000 in
theorem k150_72 : mjCode 150 72 = some (.aload_n 0, 1, 0, 0) := by decide +kernel
theorem p150_72 {l0 : Int} {q1 q2 q3 : MV} {ds : Ds} {m : Mm} {Q : Ds → Mm → List MV → Prop} : WP 150 72 [(2, l0), q1, q2, q3] [] ds m Q = (WP 150 73 [(2, l0), q1, q2, q3] [(2, l0)] ds m Q) := P_nx k150_72 rfl
set_option maxRecDepth 20000 in
theorem k150_73 : mjCode 150 73 = some (.getfield 25, 3, 7, 5) := by decide +kernel
theorem p150_73 {s0 : Int} {q0 q1 q2 q3 : MV} {ds : Ds} {m : Mm} {Q : Ds → Mm → List MV → Prop} : WP 150 73 [q0, q1, q2, q3] [(2, s0)] ds m Q = ((dk ds s0 = 7 ∧ WP 150 76 [q0, q1, q2, q3] [(2, m s0 5)] ds m Q)) := P_gd k150_73 rfl
set_option maxRecDepth 20000 in
theorem k150_76 : mjCode 150 76 = some (.iload_n 2, 1, 0, 0) := by decide +kernel
theorem p150_76 {l2 s0 : Int} {q0 q1 q3 : MV} {ds : Ds} {m : Mm} {Q : Ds → Mm → List MV → Prop} : WP 150 76 [q0, q1, (0, l2), q3] [(2, s0)] ds m Q = (WP 150 77 [q0, q1, (0, l2), q3] [(0, l2), (2, s0)] ds m Q) := P_nx k150_76 rfl
set_option maxRecDepth 20000 in
theorem k150_77 : mjCode 150 77 = some (.aload_n 0, 1, 0, 0) := by decide +kernel
theorem p150_77 {l0 s0 s1 : Int} {q1 q2 q3 : MV} {ds : Ds} {m : Mm} {Q : Ds → Mm → List MV → Prop} : WP 150 77 [(2, l0), q1, q2, q3] [(0, s0), (2, s1)] ds m Q = (WP 150 78 [(2, l0), q1, q2, q3] [(2, l0), (0, s0), (2, s1)] ds m Q) := P_nx k150_77 rfl
set_option maxRecDepth 20000 in
theorem k150_78 : mjCode 150 78 = some (.getfield 51, 3, 7, 15) := by decide +kernel
theorem p150_78 {s0 s1 s2 : Int} {q0 q1 q2 q3 : MV} {ds : Ds} {m : Mm} {Q : Ds → Mm → List MV → Prop} : WP 150 78 [q0, q1, q2, q3] [(2, s0), (0, s1), (2, s2)] ds m Q = ((dk ds s0 = 7 ∧ WP 150 81 [q0, q1, q2, q3] [(2, m s0 15), (0, s1), (2, s2)] ds m Q)) := P_gd k150_78 rfl
set_option maxRecDepth 20000 in
theorem k150_81 : mjCode 150 81 = some (.iload_n 3, 1, 0, 0) := by decide +kernel
theorem p150_81 {l3 s0 s1 s2 : Int} {q0 q1 q2 : MV} {ds : Ds} {m : Mm} {Q : Ds → Mm → List MV → Prop} : WP 150 81 [q0, q1, q2, (0, l3)] [(2, s0), (0, s1), (2, s2)] ds m Q = (WP 150 82 [q0, q1, q2, (0, l3)] [(0, l3), (2, s0), (0, s1), (2, s2)] ds m Q) := P_nx k150_81 rfl
set_option maxRecDepth 20000 in
theorem k150_82 : mjCode 150 82 = some (.iconst 4, 1, 0, 0) := by decide +kernel
theorem p150_82 {s0 s1 s2 s3 : Int} {q0 q1 q2 q3 : MV} {ds : Ds} {m : Mm} {Q : Ds → Mm → List MV → Prop} : WP 150 82 [q0, q1, q2, q3] [(0, s0), (2, s1), (0, s2), (2, s3)] ds m Q = (WP 150 83 [q0, q1, q2, q3] [(0, 4), (0, s0), (2, s1), (0, s2), (2, s3)] ds m Q) := P_nx k150_82 rfl
set_option maxRecDepth 20000 in
theorem k150_83 : mjCode 150 83 = some (.iadd, 1, 0, 0) := by decide +kernel
theorem p150_83 {s0 s1 s2 s3 s4 : Int} {q0 q1 q2 q3 : MV} {ds : Ds} {m : Mm} {Q : Ds → Mm → List MV → Prop} : WP 150 83 [q0, q1, q2, q3] [(0, s0), (0, s1), (2, s2), (0, s3), (2, s4)] ds m Q = (WP 150 84 [q0, q1, q2, q3] [(0, w32 (s1 + s0)), (2, s2), (0, s3), (2, s4)] ds m Q) := P_nx k150_83 rfl
set_option maxRecDepth 20000 in
theorem k150_84 : mjCode 150 84 = some (.iaload, 1, 0, 0) := by decide +kernel
theorem p150_84 {s0 s1 s2 s3 : Int} {q0 q1 q2 q3 : MV} {ds : Ds} {m : Mm} {Q : Ds → Mm → List MV → Prop} : WP 150 84 [q0, q1, q2, q3] [(0, s0), (2, s1), (0, s2), (2, s3)] ds m Q = ((dk ds s1 = 10 ∧ 0 ≤ s0 ∧ s0 < dl ds s1 ∧ WP 150 85 [q0, q1, q2, q3] [(0, m s1 s0), (0, s2), (2, s3)] ds m Q)) := P_g3 k150_84 rfl
set_option maxRecDepth 20000 in
theorem k150_85 : mjCode 150 85 = some (.iconst 1, 1, 0, 0) := by decide +kernel
theorem p150_85 {s0 s1 s2 : Int} {q0 q1 q2 q3 : MV} {ds : Ds} {m : Mm} {Q : Ds → Mm → List MV → Prop} : WP 150 85 [q0, q1, q2, q3] [(0, s0), (0, s1), (2, s2)] ds m Q = (WP 150 86 [q0, q1, q2, q3] [(0, 1), (0, s0), (0, s1), (2, s2)] ds m Q) := P_nx k150_85 rfl
set_option maxRecDepth 20000 in
theorem k150_86 : mjCode 150 86 = some (.if_icmp .ne 7, 3, 93, 0) := by decide +kernel
theorem p150_86 {s0 s1 s2 s3 : Int} {q0 q1 q2 q3 : MV} {ds : Ds} {m : Mm} {Q : Ds → Mm → List MV → Prop} : WP 150 86 [q0, q1, q2, q3] [(0, s0), (0, s1), (0, s2), (2, s3)] ds m Q = (if s1 = s0 then WP 150 89 [q0, q1, q2, q3] [(0, s2), (2, s3)] ds m Q else WP 150 93 [q0, q1, q2, q3] [(0, s2), (2, s3)] ds m Q) := P_if k150_86 rfl
set_option maxRecDepth 20000 in
theorem k150_89 : mjCode 150 89 = some (.iconst 1, 1, 0, 0) := by decide +kernel
theorem p150_89 {s0 s1 : Int} {q0 q1 q2 q3 : MV} {ds : Ds} {m : Mm} {Q : Ds → Mm → List MV → Prop} : WP 150 89 [q0, q1, q2, q3] [(0, s0), (2, s1)] ds m Q = (WP 150 90 [q0, q1, q2, q3] [(0, 1), (0, s0), (2, s1)] ds m Q) := P_nx k150_89 rfl
set_option maxRecDepth 20000 in
theorem k150_90 : mjCode 150 90 = some (.goto 4, 3, 94, 0) := by decide +kernel
theorem p150_90 {s0 s1 s2 : Int} {q0 q1 q2 q3 : MV} {ds : Ds} {m : Mm} {Q : Ds → Mm → List MV → Prop} : WP 150 90 [q0, q1, q2, q3] [(0, s0), (0, s1), (2, s2)] ds m Q = (WP 150 94 [q0, q1, q2, q3] [(0, s0), (0, s1), (2, s2)] ds m Q) := P_nx k150_90 rfl
set_option maxRecDepth 20000 in
theorem k150_93 : mjCode 150 93 = some (.iconst 0, 1, 0, 0) := by decide +kernel
theorem p150_93 {s0 s1 : Int} {q0 q1 q2 q3 : MV} {ds : Ds} {m : Mm} {Q : Ds → Mm → List MV → Prop} : WP 150 93 [q0, q1, q2, q3] [(0, s0), (2, s1)] ds m Q = (WP 150 94 [q0, q1, q2, q3] [(0, 0), (0, s0), (2, s1)] ds m Q) := P_nx k150_93 rfl
set_option maxRecDepth 20000 in
theorem k150_94 : mjCode 150 94 = some (.bastore, 1, 0, 0) := by decide +kernel
theorem p150_94 {s0 s1 s2 : Int} {q0 q1 q2 q3 : MV} {ds : Ds} {m : Mm} {Q : Ds → Mm → List MV → Prop} : WP 150 94 [q0, q1, q2, q3] [(0, s0), (0, s1), (2, s2)] ds m Q = (((s0 = 0 ∨ s0 = 1) ∧ dk ds s2 = 11 ∧ 0 ≤ s1 ∧ s1 < dl ds s2 ∧ WP 150 95 [q0, q1, q2, q3] [] ds (up m s2 s1 s0) Q)) := P_s4 k150_94 rfl
set_option maxRecDepth 20000 in
theorem k150_95 : mjCode 150 95 = some (.iinc 2 1, 3, 0, 0) := by decide +kernel
theorem p150_95 {l2 : Int} {q0 q1 q3 : MV} {ds : Ds} {m : Mm} {Q : Ds → Mm → List MV → Prop} : WP 150 95 [q0, q1, (0, l2), q3] [] ds m Q = (WP 150 98 [q0, q1, (0, w32 (l2 + 1)), q3] [] ds m Q) := P_nx k150_95 rfl
set_option maxRecDepth 20000 in
theorem k150_98 : mjCode 150 98 = some (.goto (-96), 3, 2, 0) := by decide +kernel
theorem p150_98 {q0 q1 q2 q3 : MV} {ds : Ds} {m : Mm} {Q : Ds → Mm → List MV → Prop} : WP 150 98 [q0, q1, q2, q3] [] ds m Q = (WP 150 2 [q0, q1, q2, q3] [] ds m Q) := P_nx k150_98 rfl
set_option maxRecDepth 20000 in
theorem k150_101 : mjCode 150 101 = some (.aload_n 0, 1, 0, 0) := by decide +kernel
theorem p150_101 {l0 : Int} {q1 q2 q3 : MV} {ds : Ds} {m : Mm} {Q : Ds → Mm → List MV → Prop} : WP 150 101 [(2, l0), q1, q2, q3] [] ds m Q = (WP 150 102 [(2, l0), q1, q2, q3] [(2, l0)] ds m Q) := P_nx k150_101 rfl
set_option maxRecDepth 20000 in
theorem k150_102 : mjCode 150 102 = some (.aload_n 0, 1, 0, 0) := by decide +kernel
theorem p150_102 {l0 s0 : Int} {q1 q2 q3 : MV} {ds : Ds} {m : Mm} {Q : Ds → Mm → List MV → Prop} : WP 150 102 [(2, l0), q1, q2, q3] [(2, s0)] ds m Q = (WP 150 103 [(2, l0), q1, q2, q3] [(2, l0), (2, s0)] ds m Q) := P_nx k150_102 rfl
set_option maxRecDepth 20000 in
theorem k150_103 : mjCode 150 103 = some (.getfield 54, 3, 7, 16) := by decide +kernel
theorem p150_103 {s0 s1 : Int} {q0 q1 q2 q3 : MV} {ds : Ds} {m : Mm} {Q : Ds → Mm → List MV → Prop} : WP 150 103 [q0, q1, q2, q3] [(2, s0), (2, s1)] ds m Q = ((dk ds s0 = 7 ∧ WP 150 106 [q0, q1, q2, q3] [(2, m s0 16), (2, s1)] ds m Q)) := P_gd k150_103 rfl
set_option maxRecDepth 20000 in
theorem k150_106 : mjCode 150 106 = some (.bipush 13, 2, 0, 0) := by decide +kernel
theorem p150_106 {s0 s1 : Int} {q0 q1 q2 q3 : MV} {ds : Ds} {m : Mm} {Q : Ds → Mm → List MV → Prop} : WP 150 106 [q0, q1, q2, q3] [(2, s0), (2, s1)] ds m Q = (WP 150 108 [q0, q1, q2, q3] [(0, 13), (2, s0), (2, s1)] ds m Q) := P_nx k150_106 rfl
set_option maxRecDepth 20000 in
theorem k150_108 : mjCode 150 108 = some (.iload_n 1, 1, 0, 0) := by decide +kernel
theorem p150_108 {l1 s0 s1 s2 : Int} {q0 q2 q3 : MV} {ds : Ds} {m : Mm} {Q : Ds → Mm → List MV → Prop} : WP 150 108 [q0, (0, l1), q2, q3] [(0, s0), (2, s1), (2, s2)] ds m Q = (WP 150 109 [q0, (0, l1), q2, q3] [(0, l1), (0, s0), (2, s1), (2, s2)] ds m Q) := P_nx k150_108 rfl
set_option maxRecDepth 20000 in
theorem k150_109 : mjCode 150 109 = some (.imul, 1, 0, 0) := by decide +kernel
theorem p150_109 {s0 s1 s2 s3 : Int} {q0 q1 q2 q3 : MV} {ds : Ds} {m : Mm} {Q : Ds → Mm → List MV → Prop} : WP 150 109 [q0, q1, q2, q3] [(0, s0), (0, s1), (2, s2), (2, s3)] ds m Q = (WP 150 110 [q0, q1, q2, q3] [(0, w32 (s1 * s0)), (2, s2), (2, s3)] ds m Q) := P_nx k150_109 rfl
set_option maxRecDepth 20000 in
theorem k150_110 : mjCode 150 110 = some (.iaload, 1, 0, 0) := by decide +kernel
theorem p150_110 {s0 s1 s2 : Int} {q0 q1 q2 q3 : MV} {ds : Ds} {m : Mm} {Q : Ds → Mm → List MV → Prop} : WP 150 110 [q0, q1, q2, q3] [(0, s0), (2, s1), (2, s2)] ds m Q = ((dk ds s1 = 10 ∧ 0 ≤ s0 ∧ s0 < dl ds s1 ∧ WP 150 111 [q0, q1, q2, q3] [(0, m s1 s0), (2, s2)] ds m Q)) := P_g3 k150_110 rfl
set_option maxRecDepth 20000 in
theorem k150_111 : mjCode 150 111 = some (.putfield 173, 3, 7, 6) := by decide +kernel
theorem p150_111 {s0 s1 : Int} {q0 q1 q2 q3 : MV} {ds : Ds} {m : Mm} {Q : Ds → Mm → List MV → Prop} : WP 150 111 [q0, q1, q2, q3] [(0, s0), (2, s1)] ds m Q = ((dk ds s1 = 7 ∧ WP 150 114 [q0, q1, q2, q3] [] ds (up m s1 6 s0) Q)) := P_pf k150_111 rfl
set_option maxRecDepth 20000 in
theorem k150_114 : mjCode 150 114 = some (.iconst 0, 1, 0, 0) := by decide +kernel
theorem p150_114 {q0 q1 q2 q3 : MV} {ds : Ds} {m : Mm} {Q : Ds → Mm → List MV → Prop} : WP 150 114 [q0, q1, q2, q3] [] ds m Q = (WP 150 115 [q0, q1, q2, q3] [(0, 0)] ds m Q) := P_nx k150_114 rfl
set_option maxRecDepth 20000 in
theorem k150_115 : mjCode 150 115 = some (.istore_n 2, 1, 0, 0) := by decide +kernel
theorem p150_115 {l1 s0 : Int} {q0 q2 q3 : MV} {ds : Ds} {m : Mm} {Q : Ds → Mm → List MV → Prop} : WP 150 115 [q0, (0, l1), q2, q3] [(0, s0)] ds m Q = (WP 150 116 [q0, (0, l1), (0, s0), q3] [] ds m Q) := P_nx k150_115 rfl
set_option maxRecDepth 20000 in
theorem k150_116 : mjCode 150 116 = some (.iload_n 2, 1, 0, 0) := by decide +kernel
theorem p150_116 {l2 : Int} {q0 q1 q3 : MV} {ds : Ds} {m : Mm} {Q : Ds → Mm → List MV → Prop} : WP 150 116 [q0, q1, (0, l2), q3] [] ds m Q = (WP 150 117 [q0, q1, (0, l2), q3] [(0, l2)] ds m Q) := P_nx k150_116 rfl
set_option maxRecDepth 20000 in
theorem k150_117 : mjCode 150 117 = some (.iconst 4, 1, 0, 0) := by decide +kernel
theorem p150_117 {s0 : Int} {q0 q1 q2 q3 : MV} {ds : Ds} {m : Mm} {Q : Ds → Mm → List MV → Prop} : WP 150 117 [q0, q1, q2, q3] [(0, s0)] ds m Q = (WP 150 118 [q0, q1, q2, q3] [(0, 4), (0, s0)] ds m Q) := P_nx k150_117 rfl
set_option maxRecDepth 20000 in
theorem k150_118 : mjCode 150 118 = some (.if_icmp .ge 67, 3, 185, 0) := by decide +kernel
theorem p150_118 {s0 s1 : Int} {q0 q1 q2 q3 : MV} {ds : Ds} {m : Mm} {Q : Ds → Mm → List MV → Prop} : WP 150 118 [q0, q1, q2, q3] [(0, s0), (0, s1)] ds m Q = (if s1 < s0 then WP 150 121 [q0, q1, q2, q3] [] ds m Q else WP 150 185 [q0, q1, q2, q3] [] ds m Q) := P_if k150_118 rfl
set_option maxRecDepth 20000 in
theorem k150_121 : mjCode 150 121 = some (.aload_n 0, 1, 0, 0) := by decide +kernel
theorem p150_121 {l0 : Int} {q1 q2 q3 : MV} {ds : Ds} {m : Mm} {Q : Ds → Mm → List MV → Prop} : WP 150 121 [(2, l0), q1, q2, q3] [] ds m Q = (WP 150 122 [(2, l0), q1, q2, q3] [(2, l0)] ds m Q) := P_nx k150_121 rfl
set_option maxRecDepth 20000 in
theorem k150_122 : mjCode 150 122 = some (.getfield 29, 3, 7, 7) := by decide +kernel
theorem p150_122 {s0 : Int} {q0 q1 q2 q3 : MV} {ds : Ds} {m : Mm} {Q : Ds → Mm → List MV → Prop} : WP 150 122 [q0, q1, q2, q3] [(2, s0)] ds m Q = ((dk ds s0 = 7 ∧ WP 150 125 [q0, q1, q2, q3] [(2, m s0 7)] ds m Q)) := P_gd k150_122 rfl
set_option maxRecDepth 20000 in
theorem k150_125 : mjCode 150 125 = some (.iload_n 2, 1, 0, 0) := by decide +kernel
theorem p150_125 {l2 s0 : Int} {q0 q1 q3 : MV} {ds : Ds} {m : Mm} {Q : Ds → Mm → List MV → Prop} : WP 150 125 [q0, q1, (0, l2), q3] [(2, s0)] ds m Q = (WP 150 126 [q0, q1, (0, l2), q3] [(0, l2), (2, s0)] ds m Q) := P_nx k150_125 rfl
set_option maxRecDepth 20000 in
theorem k150_126 : mjCode 150 126 = some (.aload_n 0, 1, 0, 0) := by decide +kernel
theorem p150_126 {l0 s0 s1 : Int} {q1 q2 q3 : MV} {ds : Ds} {m : Mm} {Q : Ds → Mm → List MV → Prop} : WP 150 126 [(2, l0), q1, q2, q3] [(0, s0), (2, s1)] ds m Q = (WP 150 127 [(2, l0), q1, q2, q3] [(2, l0), (0, s0), (2, s1)] ds m Q) := P_nx k150_126 rfl
set_option maxRecDepth 20000 in
theorem k150_127 : mjCode 150 127 = some (.getfield 54, 3, 7, 16) := by decide +kernel
theorem p150_127 {s0 s1 s2 : Int} {q0 q1 q2 q3 : MV} {ds : Ds} {m : Mm} {Q : Ds → Mm → List MV → Prop} : WP 150 127 [q0, q1, q2, q3] [(2, s0), (0, s1), (2, s2)] ds m Q = ((dk ds s0 = 7 ∧ WP 150 130 [q0, q1, q2, q3] [(2, m s0 16), (0, s1), (2, s2)] ds m Q)) := P_gd k150_127 rfl
set_option maxRecDepth 20000 in
theorem k150_130 : mjCode 150 130 = some (.bipush 13, 2, 0, 0) := by decide +kernel
theorem p150_130 {s0 s1 s2 : Int} {q0 q1 q2 q3 : MV} {ds : Ds} {m : Mm} {Q : Ds → Mm → List MV → Prop} : WP 150 130 [q0, q1, q2, q3] [(2, s0), (0, s1), (2, s2)] ds m Q = (WP 150 132 [q0, q1, q2, q3] [(0, 13), (2, s0), (0, s1), (2, s2)] ds m Q) := P_nx k150_130 rfl
set_option maxRecDepth 20000 in
theorem k150_132 : mjCode 150 132 = some (.iload_n 1, 1, 0, 0) := by decide +kernel
theorem p150_132 {l1 s0 s1 s2 s3 : Int} {q0 q2 q3 : MV} {ds : Ds} {m : Mm} {Q : Ds → Mm → List MV → Prop} : WP 150 132 [q0, (0, l1), q2, q3] [(0, s0), (2, s1), (0, s2), (2, s3)] ds m Q = (WP 150 133 [q0, (0, l1), q2, q3] [(0, l1), (0, s0), (2, s1), (0, s2), (2, s3)] ds m Q) := P_nx k150_132 rfl
set_option maxRecDepth 20000 in
theorem k150_133 : mjCode 150 133 = some (.imul, 1, 0, 0) := by decide +kernel
theorem p150_133 {s0 s1 s2 s3 s4 : Int} {q0 q1 q2 q3 : MV} {ds : Ds} {m : Mm} {Q : Ds → Mm → List MV → Prop} : WP 150 133 [q0, q1, q2, q3] [(0, s0), (0, s1), (2, s2), (0, s3), (2, s4)] ds m Q = (WP 150 134 [q0, q1, q2, q3] [(0, w32 (s1 * s0)), (2, s2), (0, s3), (2, s4)] ds m Q) := P_nx k150_133 rfl
set_option maxRecDepth 20000 in
theorem k150_134 : mjCode 150 134 = some (.iconst 1, 1, 0, 0) := by decide +kernel
theorem p150_134 {s0 s1 s2 s3 : Int} {q0 q1 q2 q3 : MV} {ds : Ds} {m : Mm} {Q : Ds → Mm → List MV → Prop} : WP 150 134 [q0, q1, q2, q3] [(0, s0), (2, s1), (0, s2), (2, s3)] ds m Q = (WP 150 135 [q0, q1, q2, q3] [(0, 1), (0, s0), (2, s1), (0, s2), (2, s3)] ds m Q) := P_nx k150_134 rfl
set_option maxRecDepth 20000 in
theorem k150_135 : mjCode 150 135 = some (.iadd, 1, 0, 0) := by decide +kernel
theorem p150_135 {s0 s1 s2 s3 s4 : Int} {q0 q1 q2 q3 : MV} {ds : Ds} {m : Mm} {Q : Ds → Mm → List MV → Prop} : WP 150 135 [q0, q1, q2, q3] [(0, s0), (0, s1), (2, s2), (0, s3), (2, s4)] ds m Q = (WP 150 136 [q0, q1, q2, q3] [(0, w32 (s1 + s0)), (2, s2), (0, s3), (2, s4)] ds m Q) := P_nx k150_135 rfl
set_option maxRecDepth 20000 in
theorem k150_136 : mjCode 150 136 = some (.iload_n 2, 1, 0, 0) := by decide +kernel
theorem p150_136 {l2 s0 s1 s2 s3 : Int} {q0 q1 q3 : MV} {ds : Ds} {m : Mm} {Q : Ds → Mm → List MV → Prop} : WP 150 136 [q0, q1, (0, l2), q3] [(0, s0), (2, s1), (0, s2), (2, s3)] ds m Q = (WP 150 137 [q0, q1, (0, l2), q3] [(0, l2), (0, s0), (2, s1), (0, s2), (2, s3)] ds m Q) := P_nx k150_136 rfl
set_option maxRecDepth 20000 in
theorem k150_137 : mjCode 150 137 = some (.iadd, 1, 0, 0) := by decide +kernel
theorem p150_137 {s0 s1 s2 s3 s4 : Int} {q0 q1 q2 q3 : MV} {ds : Ds} {m : Mm} {Q : Ds → Mm → List MV → Prop} : WP 150 137 [q0, q1, q2, q3] [(0, s0), (0, s1), (2, s2), (0, s3), (2, s4)] ds m Q = (WP 150 138 [q0, q1, q2, q3] [(0, w32 (s1 + s0)), (2, s2), (0, s3), (2, s4)] ds m Q) := P_nx k150_137 rfl
set_option maxRecDepth 20000 in
theorem k150_138 : mjCode 150 138 = some (.iaload, 1, 0, 0) := by decide +kernel
theorem p150_138 {s0 s1 s2 s3 : Int} {q0 q1 q2 q3 : MV} {ds : Ds} {m : Mm} {Q : Ds → Mm → List MV → Prop} : WP 150 138 [q0, q1, q2, q3] [(0, s0), (2, s1), (0, s2), (2, s3)] ds m Q = ((dk ds s1 = 10 ∧ 0 ≤ s0 ∧ s0 < dl ds s1 ∧ WP 150 139 [q0, q1, q2, q3] [(0, m s1 s0), (0, s2), (2, s3)] ds m Q)) := P_g3 k150_138 rfl
set_option maxRecDepth 20000 in
theorem k150_139 : mjCode 150 139 = some (.iastore, 1, 0, 0) := by decide +kernel
theorem p150_139 {s0 s1 s2 : Int} {q0 q1 q2 q3 : MV} {ds : Ds} {m : Mm} {Q : Ds → Mm → List MV → Prop} : WP 150 139 [q0, q1, q2, q3] [(0, s0), (0, s1), (2, s2)] ds m Q = ((dk ds s2 = 10 ∧ 0 ≤ s1 ∧ s1 < dl ds s2 ∧ WP 150 140 [q0, q1, q2, q3] [] ds (up m s2 s1 s0) Q)) := P_s3 k150_139 rfl
set_option maxRecDepth 20000 in
theorem k150_140 : mjCode 150 140 = some (.aload_n 0, 1, 0, 0) := by decide +kernel
theorem p150_140 {l0 : Int} {q1 q2 q3 : MV} {ds : Ds} {m : Mm} {Q : Ds → Mm → List MV → Prop} : WP 150 140 [(2, l0), q1, q2, q3] [] ds m Q = (WP 150 141 [(2, l0), q1, q2, q3] [(2, l0)] ds m Q) := P_nx k150_140 rfl
set_option maxRecDepth 20000 in
theorem k150_141 : mjCode 150 141 = some (.getfield 32, 3, 7, 8) := by decide +kernel
theorem p150_141 {s0 : Int} {q0 q1 q2 q3 : MV} {ds : Ds} {m : Mm} {Q : Ds → Mm → List MV → Prop} : WP 150 141 [q0, q1, q2, q3] [(2, s0)] ds m Q = ((dk ds s0 = 7 ∧ WP 150 144 [q0, q1, q2, q3] [(2, m s0 8)] ds m Q)) := P_gd k150_141 rfl
set_option maxRecDepth 20000 in
theorem k150_144 : mjCode 150 144 = some (.iload_n 2, 1, 0, 0) := by decide +kernel
theorem p150_144 {l2 s0 : Int} {q0 q1 q3 : MV} {ds : Ds} {m : Mm} {Q : Ds → Mm → List MV → Prop} : WP 150 144 [q0, q1, (0, l2), q3] [(2, s0)] ds m Q = (WP 150 145 [q0, q1, (0, l2), q3] [(0, l2), (2, s0)] ds m Q) := P_nx k150_144 rfl
set_option maxRecDepth 20000 in
theorem k150_145 : mjCode 150 145 = some (.aload_n 0, 1, 0, 0) := by decide +kernel
theorem p150_145 {l0 s0 s1 : Int} {q1 q2 q3 : MV} {ds : Ds} {m : Mm} {Q : Ds → Mm → List MV → Prop} : WP 150 145 [(2, l0), q1, q2, q3] [(0, s0), (2, s1)] ds m Q = (WP 150 146 [(2, l0), q1, q2, q3] [(2, l0), (0, s0), (2, s1)] ds m Q) := P_nx k150_145 rfl
set_option maxRecDepth 20000 in
theorem k150_146 : mjCode 150 146 = some (.getfield 54, 3, 7, 16) := by decide +kernel
theorem p150_146 {s0 s1 s2 : Int} {q0 q1 q2 q3 : MV} {ds : Ds} {m : Mm} {Q : Ds → Mm → List MV → Prop} : WP 150 146 [q0, q1, q2, q3] [(2, s0), (0, s1), (2, s2)] ds m Q = ((dk ds s0 = 7 ∧ WP 150 149 [q0, q1, q2, q3] [(2, m s0 16), (0, s1), (2, s2)] ds m Q)) := P_gd k150_146 rfl
set_option maxRecDepth 20000 in
theorem k150_149 : mjCode 150 149 = some (.bipush 13, 2, 0, 0) := by decide +kernel
theorem p150_149 {s0 s1 s2 : Int} {q0 q1 q2 q3 : MV} {ds : Ds} {m : Mm} {Q : Ds → Mm → List MV → Prop} : WP 150 149 [q0, q1, q2, q3] [(2, s0), (0, s1), (2, s2)] ds m Q = (WP 150 151 [q0, q1, q2, q3] [(0, 13), (2, s0), (0, s1), (2, s2)] ds m Q) := P_nx k150_149 rfl
set_option maxRecDepth 20000 in
theorem k150_151 : mjCode 150 151 = some (.iload_n 1, 1, 0, 0) := by decide +kernel
theorem p150_151 {l1 s0 s1 s2 s3 : Int} {q0 q2 q3 : MV} {ds : Ds} {m : Mm} {Q : Ds → Mm → List MV → Prop} : WP 150 151 [q0, (0, l1), q2, q3] [(0, s0), (2, s1), (0, s2), (2, s3)] ds m Q = (WP 150 152 [q0, (0, l1), q2, q3] [(0, l1), (0, s0), (2, s1), (0, s2), (2, s3)] ds m Q) := P_nx k150_151 rfl
set_option maxRecDepth 20000 in
theorem k150_152 : mjCode 150 152 = some (.imul, 1, 0, 0) := by decide +kernel
theorem p150_152 {s0 s1 s2 s3 s4 : Int} {q0 q1 q2 q3 : MV} {ds : Ds} {m : Mm} {Q : Ds → Mm → List MV → Prop} : WP 150 152 [q0, q1, q2, q3] [(0, s0), (0, s1), (2, s2), (0, s3), (2, s4)] ds m Q = (WP 150 153 [q0, q1, q2, q3] [(0, w32 (s1 * s0)), (2, s2), (0, s3), (2, s4)] ds m Q) := P_nx k150_152 rfl
set_option maxRecDepth 20000 in
theorem k150_153 : mjCode 150 153 = some (.iconst 5, 1, 0, 0) := by decide +kernel
theorem p150_153 {s0 s1 s2 s3 : Int} {q0 q1 q2 q3 : MV} {ds : Ds} {m : Mm} {Q : Ds → Mm → List MV → Prop} : WP 150 153 [q0, q1, q2, q3] [(0, s0), (2, s1), (0, s2), (2, s3)] ds m Q = (WP 150 154 [q0, q1, q2, q3] [(0, 5), (0, s0), (2, s1), (0, s2), (2, s3)] ds m Q) := P_nx k150_153 rfl
set_option maxRecDepth 20000 in
theorem k150_154 : mjCode 150 154 = some (.iadd, 1, 0, 0) := by decide +kernel
theorem p150_154 {s0 s1 s2 s3 s4 : Int} {q0 q1 q2 q3 : MV} {ds : Ds} {m : Mm} {Q : Ds → Mm → List MV → Prop} : WP 150 154 [q0, q1, q2, q3] [(0, s0), (0, s1), (2, s2), (0, s3), (2, s4)] ds m Q = (WP 150 155 [q0, q1, q2, q3] [(0, w32 (s1 + s0)), (2, s2), (0, s3), (2, s4)] ds m Q) := P_nx k150_154 rfl
set_option maxRecDepth 20000 in
theorem k150_155 : mjCode 150 155 = some (.iload_n 2, 1, 0, 0) := by decide +kernel
theorem p150_155 {l2 s0 s1 s2 s3 : Int} {q0 q1 q3 : MV} {ds : Ds} {m : Mm} {Q : Ds → Mm → List MV → Prop} : WP 150 155 [q0, q1, (0, l2), q3] [(0, s0), (2, s1), (0, s2), (2, s3)] ds m Q = (WP 150 156 [q0, q1, (0, l2), q3] [(0, l2), (0, s0), (2, s1), (0, s2), (2, s3)] ds m Q) := P_nx k150_155 rfl
set_option maxRecDepth 20000 in
theorem k150_156 : mjCode 150 156 = some (.iadd, 1, 0, 0) := by decide +kernel
theorem p150_156 {s0 s1 s2 s3 s4 : Int} {q0 q1 q2 q3 : MV} {ds : Ds} {m : Mm} {Q : Ds → Mm → List MV → Prop} : WP 150 156 [q0, q1, q2, q3] [(0, s0), (0, s1), (2, s2), (0, s3), (2, s4)] ds m Q = (WP 150 157 [q0, q1, q2, q3] [(0, w32 (s1 + s0)), (2, s2), (0, s3), (2, s4)] ds m Q) := P_nx k150_156 rfl
set_option maxRecDepth 20000 in
theorem k150_157 : mjCode 150 157 = some (.iaload, 1, 0, 0) := by decide +kernel
theorem p150_157 {s0 s1 s2 s3 : Int} {q0 q1 q2 q3 : MV} {ds : Ds} {m : Mm} {Q : Ds → Mm → List MV → Prop} : WP 150 157 [q0, q1, q2, q3] [(0, s0), (2, s1), (0, s2), (2, s3)] ds m Q = ((dk ds s1 = 10 ∧ 0 ≤ s0 ∧ s0 < dl ds s1 ∧ WP 150 158 [q0, q1, q2, q3] [(0, m s1 s0), (0, s2), (2, s3)] ds m Q)) := P_g3 k150_157 rfl
set_option maxRecDepth 20000 in
theorem k150_158 : mjCode 150 158 = some (.iastore, 1, 0, 0) := by decide +kernel
theorem p150_158 {s0 s1 s2 : Int} {q0 q1 q2 q3 : MV} {ds : Ds} {m : Mm} {Q : Ds → Mm → List MV → Prop} : WP 150 158 [q0, q1, q2, q3] [(0, s0), (0, s1), (2, s2)] ds m Q = ((dk ds s2 = 10 ∧ 0 ≤ s1 ∧ s1 < dl ds s2 ∧ WP 150 159 [q0, q1, q2, q3] [] ds (up m s2 s1 s0) Q)) := P_s3 k150_158 rfl
set_option maxRecDepth 20000 in
theorem k150_159 : mjCode 150 159 = some (.aload_n 0, 1, 0, 0) := by decide +kernel
theorem p150_159 {l0 : Int} {q1 q2 q3 : MV} {ds : Ds} {m : Mm} {Q : Ds → Mm → List MV → Prop} : WP 150 159 [(2, l0), q1, q2, q3] [] ds m Q = (WP 150 160 [(2, l0), q1, q2, q3] [(2, l0)] ds m Q) := P_nx k150_159 rfl
set_option maxRecDepth 20000 in
theorem k150_160 : mjCode 150 160 = some (.getfield 35, 3, 7, 9) := by decide +kernel
theorem p150_160 {s0 : Int} {q0 q1 q2 q3 : MV} {ds : Ds} {m : Mm} {Q : Ds → Mm → List MV → Prop} : WP 150 160 [q0, q1, q2, q3] [(2, s0)] ds m Q = ((dk ds s0 = 7 ∧ WP 150 163 [q0, q1, q2, q3] [(2, m s0 9)] ds m Q)) := P_gd k150_160 rfl
set_option maxRecDepth 20000 in
theorem k150_163 : mjCode 150 163 = some (.iload_n 2, 1, 0, 0) := by decide +kernel
theorem p150_163 {l2 s0 : Int} {q0 q1 q3 : MV} {ds : Ds} {m : Mm} {Q : Ds → Mm → List MV → Prop} : WP 150 163 [q0, q1, (0, l2), q3] [(2, s0)] ds m Q = (WP 150 164 [q0, q1, (0, l2), q3] [(0, l2), (2, s0)] ds m Q) := P_nx k150_163 rfl
set_option maxRecDepth 20000 in
theorem k150_164 : mjCode 150 164 = some (.aload_n 0, 1, 0, 0) := by decide +kernel
theorem p150_164 {l0 s0 s1 : Int} {q1 q2 q3 : MV} {ds : Ds} {m : Mm} {Q : Ds → Mm → List MV → Prop} : WP 150 164 [(2, l0), q1, q2, q3] [(0, s0), (2, s1)] ds m Q = (WP 150 165 [(2, l0), q1, q2, q3] [(2, l0), (0, s0), (2, s1)] ds m Q) := P_nx k150_164 rfl
set_option maxRecDepth 20000 in
theorem k150_165 : mjCode 150 165 = some (.getfield 54, 3, 7, 16) := by decide +kernel
theorem p150_165 {s0 s1 s2 : Int} {q0 q1 q2 q3 : MV} {ds : Ds} {m : Mm} {Q : Ds → Mm → List MV → Prop} : WP 150 165 [q0, q1, q2, q3] [(2, s0), (0, s1), (2, s2)] ds m Q = ((dk ds s0 = 7 ∧ WP 150 168 [q0, q1, q2, q3] [(2, m s0 16), (0, s1), (2, s2)] ds m Q)) := P_gd k150_165 rfl
set_option maxRecDepth 20000 in
theorem k150_168 : mjCode 150 168 = some (.bipush 13, 2, 0, 0) := by decide +kernel
theorem p150_168 {s0 s1 s2 : Int} {q0 q1 q2 q3 : MV} {ds : Ds} {m : Mm} {Q : Ds → Mm → List MV → Prop} : WP 150 168 [q0, q1, q2, q3] [(2, s0), (0, s1), (2, s2)] ds m Q = (WP 150 170 [q0, q1, q2, q3] [(0, 13), (2, s0), (0, s1), (2, s2)] ds m Q) := P_nx k150_168 rfl
set_option maxRecDepth 20000 in
theorem k150_170 : mjCode 150 170 = some (.iload_n 1, 1, 0, 0) := by decide +kernel
theorem p150_170 {l1 s0 s1 s2 s3 : Int} {q0 q2 q3 : MV} {ds : Ds} {m : Mm} {Q : Ds → Mm → List MV → Prop} : WP 150 170 [q0, (0, l1), q2, q3] [(0, s0), (2, s1), (0, s2), (2, s3)] ds m Q = (WP 150 171 [q0, (0, l1), q2, q3] [(0, l1), (0, s0), (2, s1), (0, s2), (2, s3)] ds m Q) := P_nx k150_170 rfl
set_option maxRecDepth 20000 in
theorem k150_171 : mjCode 150 171 = some (.imul, 1, 0, 0) := by decide +kernel
theorem p150_171 {s0 s1 s2 s3 s4 : Int} {q0 q1 q2 q3 : MV} {ds : Ds} {m : Mm} {Q : Ds → Mm → List MV → Prop} : WP 150 171 [q0, q1, q2, q3] [(0, s0), (0, s1), (2, s2), (0, s3), (2, s4)] ds m Q = (WP 150 172 [q0, q1, q2, q3] [(0, w32 (s1 * s0)), (2, s2), (0, s3), (2, s4)] ds m Q) := P_nx k150_171 rfl
set_option maxRecDepth 20000 in
theorem k150_172 : mjCode 150 172 = some (.bipush 9, 2, 0, 0) := by decide +kernel
theorem p150_172 {s0 s1 s2 s3 : Int} {q0 q1 q2 q3 : MV} {ds : Ds} {m : Mm} {Q : Ds → Mm → List MV → Prop} : WP 150 172 [q0, q1, q2, q3] [(0, s0), (2, s1), (0, s2), (2, s3)] ds m Q = (WP 150 174 [q0, q1, q2, q3] [(0, 9), (0, s0), (2, s1), (0, s2), (2, s3)] ds m Q) := P_nx k150_172 rfl
set_option maxRecDepth 20000 in
theorem k150_174 : mjCode 150 174 = some (.iadd, 1, 0, 0) := by decide +kernel
theorem p150_174 {s0 s1 s2 s3 s4 : Int} {q0 q1 q2 q3 : MV} {ds : Ds} {m : Mm} {Q : Ds → Mm → List MV → Prop} : WP 150 174 [q0, q1, q2, q3] [(0, s0), (0, s1), (2, s2), (0, s3), (2, s4)] ds m Q = (WP 150 175 [q0, q1, q2, q3] [(0, w32 (s1 + s0)), (2, s2), (0, s3), (2, s4)] ds m Q) := P_nx k150_174 rfl
set_option maxRecDepth 20000 in
theorem k150_175 : mjCode 150 175 = some (.iload_n 2, 1, 0, 0) := by decide +kernel
theorem p150_175 {l2 s0 s1 s2 s3 : Int} {q0 q1 q3 : MV} {ds : Ds} {m : Mm} {Q : Ds → Mm → List MV → Prop} : WP 150 175 [q0, q1, (0, l2), q3] [(0, s0), (2, s1), (0, s2), (2, s3)] ds m Q = (WP 150 176 [q0, q1, (0, l2), q3] [(0, l2), (0, s0), (2, s1), (0, s2), (2, s3)] ds m Q) := P_nx k150_175 rfl
set_option maxRecDepth 20000 in
theorem k150_176 : mjCode 150 176 = some (.iadd, 1, 0, 0) := by decide +kernel
theorem p150_176 {s0 s1 s2 s3 s4 : Int} {q0 q1 q2 q3 : MV} {ds : Ds} {m : Mm} {Q : Ds → Mm → List MV → Prop} : WP 150 176 [q0, q1, q2, q3] [(0, s0), (0, s1), (2, s2), (0, s3), (2, s4)] ds m Q = (WP 150 177 [q0, q1, q2, q3] [(0, w32 (s1 + s0)), (2, s2), (0, s3), (2, s4)] ds m Q) := P_nx k150_176 rfl
set_option maxRecDepth 20000 in
theorem k150_177 : mjCode 150 177 = some (.iaload, 1, 0, 0) := by decide +kernel
theorem p150_177 {s0 s1 s2 s3 : Int} {q0 q1 q2 q3 : MV} {ds : Ds} {m : Mm} {Q : Ds → Mm → List MV → Prop} : WP 150 177 [q0, q1, q2, q3] [(0, s0), (2, s1), (0, s2), (2, s3)] ds m Q = ((dk ds s1 = 10 ∧ 0 ≤ s0 ∧ s0 < dl ds s1 ∧ WP 150 178 [q0, q1, q2, q3] [(0, m s1 s0), (0, s2), (2, s3)] ds m Q)) := P_g3 k150_177 rfl
set_option maxRecDepth 20000 in
theorem k150_178 : mjCode 150 178 = some (.iastore, 1, 0, 0) := by decide +kernel
theorem p150_178 {s0 s1 s2 : Int} {q0 q1 q2 q3 : MV} {ds : Ds} {m : Mm} {Q : Ds → Mm → List MV → Prop} : WP 150 178 [q0, q1, q2, q3] [(0, s0), (0, s1), (2, s2)] ds m Q = ((dk ds s2 = 10 ∧ 0 ≤ s1 ∧ s1 < dl ds s2 ∧ WP 150 179 [q0, q1, q2, q3] [] ds (up m s2 s1 s0) Q)) := P_s3 k150_178 rfl
set_option maxRecDepth 20000 in
theorem k150_179 : mjCode 150 179 = some (.iinc 2 1, 3, 0, 0) := by decide +kernel
theorem p150_179 {l2 : Int} {q0 q1 q3 : MV} {ds : Ds} {m : Mm} {Q : Ds → Mm → List MV → Prop} : WP 150 179 [q0, q1, (0, l2), q3] [] ds m Q = (WP 150 182 [q0, q1, (0, w32 (l2 + 1)), q3] [] ds m Q) := P_nx k150_179 rfl
set_option maxRecDepth 20000 in
theorem k150_182 : mjCode 150 182 = some (.goto (-66), 3, 116, 0) := by decide +kernel
theorem p150_182 {q0 q1 q2 q3 : MV} {ds : Ds} {m : Mm} {Q : Ds → Mm → List MV → Prop} : WP 150 182 [q0, q1, q2, q3] [] ds m Q = (WP 150 116 [q0, q1, q2, q3] [] ds m Q) := P_nx k150_182 rfl
set_option maxRecDepth 20000 in
theorem k150_185 : mjCode 150 185 = some (.return_, 1, 0, 0) := by decide +kernel
theorem p150_185 {q0 q1 q2 q3 : MV} {ds : Ds} {m : Mm} {Q : Ds → Mm → List MV → Prop} : WP 150 185 [q0, q1, q2, q3] [] ds m Q = (Q ds m []) := P_rv k150_185 rk150
set_option maxRecDepth 20000 in
theorem k151_0 : mjCode 151 0 = some (.iload_n 1, 1, 0, 0) := by decide +kernel
theorem p151_0 {l1 : Int} {q0 q2 q3 q4 q5 : MV} {ds : Ds} {m : Mm} {Q : Ds → Mm → List MV → Prop} : WP 151 0 [q0, (0, l1), q2, q3, q4, q5] [] ds m Q = (WP 151 1 [q0, (0, l1), q2, q3, q4, q5] [(0, l1)] ds m Q) := P_nx k151_0 rfl
set_option maxRecDepth 20000 in
theorem k151_1 : mjCode 151 1 = some (.invokestatic 152, 3, 123, 1) := by decide +kernel
theorem p151_1 {s0 : Int} {q0 q1 q2 q3 q4 q5 : MV} {ds : Ds} {m : Mm} {Q : Ds → Mm → List MV → Prop} : WP 151 1 [q0, q1, q2, q3, q4, q5] [(0, s0)] ds m Q = (WP 122 0 [(0, s0)] [] ds m (fun d2 m2 r2 => WP 151 4 [q0, q1, q2, q3, q4, q5] (r2 ++ []) d2 m2 Q)) := P_cs k151_1 mx122 rfl rfl rfl rfl rfl rfl rfl
set_option maxRecDepth 20000 in
theorem k151_4 : mjCode 151 4 = some (.ifCond .ne 5, 3, 9, 0) := by decide +kernel
theorem p151_4 {s0 : Int} {q0 q1 q2 q3 q4 q5 : MV} {ds : Ds} {m : Mm} {Q : Ds → Mm → List MV → Prop} : WP 151 4 [q0, q1, q2, q3, q4, q5] [(0, s0)] ds m Q = (if s0 = 0 then WP 151 7 [q0, q1, q2, q3, q4, q5] [] ds m Q else WP 151 9 [q0, q1, q2, q3, q4, q5] [] ds m Q) := P_if k151_4 rfl
set_option maxRecDepth 20000 in
theorem k151_7 : mjCode 151 7 = some (.iconst 0, 1, 0, 0) := by decide +kernel
theorem p151_7 {q0 q1 q2 q3 q4 q5 : MV} {ds : Ds} {m : Mm} {Q : Ds → Mm → List MV → Prop} : WP 151 7 [q0, q1, q2, q3, q4, q5] [] ds m Q = (WP 151 8 [q0, q1, q2, q3, q4, q5] [(0, 0)] ds m Q) := P_nx k151_7 rfl
set_option maxRecDepth 20000 in
theorem k151_8 : mjCode 151 8 = some (.ireturn, 1, 0, 0) := by decide +kernel
theorem p151_8 {s0 : Int} {q0 q1 q2 q3 q4 q5 : MV} {ds : Ds} {m : Mm} {Q : Ds → Mm → List MV → Prop} : WP 151 8 [q0, q1, q2, q3, q4, q5] [(0, s0)] ds m Q = (((s0 = 0 ∨ s0 = 1) ∧ Q ds m [(0, s0)])) := P_rb k151_8 rk151
set_option maxRecDepth 20000 in
theorem k151_9 : mjCode 151 9 = some (.iload_n 2, 1, 0, 0) := by decide +kernel
theorem p151_9 {l2 : Int} {q0 q1 q3 q4 q5 : MV} {ds : Ds} {m : Mm} {Q : Ds → Mm → List MV → Prop} : WP 151 9 [q0, q1, (0, l2), q3, q4, q5] [] ds m Q = (WP 151 10 [q0, q1, (0, l2), q3, q4, q5] [(0, l2)] ds m Q) := P_nx k151_9 rfl
set_option maxRecDepth 20000 in
theorem k151_10 : mjCode 151 10 = some (.bipush 10, 2, 0, 0) := by decide +kernel
theorem p151_10 {s0 : Int} {q0 q1 q2 q3 q4 q5 : MV} {ds : Ds} {m : Mm} {Q : Ds → Mm → List MV → Prop} : WP 151 10 [q0, q1, q2, q3, q4, q5] [(0, s0)] ds m Q = (WP 151 12 [q0, q1, q2, q3, q4, q5] [(0, 10), (0, s0)] ds m Q) := P_nx k151_10 rfl
set_option maxRecDepth 20000 in
theorem k151_12 : mjCode 151 12 = some (.if_icmp .ne 20, 3, 32, 0) := by decide +kernel
theorem p151_12 {s0 s1 : Int} {q0 q1 q2 q3 q4 q5 : MV} {ds : Ds} {m : Mm} {Q : Ds → Mm → List MV → Prop} : WP 151 12 [q0, q1, q2, q3, q4, q5] [(0, s0), (0, s1)] ds m Q = (if s1 = s0 then WP 151 15 [q0, q1, q2, q3, q4, q5] [] ds m Q else WP 151 32 [q0, q1, q2, q3, q4, q5] [] ds m Q) := P_if k151_12 rfl
set_option maxRecDepth 20000 in
theorem k151_15 : mjCode 151 15 = some (.aload_n 0, 1, 0, 0) := by decide +kernel
theorem p151_15 {l0 : Int} {q1 q2 q3 q4 q5 : MV} {ds : Ds} {m : Mm} {Q : Ds → Mm → List MV → Prop} : WP 151 15 [(2, l0), q1, q2, q3, q4, q5] [] ds m Q = (WP 151 16 [(2, l0), q1, q2, q3, q4, q5] [(2, l0)] ds m Q) := P_nx k151_15 rfl
set_option maxRecDepth 20000 in
theorem k151_16 : mjCode 151 16 = some (.iload_n 1, 1, 0, 0) := by decide +kernel
theorem p151_16 {l1 s0 : Int} {q0 q2 q3 q4 q5 : MV} {ds : Ds} {m : Mm} {Q : Ds → Mm → List MV → Prop} : WP 151 16 [q0, (0, l1), q2, q3, q4, q5] [(2, s0)] ds m Q = (WP 151 17 [q0, (0, l1), q2, q3, q4, q5] [(0, l1), (2, s0)] ds m Q) := P_nx k151_16 rfl
set_option maxRecDepth 20000 in
theorem k151_17 : mjCode 151 17 = some (.invokevirtual 170, 3, 132, 2) := by decide +kernel
theorem p151_17 {s0 s1 : Int} {q0 q1 q2 q3 q4 q5 : MV} {ds : Ds} {m : Mm} {Q : Ds → Mm → List MV → Prop} : WP 151 17 [q0, q1, q2, q3, q4, q5] [(0, s0), (2, s1)] ds m Q = ((dk ds s1 = 7 ∧ WP 131 0 [(2, s1), (0, s0)] [] ds m (fun d2 m2 r2 => WP 151 20 [q0, q1, q2, q3, q4, q5] (r2 ++ []) d2 m2 Q))) := P_cv k151_17 mx131 mo131 rfl rfl rfl rfl rfl rfl rfl rfl
set_option maxRecDepth 20000 in
theorem k151_20 : mjCode 151 20 = some (.istore 5, 2, 0, 0) := by decide +kernel
theorem p151_20 {l4 s0 : Int} {q0 q1 q2 q3 q5 : MV} {ds : Ds} {m : Mm} {Q : Ds → Mm → List MV → Prop} : WP 151 20 [q0, q1, q2, q3, (0, l4), q5] [(0, s0)] ds m Q = (WP 151 22 [q0, q1, q2, q3, (0, l4), (0, s0)] [] ds m Q) := P_nx k151_20 rfl
set_option maxRecDepth 20000 in
theorem k151_22 : mjCode 151 22 = some (.aload_n 0, 1, 0, 0) := by decide +kernel
theorem p151_22 {l0 : Int} {q1 q2 q3 q4 q5 : MV} {ds : Ds} {m : Mm} {Q : Ds → Mm → List MV → Prop} : WP 151 22 [(2, l0), q1, q2, q3, q4, q5] [] ds m Q = (WP 151 23 [(2, l0), q1, q2, q3, q4, q5] [(2, l0)] ds m Q) := P_nx k151_22 rfl
set_option maxRecDepth 20000 in
theorem k151_23 : mjCode 151 23 = some (.getfield 25, 3, 7, 5) := by decide +kernel
theorem p151_23 {s0 : Int} {q0 q1 q2 q3 q4 q5 : MV} {ds : Ds} {m : Mm} {Q : Ds → Mm → List MV → Prop} : WP 151 23 [q0, q1, q2, q3, q4, q5] [(2, s0)] ds m Q = ((dk ds s0 = 7 ∧ WP 151 26 [q0, q1, q2, q3, q4, q5] [(2, m s0 5)] ds m Q)) := P_gd k151_23 rfl
set_option maxRecDepth 20000 in
theorem k151_26 : mjCode 151 26 = some (.iload_n 1, 1, 0, 0) := by decide +kernel
theorem p151_26 {l1 s0 : Int} {q0 q2 q3 q4 q5 : MV} {ds : Ds} {m : Mm} {Q : Ds → Mm → List MV → Prop} : WP 151 26 [q0, (0, l1), q2, q3, q4, q5] [(2, s0)] ds m Q = (WP 151 27 [q0, (0, l1), q2, q3, q4, q5] [(0, l1), (2, s0)] ds m Q) := P_nx k151_26 rfl
set_option maxRecDepth 20000 in
theorem k151_27 : mjCode 151 27 = some (.iconst 1, 1, 0, 0) := by decide +kernel
theorem p151_27 {s0 s1 : Int} {q0 q1 q2 q3 q4 q5 : MV} {ds : Ds} {m : Mm} {Q : Ds → Mm → List MV → Prop} : WP 151 27 [q0, q1, q2, q3, q4, q5] [(0, s0), (2, s1)] ds m Q = (WP 151 28 [q0, q1, q2, q3, q4, q5] [(0, 1), (0, s0), (2, s1)] ds m Q) := P_nx k151_27 rfl
set_option maxRecDepth 20000 in
theorem k151_28 : mjCode 151 28 = some (.bastore, 1, 0, 0) := by decide +kernel
theorem p151_28 {s0 s1 s2 : Int} {q0 q1 q2 q3 q4 q5 : MV} {ds : Ds} {m : Mm} {Q : Ds → Mm → List MV → Prop} : WP 151 28 [q0, q1, q2, q3, q4, q5] [(0, s0), (0, s1), (2, s2)] ds m Q = (((s0 = 0 ∨ s0 = 1) ∧ dk ds s2 = 11 ∧ 0 ≤ s1 ∧ s1 < dl ds s2 ∧ WP 151 29 [q0, q1, q2, q3, q4, q5] [] ds (up m s2 s1 s0) Q)) := P_s4 k151_28 rfl
set_option maxRecDepth 20000 in
theorem k151_29 : mjCode 151 29 = some (.iload 5, 2, 0, 0) := by decide +kernel
theorem p151_29 {l5 : Int} {q0 q1 q2 q3 q4 : MV} {ds : Ds} {m : Mm} {Q : Ds → Mm → List MV → Prop} : WP 151 29 [q0, q1, q2, q3, q4, (0, l5)] [] ds m Q = (WP 151 31 [q0, q1, q2, q3, q4, (0, l5)] [(0, l5)] ds m Q) := P_nx k151_29 rfl
set_option maxRecDepth 20000 in
theorem k151_31 : mjCode 151 31 = some (.ireturn, 1, 0, 0) := by decide +kernel
theorem p151_31 {s0 : Int} {q0 q1 q2 q3 q4 q5 : MV} {ds : Ds} {m : Mm} {Q : Ds → Mm → List MV → Prop} : WP 151 31 [q0, q1, q2, q3, q4, q5] [(0, s0)] ds m Q = (((s0 = 0 ∨ s0 = 1) ∧ Q ds m [(0, s0)])) := P_rb k151_31 rk151
set_option maxRecDepth 20000 in
theorem k151_32 : mjCode 151 32 = some (.aload_n 0, 1, 0, 0) := by decide +kernel
theorem p151_32 {l0 : Int} {q1 q2 q3 q4 q5 : MV} {ds : Ds} {m : Mm} {Q : Ds → Mm → List MV → Prop} : WP 151 32 [(2, l0), q1, q2, q3, q4, q5] [] ds m Q = (WP 151 33 [(2, l0), q1, q2, q3, q4, q5] [(2, l0)] ds m Q) := P_nx k151_32 rfl
set_option maxRecDepth 20000 in
theorem k151_33 : mjCode 151 33 = some (.iload_n 1, 1, 0, 0) := by decide +kernel
theorem p151_33 {l1 s0 : Int} {q0 q2 q3 q4 q5 : MV} {ds : Ds} {m : Mm} {Q : Ds → Mm → List MV → Prop} : WP 151 33 [q0, (0, l1), q2, q3, q4, q5] [(2, s0)] ds m Q = (WP 151 34 [q0, (0, l1), q2, q3, q4, q5] [(0, l1), (2, s0)] ds m Q) := P_nx k151_33 rfl
set_option maxRecDepth 20000 in
theorem k151_34 : mjCode 151 34 = some (.iload_n 2, 1, 0, 0) := by decide +kernel
theorem p151_34 {l2 s0 s1 : Int} {q0 q1 q3 q4 q5 : MV} {ds : Ds} {m : Mm} {Q : Ds → Mm → List MV → Prop} : WP 151 34 [q0, q1, (0, l2), q3, q4, q5] [(0, s0), (2, s1)] ds m Q = (WP 151 35 [q0, q1, (0, l2), q3, q4, q5] [(0, l2), (0, s0), (2, s1)] ds m Q) := P_nx k151_34 rfl
set_option maxRecDepth 20000 in
theorem k151_35 : mjCode 151 35 = some (.iload_n 3, 1, 0, 0) := by decide +kernel
theorem p151_35 {l3 s0 s1 s2 : Int} {q0 q1 q2 q4 q5 : MV} {ds : Ds} {m : Mm} {Q : Ds → Mm → List MV → Prop} : WP 151 35 [q0, q1, q2, (0, l3), q4, q5] [(0, s0), (0, s1), (2, s2)] ds m Q = (WP 151 36 [q0, q1, q2, (0, l3), q4, q5] [(0, l3), (0, s0), (0, s1), (2, s2)] ds m Q) := P_nx k151_35 rfl
set_option maxRecDepth 20000 in
theorem k151_36 : mjCode 151 36 = some (.iload 4, 2, 0, 0) := by decide +kernel
theorem p151_36 {l4 s0 s1 s2 s3 : Int} {q0 q1 q2 q3 q5 : MV} {ds : Ds} {m : Mm} {Q : Ds → Mm → List MV → Prop} : WP 151 36 [q0, q1, q2, q3, (0, l4), q5] [(0, s0), (0, s1), (0, s2), (2, s3)] ds m Q = (WP 151 38 [q0, q1, q2, q3, (0, l4), q5] [(0, l4), (0, s0), (0, s1), (0, s2), (2, s3)] ds m Q) := P_nx k151_36 rfl
set_option maxRecDepth 20000 in
theorem k151_38 : mjCode 151 38 = some (.invokevirtual 159, 3, 128, 5) := by decide +kernel
theorem p151_38 {s0 s1 s2 s3 s4 : Int} {q0 q1 q2 q3 q4 q5 : MV} {ds : Ds} {m : Mm} {Q : Ds → Mm → List MV → Prop} : WP 151 38 [q0, q1, q2, q3, q4, q5] [(0, s0), (0, s1), (0, s2), (0, s3), (2, s4)] ds m Q = ((dk ds s4 = 7 ∧ WP 127 0 [(2, s4), (0, s3), (0, s2), (0, s1), (0, s0)] [] ds m (fun d2 m2 r2 => WP 151 41 [q0, q1, q2, q3, q4, q5] (r2 ++ []) d2 m2 Q))) := P_cv k151_38 mx127 mo127 rfl rfl rfl rfl rfl rfl rfl rfl
set_option maxRecDepth 20000 in
theorem k151_41 : mjCode 151 41 = some (.istore 5, 2, 0, 0) := by decide +kernel
theorem p151_41 {l4 s0 : Int} {q0 q1 q2 q3 q5 : MV} {ds : Ds} {m : Mm} {Q : Ds → Mm → List MV → Prop} : WP 151 41 [q0, q1, q2, q3, (0, l4), q5] [(0, s0)] ds m Q = (WP 151 43 [q0, q1, q2, q3, (0, l4), (0, s0)] [] ds m Q) := P_nx k151_41 rfl
set_option maxRecDepth 20000 in
theorem k151_43 : mjCode 151 43 = some (.iload 5, 2, 0, 0) := by decide +kernel
theorem p151_43 {l5 : Int} {q0 q1 q2 q3 q4 : MV} {ds : Ds} {m : Mm} {Q : Ds → Mm → List MV → Prop} : WP 151 43 [q0, q1, q2, q3, q4, (0, l5)] [] ds m Q = (WP 151 45 [q0, q1, q2, q3, q4, (0, l5)] [(0, l5)] ds m Q) := P_nx k151_43 rfl
set_option maxRecDepth 20000 in
theorem k151_45 : mjCode 151 45 = some (.ifCond .eq 12, 3, 57, 0) := by decide +kernel
theorem p151_45 {s0 : Int} {q0 q1 q2 q3 q4 q5 : MV} {ds : Ds} {m : Mm} {Q : Ds → Mm → List MV → Prop} : WP 151 45 [q0, q1, q2, q3, q4, q5] [(0, s0)] ds m Q = (if s0 = 0 then WP 151 57 [q0, q1, q2, q3, q4, q5] [] ds m Q else WP 151 48 [q0, q1, q2, q3, q4, q5] [] ds m Q) := P_if k151_45 rfl
set_option maxRecDepth 20000 in
theorem k151_48 : mjCode 151 48 = some (.aload_n 0, 1, 0, 0) := by decide +kernel
theorem p151_48 {l0 : Int} {q1 q2 q3 q4 q5 : MV} {ds : Ds} {m : Mm} {Q : Ds → Mm → List MV → Prop} : WP 151 48 [(2, l0), q1, q2, q3, q4, q5] [] ds m Q = (WP 151 49 [(2, l0), q1, q2, q3, q4, q5] [(2, l0)] ds m Q) := P_nx k151_48 rfl
set_option maxRecDepth 20000 in
theorem k151_49 : mjCode 151 49 = some (.iload_n 1, 1, 0, 0) := by decide +kernel
theorem p151_49 {l1 s0 : Int} {q0 q2 q3 q4 q5 : MV} {ds : Ds} {m : Mm} {Q : Ds → Mm → List MV → Prop} : WP 151 49 [q0, (0, l1), q2, q3, q4, q5] [(2, s0)] ds m Q = (WP 151 50 [q0, (0, l1), q2, q3, q4, q5] [(0, l1), (2, s0)] ds m Q) := P_nx k151_49 rfl
set_option maxRecDepth 20000 in
theorem k151_50 : mjCode 151 50 = some (.iload_n 2, 1, 0, 0) := by decide +kernel
theorem p151_50 {l2 s0 s1 : Int} {q0 q1 q3 q4 q5 : MV} {ds : Ds} {m : Mm} {Q : Ds → Mm → List MV → Prop} : WP 151 50 [q0, q1, (0, l2), q3, q4, q5] [(0, s0), (2, s1)] ds m Q = (WP 151 51 [q0, q1, (0, l2), q3, q4, q5] [(0, l2), (0, s0), (2, s1)] ds m Q) := P_nx k151_50 rfl
set_option maxRecDepth 20000 in
theorem k151_51 : mjCode 151 51 = some (.iload_n 3, 1, 0, 0) := by decide +kernel
theorem p151_51 {l3 s0 s1 s2 : Int} {q0 q1 q2 q4 q5 : MV} {ds : Ds} {m : Mm} {Q : Ds → Mm → List MV → Prop} : WP 151 51 [q0, q1, q2, (0, l3), q4, q5] [(0, s0), (0, s1), (2, s2)] ds m Q = (WP 151 52 [q0, q1, q2, (0, l3), q4, q5] [(0, l3), (0, s0), (0, s1), (2, s2)] ds m Q) := P_nx k151_51 rfl
set_option maxRecDepth 20000 in
theorem k151_52 : mjCode 151 52 = some (.iload 4, 2, 0, 0) := by decide +kernel
theorem p151_52 {l4 s0 s1 s2 s3 : Int} {q0 q1 q2 q3 q5 : MV} {ds : Ds} {m : Mm} {Q : Ds → Mm → List MV → Prop} : WP 151 52 [q0, q1, q2, q3, (0, l4), q5] [(0, s0), (0, s1), (0, s2), (2, s3)] ds m Q = (WP 151 54 [q0, q1, q2, q3, (0, l4), q5] [(0, l4), (0, s0), (0, s1), (0, s2), (2, s3)] ds m Q) := P_nx k151_52 rfl
set_option maxRecDepth 20000 in
theorem k151_54 : mjCode 151 54 = some (.invokevirtual 163, 3, 129, 5) := by decide +kernel
theorem p151_54 {s0 s1 s2 s3 s4 : Int} {q0 q1 q2 q3 q4 q5 : MV} {ds : Ds} {m : Mm} {Q : Ds → Mm → List MV → Prop} : WP 151 54 [q0, q1, q2, q3, q4, q5] [(0, s0), (0, s1), (0, s2), (0, s3), (2, s4)] ds m Q = ((dk ds s4 = 7 ∧ WP 128 0 [(2, s4), (0, s3), (0, s2), (0, s1), (0, s0)] [] ds m (fun d2 m2 r2 => WP 151 57 [q0, q1, q2, q3, q4, q5] (r2 ++ []) d2 m2 Q))) := P_cv k151_54 mx128 mo128 rfl rfl rfl rfl rfl rfl rfl rfl
set_option maxRecDepth 20000 in
theorem k151_57 : mjCode 151 57 = some (.iload 5, 2, 0, 0) := by decide +kernel
theorem p151_57 {l5 : Int} {q0 q1 q2 q3 q4 : MV} {ds : Ds} {m : Mm} {Q : Ds → Mm → List MV → Prop} : WP 151 57 [q0, q1, q2, q3, q4, (0, l5)] [] ds m Q = (WP 151 59 [q0, q1, q2, q3, q4, (0, l5)] [(0, l5)] ds m Q) := P_nx k151_57 rfl
set_option maxRecDepth 20000 in
theorem k151_59 : mjCode 151 59 = some (.ireturn, 1, 0, 0) := by decide +kernel
theorem p151_59 {s0 : Int} {q0 q1 q2 q3 q4 q5 : MV} {ds : Ds} {m : Mm} {Q : Ds → Mm → List MV → Prop} : WP 151 59 [q0, q1, q2, q3, q4, q5] [(0, s0)] ds m Q = (((s0 = 0 ∨ s0 = 1) ∧ Q ds m [(0, s0)])) := P_rb k151_59 rk151
set_option maxRecDepth 20000 in
theorem k152_0 : mjCode 152 0 = some (.aload_n 0, 1, 0, 0) := by decide +kernel
theorem p152_0 {l0 : Int} {q1 q2 q3 q4 : MV} {ds : Ds} {m : Mm} {Q : Ds → Mm → List MV → Prop} : WP 152 0 [(2, l0), q1, q2, q3, q4] [] ds m Q = (WP 152 1 [(2, l0), q1, q2, q3, q4] [(2, l0)] ds m Q) := P_nx k152_0 rfl
set_option maxRecDepth 20000 in
theorem k152_1 : mjCode 152 1 = some (.iload_n 1, 1, 0, 0) := by decide +kernel
theorem p152_1 {l1 s0 : Int} {q0 q2 q3 q4 : MV} {ds : Ds} {m : Mm} {Q : Ds → Mm → List MV → Prop} : WP 152 1 [q0, (0, l1), q2, q3, q4] [(2, s0)] ds m Q = (WP 152 2 [q0, (0, l1), q2, q3, q4] [(0, l1), (2, s0)] ds m Q) := P_nx k152_1 rfl
set_option maxRecDepth 20000 in
theorem k152_2 : mjCode 152 2 = some (.invokevirtual 183, 3, 142, 2) := by decide +kernel
theorem p152_2 {s0 s1 : Int} {q0 q1 q2 q3 q4 : MV} {ds : Ds} {m : Mm} {Q : Ds → Mm → List MV → Prop} : WP 152 2 [q0, q1, q2, q3, q4] [(0, s0), (2, s1)] ds m Q = ((dk ds s1 = 7 ∧ WP 141 0 [(2, s1), (0, s0)] [] ds m (fun d2 m2 r2 => WP 152 5 [q0, q1, q2, q3, q4] (r2 ++ []) d2 m2 Q))) := P_cv k152_2 mx141 mo141 rfl rfl rfl rfl rfl rfl rfl rfl
set_option maxRecDepth 20000 in
theorem k152_5 : mjCode 152 5 = some (.istore_n 2, 1, 0, 0) := by decide +kernel
theorem p152_5 {l1 s0 : Int} {q0 q2 q3 q4 : MV} {ds : Ds} {m : Mm} {Q : Ds → Mm → List MV → Prop} : WP 152 5 [q0, (0, l1), q2, q3, q4] [(0, s0)] ds m Q = (WP 152 6 [q0, (0, l1), (0, s0), q3, q4] [] ds m Q) := P_nx k152_5 rfl
set_option maxRecDepth 20000 in
theorem k152_6 : mjCode 152 6 = some (.iload_n 2, 1, 0, 0) := by decide +kernel
theorem p152_6 {l2 : Int} {q0 q1 q3 q4 : MV} {ds : Ds} {m : Mm} {Q : Ds → Mm → List MV → Prop} : WP 152 6 [q0, q1, (0, l2), q3, q4] [] ds m Q = (WP 152 7 [q0, q1, (0, l2), q3, q4] [(0, l2)] ds m Q) := P_nx k152_6 rfl
set_option maxRecDepth 20000 in
theorem k152_7 : mjCode 152 7 = some (.ifCond .eq 9, 3, 16, 0) := by decide +kernel
theorem p152_7 {s0 : Int} {q0 q1 q2 q3 q4 : MV} {ds : Ds} {m : Mm} {Q : Ds → Mm → List MV → Prop} : WP 152 7 [q0, q1, q2, q3, q4] [(0, s0)] ds m Q = (if s0 = 0 then WP 152 16 [q0, q1, q2, q3, q4] [] ds m Q else WP 152 10 [q0, q1, q2, q3, q4] [] ds m Q) := P_if k152_7 rfl
set_option maxRecDepth 20000 in
theorem k152_10 : mjCode 152 10 = some (.aload_n 0, 1, 0, 0) := by decide +kernel
theorem p152_10 {l0 : Int} {q1 q2 q3 q4 : MV} {ds : Ds} {m : Mm} {Q : Ds → Mm → List MV → Prop} : WP 152 10 [(2, l0), q1, q2, q3, q4] [] ds m Q = (WP 152 11 [(2, l0), q1, q2, q3, q4] [(2, l0)] ds m Q) := P_nx k152_10 rfl
set_option maxRecDepth 20000 in
theorem k152_11 : mjCode 152 11 = some (.iload_n 2, 1, 0, 0) := by decide +kernel
theorem p152_11 {l2 s0 : Int} {q0 q1 q3 q4 : MV} {ds : Ds} {m : Mm} {Q : Ds → Mm → List MV → Prop} : WP 152 11 [q0, q1, (0, l2), q3, q4] [(2, s0)] ds m Q = (WP 152 12 [q0, q1, (0, l2), q3, q4] [(0, l2), (2, s0)] ds m Q) := P_nx k152_11 rfl
set_option maxRecDepth 20000 in
theorem k152_12 : mjCode 152 12 = some (.invokevirtual 155, 3, 122, 2) := by decide +kernel
theorem p152_12 {s0 s1 : Int} {q0 q1 q2 q3 q4 : MV} {ds : Ds} {m : Mm} {Q : Ds → Mm → List MV → Prop} : WP 152 12 [q0, q1, q2, q3, q4] [(0, s0), (2, s1)] ds m Q = ((dk ds s1 = 7 ∧ WP 121 0 [(2, s1), (0, s0)] [] ds m (fun d2 m2 r2 => WP 152 15 [q0, q1, q2, q3, q4] (r2 ++ []) d2 m2 Q))) := P_cv k152_12 mx121 mo121 rfl rfl rfl rfl rfl rfl rfl rfl
set_option maxRecDepth 20000 in
theorem k152_15 : mjCode 152 15 = some (.ireturn, 1, 0, 0) := by decide +kernel
theorem p152_15 {s0 : Int} {q0 q1 q2 q3 q4 : MV} {ds : Ds} {m : Mm} {Q : Ds → Mm → List MV → Prop} : WP 152 15 [q0, q1, q2, q3, q4] [(0, s0)] ds m Q = (Q ds m [(0, s0)]) := P_ri k152_15 rk152
set_option maxRecDepth 20000 in
theorem k152_16 : mjCode 152 16 = some (.aload_n 0, 1, 0, 0) := by decide +kernel
theorem p152_16 {l0 : Int} {q1 q2 q3 q4 : MV} {ds : Ds} {m : Mm} {Q : Ds → Mm → List MV → Prop} : WP 152 16 [(2, l0), q1, q2, q3, q4] [] ds m Q = (WP 152 17 [(2, l0), q1, q2, q3, q4] [(2, l0)] ds m Q) := P_nx k152_16 rfl
set_option maxRecDepth 20000 in
theorem k152_17 : mjCode 152 17 = some (.bipush 8, 2, 0, 0) := by decide +kernel
theorem p152_17 {s0 : Int} {q0 q1 q2 q3 q4 : MV} {ds : Ds} {m : Mm} {Q : Ds → Mm → List MV → Prop} : WP 152 17 [q0, q1, q2, q3, q4] [(2, s0)] ds m Q = (WP 152 19 [q0, q1, q2, q3, q4] [(0, 8), (2, s0)] ds m Q) := P_nx k152_17 rfl
set_option maxRecDepth 20000 in
theorem k152_19 : mjCode 152 19 = some (.invokevirtual 190, 3, 150, 2) := by decide +kernel
theorem p152_19 {s0 s1 : Int} {q0 q1 q2 q3 q4 : MV} {ds : Ds} {m : Mm} {Q : Ds → Mm → List MV → Prop} : WP 152 19 [q0, q1, q2, q3, q4] [(0, s0), (2, s1)] ds m Q = ((dk ds s1 = 7 ∧ WP 149 0 [(2, s1), (0, s0), (3, 0), (3, 0)] [] ds m (fun d2 m2 r2 => WP 152 22 [q0, q1, q2, q3, q4] (r2 ++ []) d2 m2 Q))) := P_cv k152_19 mx149 mo149 rfl rfl rfl rfl rfl rfl rfl rfl
set_option maxRecDepth 20000 in
theorem k152_22 : mjCode 152 22 = some (.aload_n 0, 1, 0, 0) := by decide +kernel
theorem p152_22 {l0 : Int} {q1 q2 q3 q4 : MV} {ds : Ds} {m : Mm} {Q : Ds → Mm → List MV → Prop} : WP 152 22 [(2, l0), q1, q2, q3, q4] [] ds m Q = (WP 152 23 [(2, l0), q1, q2, q3, q4] [(2, l0)] ds m Q) := P_nx k152_22 rfl
set_option maxRecDepth 20000 in
theorem k152_23 : mjCode 152 23 = some (.getfield 41, 3, 7, 12) := by decide +kernel
theorem p152_23 {s0 : Int} {q0 q1 q2 q3 q4 : MV} {ds : Ds} {m : Mm} {Q : Ds → Mm → List MV → Prop} : WP 152 23 [q0, q1, q2, q3, q4] [(2, s0)] ds m Q = ((dk ds s0 = 7 ∧ WP 152 26 [q0, q1, q2, q3, q4] [(2, m s0 12)] ds m Q)) := P_gd k152_23 rfl
set_option maxRecDepth 20000 in
theorem k152_26 : mjCode 152 26 = some (.iload_n 1, 1, 0, 0) := by decide +kernel
theorem p152_26 {l1 s0 : Int} {q0 q2 q3 q4 : MV} {ds : Ds} {m : Mm} {Q : Ds → Mm → List MV → Prop} : WP 152 26 [q0, (0, l1), q2, q3, q4] [(2, s0)] ds m Q = (WP 152 27 [q0, (0, l1), q2, q3, q4] [(0, l1), (2, s0)] ds m Q) := P_nx k152_26 rfl
set_option maxRecDepth 20000 in
theorem k152_27 : mjCode 152 27 = some (.iaload, 1, 0, 0) := by decide +kernel
theorem p152_27 {s0 s1 : Int} {q0 q1 q2 q3 q4 : MV} {ds : Ds} {m : Mm} {Q : Ds → Mm → List MV → Prop} : WP 152 27 [q0, q1, q2, q3, q4] [(0, s0), (2, s1)] ds m Q = ((dk ds s1 = 10 ∧ 0 ≤ s0 ∧ s0 < dl ds s1 ∧ WP 152 28 [q0, q1, q2, q3, q4] [(0, m s1 s0)] ds m Q)) := P_g3 k152_27 rfl
set_option maxRecDepth 20000 in
theorem k152_28 : mjCode 152 28 = some (.iconst 4, 1, 0, 0) := by decide +kernel
theorem p152_28 {s0 : Int} {q0 q1 q2 q3 q4 : MV} {ds : Ds} {m : Mm} {Q : Ds → Mm → List MV → Prop} : WP 152 28 [q0, q1, q2, q3, q4] [(0, s0)] ds m Q = (WP 152 29 [q0, q1, q2, q3, q4] [(0, 4), (0, s0)] ds m Q) := P_nx k152_28 rfl
set_option maxRecDepth 20000 in
theorem k152_29 : mjCode 152 29 = some (.irem, 1, 0, 0) := by decide +kernel
theorem p152_29 {s0 s1 : Int} {q0 q1 q2 q3 q4 : MV} {ds : Ds} {m : Mm} {Q : Ds → Mm → List MV → Prop} : WP 152 29 [q0, q1, q2, q3, q4] [(0, s0), (0, s1)] ds m Q = ((¬ s0 = 0 ∧ WP 152 30 [q0, q1, q2, q3, q4] [(0, jrem s1 s0)] ds m Q)) := P_dv k152_29 rfl
set_option maxRecDepth 20000 in
theorem k152_30 : mjCode 152 30 = some (.ifCond .ne 7, 3, 37, 0) := by decide +kernel
theorem p152_30 {s0 : Int} {q0 q1 q2 q3 q4 : MV} {ds : Ds} {m : Mm} {Q : Ds → Mm → List MV → Prop} : WP 152 30 [q0, q1, q2, q3, q4] [(0, s0)] ds m Q = (if s0 = 0 then WP 152 33 [q0, q1, q2, q3, q4] [] ds m Q else WP 152 37 [q0, q1, q2, q3, q4] [] ds m Q) := P_if k152_30 rfl
set_option maxRecDepth 20000 in
theorem k152_33 : mjCode 152 33 = some (.iconst 1, 1, 0, 0) := by decide +kernel
theorem p152_33 {q0 q1 q2 q3 q4 : MV} {ds : Ds} {m : Mm} {Q : Ds → Mm → List MV → Prop} : WP 152 33 [q0, q1, q2, q3, q4] [] ds m Q = (WP 152 34 [q0, q1, q2, q3, q4] [(0, 1)] ds m Q) := P_nx k152_33 rfl
set_option maxRecDepth 20000 in
theorem k152_34 : mjCode 152 34 = some (.goto 4, 3, 38, 0) := by decide +kernel
theorem p152_34 {s0 : Int} {q0 q1 q2 q3 q4 : MV} {ds : Ds} {m : Mm} {Q : Ds → Mm → List MV → Prop} : WP 152 34 [q0, q1, q2, q3, q4] [(0, s0)] ds m Q = (WP 152 38 [q0, q1, q2, q3, q4] [(0, s0)] ds m Q) := P_nx k152_34 rfl
set_option maxRecDepth 20000 in
theorem k152_37 : mjCode 152 37 = some (.iconst 0, 1, 0, 0) := by decide +kernel
theorem p152_37 {q0 q1 q2 q3 q4 : MV} {ds : Ds} {m : Mm} {Q : Ds → Mm → List MV → Prop} : WP 152 37 [q0, q1, q2, q3, q4] [] ds m Q = (WP 152 38 [q0, q1, q2, q3, q4] [(0, 0)] ds m Q) := P_nx k152_37 rfl
set_option maxRecDepth 20000 in
theorem k152_38 : mjCode 152 38 = some (.istore_n 3, 1, 0, 0) := by decide +kernel
theorem p152_38 {l2 s0 : Int} {q0 q1 q3 q4 : MV} {ds : Ds} {m : Mm} {Q : Ds → Mm → List MV → Prop} : WP 152 38 [q0, q1, (0, l2), q3, q4] [(0, s0)] ds m Q = (WP 152 39 [q0, q1, (0, l2), (0, s0), q4] [] ds m Q) := P_nx k152_38 rfl
set_option maxRecDepth 20000 in
theorem k152_39 : mjCode 152 39 = some (.iconst 0, 1, 0, 0) := by decide +kernel
theorem p152_39 {q0 q1 q2 q3 q4 : MV} {ds : Ds} {m : Mm} {Q : Ds → Mm → List MV → Prop} : WP 152 39 [q0, q1, q2, q3, q4] [] ds m Q = (WP 152 40 [q0, q1, q2, q3, q4] [(0, 0)] ds m Q) := P_nx k152_39 rfl
set_option maxRecDepth 20000 in
theorem k152_40 : mjCode 152 40 = some (.istore 4, 2, 0, 0) := by decide +kernel
theorem p152_40 {l3 s0 : Int} {q0 q1 q2 q4 : MV} {ds : Ds} {m : Mm} {Q : Ds → Mm → List MV → Prop} : WP 152 40 [q0, q1, q2, (0, l3), q4] [(0, s0)] ds m Q = (WP 152 42 [q0, q1, q2, (0, l3), (0, s0)] [] ds m Q) := P_nx k152_40 rfl
set_option maxRecDepth 20000 in
theorem k152_42 : mjCode 152 42 = some (.iload_n 3, 1, 0, 0) := by decide +kernel
theorem p152_42 {l3 : Int} {q0 q1 q2 q4 : MV} {ds : Ds} {m : Mm} {Q : Ds → Mm → List MV → Prop} : WP 152 42 [q0, q1, q2, (0, l3), q4] [] ds m Q = (WP 152 43 [q0, q1, q2, (0, l3), q4] [(0, l3)] ds m Q) := P_nx k152_42 rfl
set_option maxRecDepth 20000 in
theorem k152_43 : mjCode 152 43 = some (.ifCond .eq 59, 3, 102, 0) := by decide +kernel
theorem p152_43 {s0 : Int} {q0 q1 q2 q3 q4 : MV} {ds : Ds} {m : Mm} {Q : Ds → Mm → List MV → Prop} : WP 152 43 [q0, q1, q2, q3, q4] [(0, s0)] ds m Q = (if s0 = 0 then WP 152 102 [q0, q1, q2, q3, q4] [] ds m Q else WP 152 46 [q0, q1, q2, q3, q4] [] ds m Q) := P_if k152_43 rfl
set_option maxRecDepth 20000 in
theorem k152_46 : mjCode 152 46 = some (.iload 4, 2, 0, 0) := by decide +kernel
theorem p152_46 {l4 : Int} {q0 q1 q2 q3 : MV} {ds : Ds} {m : Mm} {Q : Ds → Mm → List MV → Prop} : WP 152 46 [q0, q1, q2, q3, (0, l4)] [] ds m Q = (WP 152 48 [q0, q1, q2, q3, (0, l4)] [(0, l4)] ds m Q) := P_nx k152_46 rfl
set_option maxRecDepth 20000 in
theorem k152_48 : mjCode 152 48 = some (.aload_n 0, 1, 0, 0) := by decide +kernel
theorem p152_48 {l0 s0 : Int} {q1 q2 q3 q4 : MV} {ds : Ds} {m : Mm} {Q : Ds → Mm → List MV → Prop} : WP 152 48 [(2, l0), q1, q2, q3, q4] [(0, s0)] ds m Q = (WP 152 49 [(2, l0), q1, q2, q3, q4] [(2, l0), (0, s0)] ds m Q) := P_nx k152_48 rfl
set_option maxRecDepth 20000 in
theorem k152_49 : mjCode 152 49 = some (.getfield 41, 3, 7, 12) := by decide +kernel
theorem p152_49 {s0 s1 : Int} {q0 q1 q2 q3 q4 : MV} {ds : Ds} {m : Mm} {Q : Ds → Mm → List MV → Prop} : WP 152 49 [q0, q1, q2, q3, q4] [(2, s0), (0, s1)] ds m Q = ((dk ds s0 = 7 ∧ WP 152 52 [q0, q1, q2, q3, q4] [(2, m s0 12), (0, s1)] ds m Q)) := P_gd k152_49 rfl
set_option maxRecDepth 20000 in
theorem k152_52 : mjCode 152 52 = some (.iload_n 1, 1, 0, 0) := by decide +kernel
theorem p152_52 {l1 s0 s1 : Int} {q0 q2 q3 q4 : MV} {ds : Ds} {m : Mm} {Q : Ds → Mm → List MV → Prop} : WP 152 52 [q0, (0, l1), q2, q3, q4] [(2, s0), (0, s1)] ds m Q = (WP 152 53 [q0, (0, l1), q2, q3, q4] [(0, l1), (2, s0), (0, s1)] ds m Q) := P_nx k152_52 rfl
set_option maxRecDepth 20000 in
theorem k152_53 : mjCode 152 53 = some (.iaload, 1, 0, 0) := by decide +kernel
theorem p152_53 {s0 s1 s2 : Int} {q0 q1 q2 q3 q4 : MV} {ds : Ds} {m : Mm} {Q : Ds → Mm → List MV → Prop} : WP 152 53 [q0, q1, q2, q3, q4] [(0, s0), (2, s1), (0, s2)] ds m Q = ((dk ds s1 = 10 ∧ 0 ≤ s0 ∧ s0 < dl ds s1 ∧ WP 152 54 [q0, q1, q2, q3, q4] [(0, m s1 s0), (0, s2)] ds m Q)) := P_g3 k152_53 rfl
set_option maxRecDepth 20000 in
theorem k152_54 : mjCode 152 54 = some (.if_icmp .ge 48, 3, 102, 0) := by decide +kernel
theorem p152_54 {s0 s1 : Int} {q0 q1 q2 q3 q4 : MV} {ds : Ds} {m : Mm} {Q : Ds → Mm → List MV → Prop} : WP 152 54 [q0, q1, q2, q3, q4] [(0, s0), (0, s1)] ds m Q = (if s1 < s0 then WP 152 57 [q0, q1, q2, q3, q4] [] ds m Q else WP 152 102 [q0, q1, q2, q3, q4] [] ds m Q) := P_if k152_54 rfl
set_option maxRecDepth 20000 in
theorem k152_57 : mjCode 152 57 = some (.aload_n 0, 1, 0, 0) := by decide +kernel
theorem p152_57 {l0 : Int} {q1 q2 q3 q4 : MV} {ds : Ds} {m : Mm} {Q : Ds → Mm → List MV → Prop} : WP 152 57 [(2, l0), q1, q2, q3, q4] [] ds m Q = (WP 152 58 [(2, l0), q1, q2, q3, q4] [(2, l0)] ds m Q) := P_nx k152_57 rfl
set_option maxRecDepth 20000 in
theorem k152_58 : mjCode 152 58 = some (.aload_n 0, 1, 0, 0) := by decide +kernel
theorem p152_58 {l0 s0 : Int} {q1 q2 q3 q4 : MV} {ds : Ds} {m : Mm} {Q : Ds → Mm → List MV → Prop} : WP 152 58 [(2, l0), q1, q2, q3, q4] [(2, s0)] ds m Q = (WP 152 59 [(2, l0), q1, q2, q3, q4] [(2, l0), (2, s0)] ds m Q) := P_nx k152_58 rfl
set_option maxRecDepth 20000 in
theorem k152_59 : mjCode 152 59 = some (.iload_n 1, 1, 0, 0) := by decide +kernel
theorem p152_59 {l1 s0 s1 : Int} {q0 q2 q3 q4 : MV} {ds : Ds} {m : Mm} {Q : Ds → Mm → List MV → Prop} : WP 152 59 [q0, (0, l1), q2, q3, q4] [(2, s0), (2, s1)] ds m Q = (WP 152 60 [q0, (0, l1), q2, q3, q4] [(0, l1), (2, s0), (2, s1)] ds m Q) := P_nx k152_59 rfl
set_option maxRecDepth 20000 in
theorem k152_60 : mjCode 152 60 = some (.iload 4, 2, 0, 0) := by decide +kernel
theorem p152_60 {l4 s0 s1 s2 : Int} {q0 q1 q2 q3 : MV} {ds : Ds} {m : Mm} {Q : Ds → Mm → List MV → Prop} : WP 152 60 [q0, q1, q2, q3, (0, l4)] [(0, s0), (2, s1), (2, s2)] ds m Q = (WP 152 62 [q0, q1, q2, q3, (0, l4)] [(0, l4), (0, s0), (2, s1), (2, s2)] ds m Q) := P_nx k152_60 rfl
set_option maxRecDepth 20000 in
theorem k152_62 : mjCode 152 62 = some (.invokevirtual 194, 3, 149, 3) := by decide +kernel
theorem p152_62 {s0 s1 s2 s3 : Int} {q0 q1 q2 q3 q4 : MV} {ds : Ds} {m : Mm} {Q : Ds → Mm → List MV → Prop} : WP 152 62 [q0, q1, q2, q3, q4] [(0, s0), (0, s1), (2, s2), (2, s3)] ds m Q = ((dk ds s2 = 7 ∧ WP 148 0 [(2, s2), (0, s1), (0, s0)] [] ds m (fun d2 m2 r2 => WP 152 65 [q0, q1, q2, q3, q4] (r2 ++ [(2, s3)]) d2 m2 Q))) := P_cv k152_62 mx148 mo148 rfl rfl rfl rfl rfl rfl rfl rfl
set_option maxRecDepth 20000 in
theorem k152_65 : mjCode 152 65 = some (.aload_n 0, 1, 0, 0) := by decide +kernel
theorem p152_65 {l0 s0 s1 : Int} {q1 q2 q3 q4 : MV} {ds : Ds} {m : Mm} {Q : Ds → Mm → List MV → Prop} : WP 152 65 [(2, l0), q1, q2, q3, q4] [(0, s0), (2, s1)] ds m Q = (WP 152 66 [(2, l0), q1, q2, q3, q4] [(2, l0), (0, s0), (2, s1)] ds m Q) := P_nx k152_65 rfl
set_option maxRecDepth 20000 in
theorem k152_66 : mjCode 152 66 = some (.iload_n 1, 1, 0, 0) := by decide +kernel
theorem p152_66 {l1 s0 s1 s2 : Int} {q0 q2 q3 q4 : MV} {ds : Ds} {m : Mm} {Q : Ds → Mm → List MV → Prop} : WP 152 66 [q0, (0, l1), q2, q3, q4] [(2, s0), (0, s1), (2, s2)] ds m Q = (WP 152 67 [q0, (0, l1), q2, q3, q4] [(0, l1), (2, s0), (0, s1), (2, s2)] ds m Q) := P_nx k152_66 rfl
set_option maxRecDepth 20000 in
theorem k152_67 : mjCode 152 67 = some (.iload 4, 2, 0, 0) := by decide +kernel
theorem p152_67 {l4 s0 s1 s2 s3 : Int} {q0 q1 q2 q3 : MV} {ds : Ds} {m : Mm} {Q : Ds → Mm → List MV → Prop} : WP 152 67 [q0, q1, q2, q3, (0, l4)] [(0, s0), (2, s1), (0, s2), (2, s3)] ds m Q = (WP 152 69 [q0, q1, q2, q3, (0, l4)] [(0, l4), (0, s0), (2, s1), (0, s2), (2, s3)] ds m Q) := P_nx k152_67 rfl
set_option maxRecDepth 20000 in
theorem k152_69 : mjCode 152 69 = some (.iconst 1, 1, 0, 0) := by decide +kernel
theorem p152_69 {s0 s1 s2 s3 s4 : Int} {q0 q1 q2 q3 q4 : MV} {ds : Ds} {m : Mm} {Q : Ds → Mm → List MV → Prop} : WP 152 69 [q0, q1, q2, q3, q4] [(0, s0), (0, s1), (2, s2), (0, s3), (2, s4)] ds m Q = (WP 152 70 [q0, q1, q2, q3, q4] [(0, 1), (0, s0), (0, s1), (2, s2), (0, s3), (2, s4)] ds m Q) := P_nx k152_69 rfl
set_option maxRecDepth 20000 in
theorem k152_70 : mjCode 152 70 = some (.iadd, 1, 0, 0) := by decide +kernel
theorem p152_70 {s0 s1 s2 s3 s4 s5 : Int} {q0 q1 q2 q3 q4 : MV} {ds : Ds} {m : Mm} {Q : Ds → Mm → List MV → Prop} : WP 152 70 [q0, q1, q2, q3, q4] [(0, s0), (0, s1), (0, s2), (2, s3), (0, s4), (2, s5)] ds m Q = (WP 152 71 [q0, q1, q2, q3, q4] [(0, w32 (s1 + s0)), (0, s2), (2, s3), (0, s4), (2, s5)] ds m Q) := P_nx k152_70 rfl
set_option maxRecDepth 20000 in
theorem k152_71 : mjCode 152 71 = some (.invokevirtual 194, 3, 149, 3) := by decide +kernel
theorem p152_71 {s0 s1 s2 s3 s4 : Int} {q0 q1 q2 q3 q4 : MV} {ds : Ds} {m : Mm} {Q : Ds → Mm → List MV → Prop} : WP 152 71 [q0, q1, q2, q3, q4] [(0, s0), (0, s1), (2, s2), (0, s3), (2, s4)] ds m Q = ((dk ds s2 = 7 ∧ WP 148 0 [(2, s2), (0, s1), (0, s0)] [] ds m (fun d2 m2 r2 => WP 152 74 [q0, q1, q2, q3, q4] (r2 ++ [(0, s3), (2, s4)]) d2 m2 Q))) := P_cv k152_71 mx148 mo148 rfl rfl rfl rfl rfl rfl rfl rfl
set_option maxRecDepth 20000 in
theorem k152_74 : mjCode 152 74 = some (.aload_n 0, 1, 0, 0) := by decide +kernel
theorem p152_74 {l0 s0 s1 s2 : Int} {q1 q2 q3 q4 : MV} {ds : Ds} {m : Mm} {Q : Ds → Mm → List MV → Prop} : WP 152 74 [(2, l0), q1, q2, q3, q4] [(0, s0), (0, s1), (2, s2)] ds m Q = (WP 152 75 [(2, l0), q1, q2, q3, q4] [(2, l0), (0, s0), (0, s1), (2, s2)] ds m Q) := P_nx k152_74 rfl
set_option maxRecDepth 20000 in
theorem k152_75 : mjCode 152 75 = some (.iload_n 1, 1, 0, 0) := by decide +kernel
theorem p152_75 {l1 s0 s1 s2 s3 : Int} {q0 q2 q3 q4 : MV} {ds : Ds} {m : Mm} {Q : Ds → Mm → List MV → Prop} : WP 152 75 [q0, (0, l1), q2, q3, q4] [(2, s0), (0, s1), (0, s2), (2, s3)] ds m Q = (WP 152 76 [q0, (0, l1), q2, q3, q4] [(0, l1), (2, s0), (0, s1), (0, s2), (2, s3)] ds m Q) := P_nx k152_75 rfl
set_option maxRecDepth 20000 in
theorem k152_76 : mjCode 152 76 = some (.iload 4, 2, 0, 0) := by decide +kernel
theorem p152_76 {l4 s0 s1 s2 s3 s4 : Int} {q0 q1 q2 q3 : MV} {ds : Ds} {m : Mm} {Q : Ds → Mm → List MV → Prop} : WP 152 76 [q0, q1, q2, q3, (0, l4)] [(0, s0), (2, s1), (0, s2), (0, s3), (2, s4)] ds m Q = (WP 152 78 [q0, q1, q2, q3, (0, l4)] [(0, l4), (0, s0), (2, s1), (0, s2), (0, s3), (2, s4)] ds m Q) := P_nx k152_76 rfl
set_option maxRecDepth 20000 in
theorem k152_78 : mjCode 152 78 = some (.iconst 2, 1, 0, 0) := by decide +kernel
theorem p152_78 {s0 s1 s2 s3 s4 s5 : Int} {q0 q1 q2 q3 q4 : MV} {ds : Ds} {m : Mm} {Q : Ds → Mm → List MV → Prop} : WP 152 78 [q0, q1, q2, q3, q4] [(0, s0), (0, s1), (2, s2), (0, s3), (0, s4), (2, s5)] ds m Q = (WP 152 79 [q0, q1, q2, q3, q4] [(0, 2), (0, s0), (0, s1), (2, s2), (0, s3), (0, s4), (2, s5)] ds m Q) := P_nx k152_78 rfl
set_option maxRecDepth 20000 in
theorem k152_79 : mjCode 152 79 = some (.iadd, 1, 0, 0) := by decide +kernel
theorem p152_79 {s0 s1 s2 s3 s4 s5 s6 : Int} {q0 q1 q2 q3 q4 : MV} {ds : Ds} {m : Mm} {Q : Ds → Mm → List MV → Prop} : WP 152 79 [q0, q1, q2, q3, q4] [(0, s0), (0, s1), (0, s2), (2, s3), (0, s4), (0, s5), (2, s6)] ds m Q = (WP 152 80 [q0, q1, q2, q3, q4] [(0, w32 (s1 + s0)), (0, s2), (2, s3), (0, s4), (0, s5), (2, s6)] ds m Q) := P_nx k152_79 rfl
set_option maxRecDepth 20000 in
theorem k152_80 : mjCode 152 80 = some (.invokevirtual 194, 3, 149, 3) := by decide +kernel
theorem p152_80 {s0 s1 s2 s3 s4 s5 : Int} {q0 q1 q2 q3 q4 : MV} {ds : Ds} {m : Mm} {Q : Ds → Mm → List MV → Prop} : WP 152 80 [q0, q1, q2, q3, q4] [(0, s0), (0, s1), (2, s2), (0, s3), (0, s4), (2, s5)] ds m Q = ((dk ds s2 = 7 ∧ WP 148 0 [(2, s2), (0, s1), (0, s0)] [] ds m (fun d2 m2 r2 => WP 152 83 [q0, q1, q2, q3, q4] (r2 ++ [(0, s3), (0, s4), (2, s5)]) d2 m2 Q))) := P_cv k152_80 mx148 mo148 rfl rfl rfl rfl rfl rfl rfl rfl
set_option maxRecDepth 20000 in
theorem k152_83 : mjCode 152 83 = some (.aload_n 0, 1, 0, 0) := by decide +kernel
theorem p152_83 {l0 s0 s1 s2 s3 : Int} {q1 q2 q3 q4 : MV} {ds : Ds} {m : Mm} {Q : Ds → Mm → List MV → Prop} : WP 152 83 [(2, l0), q1, q2, q3, q4] [(0, s0), (0, s1), (0, s2), (2, s3)] ds m Q = (WP 152 84 [(2, l0), q1, q2, q3, q4] [(2, l0), (0, s0), (0, s1), (0, s2), (2, s3)] ds m Q) := P_nx k152_83 rfl
set_option maxRecDepth 20000 in
theorem k152_84 : mjCode 152 84 = some (.iload_n 1, 1, 0, 0) := by decide +kernel
theorem p152_84 {l1 s0 s1 s2 s3 s4 : Int} {q0 q2 q3 q4 : MV} {ds : Ds} {m : Mm} {Q : Ds → Mm → List MV → Prop} : WP 152 84 [q0, (0, l1), q2, q3, q4] [(2, s0), (0, s1), (0, s2), (0, s3), (2, s4)] ds m Q = (WP 152 85 [q0, (0, l1), q2, q3, q4] [(0, l1), (2, s0), (0, s1), (0, s2), (0, s3), (2, s4)] ds m Q) := P_nx k152_84 rfl
set_option maxRecDepth 20000 in
theorem k152_85 : mjCode 152 85 = some (.iload 4, 2, 0, 0) := by decide +kernel
theorem p152_85 {l4 s0 s1 s2 s3 s4 s5 : Int} {q0 q1 q2 q3 : MV} {ds : Ds} {m : Mm} {Q : Ds → Mm → List MV → Prop} : WP 152 85 [q0, q1, q2, q3, (0, l4)] [(0, s0), (2, s1), (0, s2), (0, s3), (0, s4), (2, s5)] ds m Q = (WP 152 87 [q0, q1, q2, q3, (0, l4)] [(0, l4), (0, s0), (2, s1), (0, s2), (0, s3), (0, s4), (2, s5)] ds m Q) := P_nx k152_85 rfl
set_option maxRecDepth 20000 in
theorem k152_87 : mjCode 152 87 = some (.iconst 3, 1, 0, 0) := by decide +kernel
theorem p152_87 {s0 s1 s2 s3 s4 s5 s6 : Int} {q0 q1 q2 q3 q4 : MV} {ds : Ds} {m : Mm} {Q : Ds → Mm → List MV → Prop} : WP 152 87 [q0, q1, q2, q3, q4] [(0, s0), (0, s1), (2, s2), (0, s3), (0, s4), (0, s5), (2, s6)] ds m Q = (WP 152 88 [q0, q1, q2, q3, q4] [(0, 3), (0, s0), (0, s1), (2, s2), (0, s3), (0, s4), (0, s5), (2, s6)] ds m Q) := P_nx k152_87 rfl
set_option maxRecDepth 20000 in
theorem k152_88 : mjCode 152 88 = some (.iadd, 1, 0, 0) := by decide +kernel
theorem p152_88 {s0 s1 s2 s3 s4 s5 s6 s7 : Int} {q0 q1 q2 q3 q4 : MV} {ds : Ds} {m : Mm} {Q : Ds → Mm → List MV → Prop} : WP 152 88 [q0, q1, q2, q3, q4] [(0, s0), (0, s1), (0, s2), (2, s3), (0, s4), (0, s5), (0, s6), (2, s7)] ds m Q = (WP 152 89 [q0, q1, q2, q3, q4] [(0, w32 (s1 + s0)), (0, s2), (2, s3), (0, s4), (0, s5), (0, s6), (2, s7)] ds m Q) := P_nx k152_88 rfl
set_option maxRecDepth 20000 in
theorem k152_89 : mjCode 152 89 = some (.invokevirtual 194, 3, 149, 3) := by decide +kernel
theorem p152_89 {s0 s1 s2 s3 s4 s5 s6 : Int} {q0 q1 q2 q3 q4 : MV} {ds : Ds} {m : Mm} {Q : Ds → Mm → List MV → Prop} : WP 152 89 [q0, q1, q2, q3, q4] [(0, s0), (0, s1), (2, s2), (0, s3), (0, s4), (0, s5), (2, s6)] ds m Q = ((dk ds s2 = 7 ∧ WP 148 0 [(2, s2), (0, s1), (0, s0)] [] ds m (fun d2 m2 r2 => WP 152 92 [q0, q1, q2, q3, q4] (r2 ++ [(0, s3), (0, s4), (0, s5), (2, s6)]) d2 m2 Q))) := P_cv k152_89 mx148 mo148 rfl rfl rfl rfl rfl rfl rfl rfl
set_option maxRecDepth 20000 in
theorem k152_92 : mjCode 152 92 = some (.invokevirtual 198, 3, 152, 5) := by decide +kernel
theorem p152_92 {s0 s1 s2 s3 s4 : Int} {q0 q1 q2 q3 q4 : MV} {ds : Ds} {m : Mm} {Q : Ds → Mm → List MV → Prop} : WP 152 92 [q0, q1, q2, q3, q4] [(0, s0), (0, s1), (0, s2), (0, s3), (2, s4)] ds m Q = ((dk ds s4 = 7 ∧ WP 151 0 [(2, s4), (0, s3), (0, s2), (0, s1), (0, s0), (3, 0)] [] ds m (fun d2 m2 r2 => WP 152 95 [q0, q1, q2, q3, q4] (r2 ++ []) d2 m2 Q))) := P_cv k152_92 mx151 mo151 rfl rfl rfl rfl rfl rfl rfl rfl
set_option maxRecDepth 20000 in
theorem k152_95 : mjCode 152 95 = some (.istore_n 3, 1, 0, 0) := by decide +kernel
theorem p152_95 {l2 s0 : Int} {q0 q1 q3 q4 : MV} {ds : Ds} {m : Mm} {Q : Ds → Mm → List MV → Prop} : WP 152 95 [q0, q1, (0, l2), q3, q4] [(0, s0)] ds m Q = (WP 152 96 [q0, q1, (0, l2), (0, s0), q4] [] ds m Q) := P_nx k152_95 rfl
set_option maxRecDepth 20000 in
theorem k152_96 : mjCode 152 96 = some (.iinc 4 4, 3, 0, 0) := by decide +kernel
theorem p152_96 {l4 : Int} {q0 q1 q2 q3 : MV} {ds : Ds} {m : Mm} {Q : Ds → Mm → List MV → Prop} : WP 152 96 [q0, q1, q2, q3, (0, l4)] [] ds m Q = (WP 152 99 [q0, q1, q2, q3, (0, w32 (l4 + 4))] [] ds m Q) := P_nx k152_96 rfl
set_option maxRecDepth 20000 in
theorem k152_99 : mjCode 152 99 = some (.goto (-57), 3, 42, 0) := by decide +kernel
theorem p152_99 {q0 q1 q2 q3 q4 : MV} {ds : Ds} {m : Mm} {Q : Ds → Mm → List MV → Prop} : WP 152 99 [q0, q1, q2, q3, q4] [] ds m Q = (WP 152 42 [q0, q1, q2, q3, q4] [] ds m Q) := P_nx k152_99 rfl
set_option maxRecDepth 20000 in
theorem k152_102 : mjCode 152 102 = some (.iload_n 3, 1, 0, 0) := by decide +kernel
theorem p152_102 {l3 : Int} {q0 q1 q2 q4 : MV} {ds : Ds} {m : Mm} {Q : Ds → Mm → List MV → Prop} : WP 152 102 [q0, q1, q2, (0, l3), q4] [] ds m Q = (WP 152 103 [q0, q1, q2, (0, l3), q4] [(0, l3)] ds m Q) := P_nx k152_102 rfl
set_option maxRecDepth 20000 in
theorem k152_103 : mjCode 152 103 = some (.ifCond .ne 16, 3, 119, 0) := by decide +kernel
theorem p152_103 {s0 : Int} {q0 q1 q2 q3 q4 : MV} {ds : Ds} {m : Mm} {Q : Ds → Mm → List MV → Prop} : WP 152 103 [q0, q1, q2, q3, q4] [(0, s0)] ds m Q = (if s0 = 0 then WP 152 106 [q0, q1, q2, q3, q4] [] ds m Q else WP 152 119 [q0, q1, q2, q3, q4] [] ds m Q) := P_if k152_103 rfl
set_option maxRecDepth 20000 in
theorem k152_106 : mjCode 152 106 = some (.aload_n 0, 1, 0, 0) := by decide +kernel
theorem p152_106 {l0 : Int} {q1 q2 q3 q4 : MV} {ds : Ds} {m : Mm} {Q : Ds → Mm → List MV → Prop} : WP 152 106 [(2, l0), q1, q2, q3, q4] [] ds m Q = (WP 152 107 [(2, l0), q1, q2, q3, q4] [(2, l0)] ds m Q) := P_nx k152_106 rfl
set_option maxRecDepth 20000 in
theorem k152_107 : mjCode 152 107 = some (.bipush 8, 2, 0, 0) := by decide +kernel
theorem p152_107 {s0 : Int} {q0 q1 q2 q3 q4 : MV} {ds : Ds} {m : Mm} {Q : Ds → Mm → List MV → Prop} : WP 152 107 [q0, q1, q2, q3, q4] [(2, s0)] ds m Q = (WP 152 109 [q0, q1, q2, q3, q4] [(0, 8), (2, s0)] ds m Q) := P_nx k152_107 rfl
set_option maxRecDepth 20000 in
theorem k152_109 : mjCode 152 109 = some (.invokevirtual 201, 3, 151, 2) := by decide +kernel
theorem p152_109 {s0 s1 : Int} {q0 q1 q2 q3 q4 : MV} {ds : Ds} {m : Mm} {Q : Ds → Mm → List MV → Prop} : WP 152 109 [q0, q1, q2, q3, q4] [(0, s0), (2, s1)] ds m Q = ((dk ds s1 = 7 ∧ WP 150 0 [(2, s1), (0, s0), (3, 0), (3, 0)] [] ds m (fun d2 m2 r2 => WP 152 112 [q0, q1, q2, q3, q4] (r2 ++ []) d2 m2 Q))) := P_cv k152_109 mx150 mo150 rfl rfl rfl rfl rfl rfl rfl rfl
set_option maxRecDepth 20000 in
theorem k152_112 : mjCode 152 112 = some (.aload_n 0, 1, 0, 0) := by decide +kernel
theorem p152_112 {l0 : Int} {q1 q2 q3 q4 : MV} {ds : Ds} {m : Mm} {Q : Ds → Mm → List MV → Prop} : WP 152 112 [(2, l0), q1, q2, q3, q4] [] ds m Q = (WP 152 113 [(2, l0), q1, q2, q3, q4] [(2, l0)] ds m Q) := P_nx k152_112 rfl
set_option maxRecDepth 20000 in
theorem k152_113 : mjCode 152 113 = some (.bipush (-6), 2, 0, 0) := by decide +kernel
theorem p152_113 {s0 : Int} {q0 q1 q2 q3 q4 : MV} {ds : Ds} {m : Mm} {Q : Ds → Mm → List MV → Prop} : WP 152 113 [q0, q1, q2, q3, q4] [(2, s0)] ds m Q = (WP 152 115 [q0, q1, q2, q3, q4] [(0, (-6)), (2, s0)] ds m Q) := P_nx k152_113 rfl
set_option maxRecDepth 20000 in
theorem k152_115 : mjCode 152 115 = some (.invokevirtual 155, 3, 122, 2) := by decide +kernel
theorem p152_115 {s0 s1 : Int} {q0 q1 q2 q3 q4 : MV} {ds : Ds} {m : Mm} {Q : Ds → Mm → List MV → Prop} : WP 152 115 [q0, q1, q2, q3, q4] [(0, s0), (2, s1)] ds m Q = ((dk ds s1 = 7 ∧ WP 121 0 [(2, s1), (0, s0)] [] ds m (fun d2 m2 r2 => WP 152 118 [q0, q1, q2, q3, q4] (r2 ++ []) d2 m2 Q))) := P_cv k152_115 mx121 mo121 rfl rfl rfl rfl rfl rfl rfl rfl
set_option maxRecDepth 20000 in
theorem k152_118 : mjCode 152 118 = some (.ireturn, 1, 0, 0) := by decide +kernel
theorem p152_118 {s0 : Int} {q0 q1 q2 q3 q4 : MV} {ds : Ds} {m : Mm} {Q : Ds → Mm → List MV → Prop} : WP 152 118 [q0, q1, q2, q3, q4] [(0, s0)] ds m Q = (Q ds m [(0, s0)]) := P_ri k152_118 rk152
set_option maxRecDepth 20000 in
theorem k152_119 : mjCode 152 119 = some (.aload_n 0, 1, 0, 0) := by decide +kernel
theorem p152_119 {l0 : Int} {q1 q2 q3 q4 : MV} {ds : Ds} {m : Mm} {Q : Ds → Mm → List MV → Prop} : WP 152 119 [(2, l0), q1, q2, q3, q4] [] ds m Q = (WP 152 120 [(2, l0), q1, q2, q3, q4] [(2, l0)] ds m Q) := P_nx k152_119 rfl
set_option maxRecDepth 20000 in
theorem k152_120 : mjCode 152 120 = some (.getfield 41, 3, 7, 12) := by decide +kernel
theorem p152_120 {s0 : Int} {q0 q1 q2 q3 q4 : MV} {ds : Ds} {m : Mm} {Q : Ds → Mm → List MV → Prop} : WP 152 120 [q0, q1, q2, q3, q4] [(2, s0)] ds m Q = ((dk ds s0 = 7 ∧ WP 152 123 [q0, q1, q2, q3, q4] [(2, m s0 12)] ds m Q)) := P_gd k152_120 rfl
set_option maxRecDepth 20000 in
theorem k152_123 : mjCode 152 123 = some (.iload_n 1, 1, 0, 0) := by decide +kernel
theorem p152_123 {l1 s0 : Int} {q0 q2 q3 q4 : MV} {ds : Ds} {m : Mm} {Q : Ds → Mm → List MV → Prop} : WP 152 123 [q0, (0, l1), q2, q3, q4] [(2, s0)] ds m Q = (WP 152 124 [q0, (0, l1), q2, q3, q4] [(0, l1), (2, s0)] ds m Q) := P_nx k152_123 rfl
set_option maxRecDepth 20000 in
theorem k152_124 : mjCode 152 124 = some (.iaload, 1, 0, 0) := by decide +kernel
theorem p152_124 {s0 s1 : Int} {q0 q1 q2 q3 q4 : MV} {ds : Ds} {m : Mm} {Q : Ds → Mm → List MV → Prop} : WP 152 124 [q0, q1, q2, q3, q4] [(0, s0), (2, s1)] ds m Q = ((dk ds s1 = 10 ∧ 0 ≤ s0 ∧ s0 < dl ds s1 ∧ WP 152 125 [q0, q1, q2, q3, q4] [(0, m s1 s0)] ds m Q)) := P_g3 k152_124 rfl
set_option maxRecDepth 20000 in
theorem k152_125 : mjCode 152 125 = some (.iconst 4, 1, 0, 0) := by decide +kernel
theorem p152_125 {s0 : Int} {q0 q1 q2 q3 q4 : MV} {ds : Ds} {m : Mm} {Q : Ds → Mm → List MV → Prop} : WP 152 125 [q0, q1, q2, q3, q4] [(0, s0)] ds m Q = (WP 152 126 [q0, q1, q2, q3, q4] [(0, 4), (0, s0)] ds m Q) := P_nx k152_125 rfl
set_option maxRecDepth 20000 in
theorem k152_126 : mjCode 152 126 = some (.idiv, 1, 0, 0) := by decide +kernel
theorem p152_126 {s0 s1 : Int} {q0 q1 q2 q3 q4 : MV} {ds : Ds} {m : Mm} {Q : Ds → Mm → List MV → Prop} : WP 152 126 [q0, q1, q2, q3, q4] [(0, s0), (0, s1)] ds m Q = ((¬ s0 = 0 ∧ WP 152 127 [q0, q1, q2, q3, q4] [(0, jdiv s1 s0)] ds m Q)) := P_dv k152_126 rfl
set_option maxRecDepth 20000 in
theorem k152_127 : mjCode 152 127 = some (.ireturn, 1, 0, 0) := by decide +kernel
theorem p152_127 {s0 : Int} {q0 q1 q2 q3 q4 : MV} {ds : Ds} {m : Mm} {Q : Ds → Mm → List MV → Prop} : WP 152 127 [q0, q1, q2, q3, q4] [(0, s0)] ds m Q = (Q ds m [(0, s0)]) := P_ri k152_127 rk152
set_option maxRecDepth 20000 in
theorem k153_0 : mjCode 153 0 = some (.iload_n 1, 1, 0, 0) := by decide +kernel
theorem p153_0 {l1 : Int} {q0 : MV} {ds : Ds} {m : Mm} {Q : Ds → Mm → List MV → Prop} : WP 153 0 [q0, (0, l1)] [] ds m Q = (WP 153 1 [q0, (0, l1)] [(0, l1)] ds m Q) := P_nx k153_0 rfl
set_option maxRecDepth 20000 in
theorem k153_1 : mjCode 153 1 = some (.invokestatic 177, 3, 140, 1) := by decide +kernel
theorem p153_1 {s0 : Int} {q0 q1 : MV} {ds : Ds} {m : Mm} {Q : Ds → Mm → List MV → Prop} : WP 153 1 [q0, q1] [(0, s0)] ds m Q = (WP 139 0 [(0, s0)] [] ds m (fun d2 m2 r2 => WP 153 4 [q0, q1] (r2 ++ []) d2 m2 Q)) := P_cs k153_1 mx139 rfl rfl rfl rfl rfl rfl rfl
set_option maxRecDepth 20000 in
theorem k153_4 : mjCode 153 4 = some (.ifCond .ne 9, 3, 13, 0) := by decide +kernel
theorem p153_4 {s0 : Int} {q0 q1 : MV} {ds : Ds} {m : Mm} {Q : Ds → Mm → List MV → Prop} : WP 153 4 [q0, q1] [(0, s0)] ds m Q = (if s0 = 0 then WP 153 7 [q0, q1] [] ds m Q else WP 153 13 [q0, q1] [] ds m Q) := P_if k153_4 rfl
set_option maxRecDepth 20000 in
theorem k153_7 : mjCode 153 7 = some (.aload_n 0, 1, 0, 0) := by decide +kernel
theorem p153_7 {l0 : Int} {q1 : MV} {ds : Ds} {m : Mm} {Q : Ds → Mm → List MV → Prop} : WP 153 7 [(2, l0), q1] [] ds m Q = (WP 153 8 [(2, l0), q1] [(2, l0)] ds m Q) := P_nx k153_7 rfl
set_option maxRecDepth 20000 in
theorem k153_8 : mjCode 153 8 = some (.iconst (-1), 1, 0, 0) := by decide +kernel
theorem p153_8 {s0 : Int} {q0 q1 : MV} {ds : Ds} {m : Mm} {Q : Ds → Mm → List MV → Prop} : WP 153 8 [q0, q1] [(2, s0)] ds m Q = (WP 153 9 [q0, q1] [(0, (-1)), (2, s0)] ds m Q) := P_nx k153_8 rfl
set_option maxRecDepth 20000 in
theorem k153_9 : mjCode 153 9 = some (.invokevirtual 155, 3, 122, 2) := by decide +kernel
theorem p153_9 {s0 s1 : Int} {q0 q1 : MV} {ds : Ds} {m : Mm} {Q : Ds → Mm → List MV → Prop} : WP 153 9 [q0, q1] [(0, s0), (2, s1)] ds m Q = ((dk ds s1 = 7 ∧ WP 121 0 [(2, s1), (0, s0)] [] ds m (fun d2 m2 r2 => WP 153 12 [q0, q1] (r2 ++ []) d2 m2 Q))) := P_cv k153_9 mx121 mo121 rfl rfl rfl rfl rfl rfl rfl rfl
set_option maxRecDepth 20000 in
theorem k153_12 : mjCode 153 12 = some (.ireturn, 1, 0, 0) := by decide +kernel
theorem p153_12 {s0 : Int} {q0 q1 : MV} {ds : Ds} {m : Mm} {Q : Ds → Mm → List MV → Prop} : WP 153 12 [q0, q1] [(0, s0)] ds m Q = (Q ds m [(0, s0)]) := P_ri k153_12 rk153
set_option maxRecDepth 20000 in
theorem k153_13 : mjCode 153 13 = some (.aload_n 0, 1, 0, 0) := by decide +kernel
theorem p153_13 {l0 : Int} {q1 : MV} {ds : Ds} {m : Mm} {Q : Ds → Mm → List MV → Prop} : WP 153 13 [(2, l0), q1] [] ds m Q = (WP 153 14 [(2, l0), q1] [(2, l0)] ds m Q) := P_nx k153_13 rfl
set_option maxRecDepth 20000 in
theorem k153_14 : mjCode 153 14 = some (.getfield 38, 3, 7, 11) := by decide +kernel
theorem p153_14 {s0 : Int} {q0 q1 : MV} {ds : Ds} {m : Mm} {Q : Ds → Mm → List MV → Prop} : WP 153 14 [q0, q1] [(2, s0)] ds m Q = ((dk ds s0 = 7 ∧ WP 153 17 [q0, q1] [(2, m s0 11)] ds m Q)) := P_gd k153_14 rfl
set_option maxRecDepth 20000 in
theorem k153_17 : mjCode 153 17 = some (.iload_n 1, 1, 0, 0) := by decide +kernel
theorem p153_17 {l1 s0 : Int} {q0 : MV} {ds : Ds} {m : Mm} {Q : Ds → Mm → List MV → Prop} : WP 153 17 [q0, (0, l1)] [(2, s0)] ds m Q = (WP 153 18 [q0, (0, l1)] [(0, l1), (2, s0)] ds m Q) := P_nx k153_17 rfl
set_option maxRecDepth 20000 in
theorem k153_18 : mjCode 153 18 = some (.iconst 0, 1, 0, 0) := by decide +kernel
theorem p153_18 {s0 s1 : Int} {q0 q1 : MV} {ds : Ds} {m : Mm} {Q : Ds → Mm → List MV → Prop} : WP 153 18 [q0, q1] [(0, s0), (2, s1)] ds m Q = (WP 153 19 [q0, q1] [(0, 0), (0, s0), (2, s1)] ds m Q) := P_nx k153_18 rfl
set_option maxRecDepth 20000 in
theorem k153_19 : mjCode 153 19 = some (.iastore, 1, 0, 0) := by decide +kernel
theorem p153_19 {s0 s1 s2 : Int} {q0 q1 : MV} {ds : Ds} {m : Mm} {Q : Ds → Mm → List MV → Prop} : WP 153 19 [q0, q1] [(0, s0), (0, s1), (2, s2)] ds m Q = ((dk ds s2 = 10 ∧ 0 ≤ s1 ∧ s1 < dl ds s2 ∧ WP 153 20 [q0, q1] [] ds (up m s2 s1 s0) Q)) := P_s3 k153_19 rfl
set_option maxRecDepth 20000 in
theorem k153_20 : mjCode 153 20 = some (.aload_n 0, 1, 0, 0) := by decide +kernel
theorem p153_20 {l0 : Int} {q1 : MV} {ds : Ds} {m : Mm} {Q : Ds → Mm → List MV → Prop} : WP 153 20 [(2, l0), q1] [] ds m Q = (WP 153 21 [(2, l0), q1] [(2, l0)] ds m Q) := P_nx k153_20 rfl
set_option maxRecDepth 20000 in
theorem k153_21 : mjCode 153 21 = some (.iload_n 1, 1, 0, 0) := by decide +kernel
theorem p153_21 {l1 s0 : Int} {q0 : MV} {ds : Ds} {m : Mm} {Q : Ds → Mm → List MV → Prop} : WP 153 21 [q0, (0, l1)] [(2, s0)] ds m Q = (WP 153 22 [q0, (0, l1)] [(0, l1), (2, s0)] ds m Q) := P_nx k153_21 rfl
set_option maxRecDepth 20000 in
theorem k153_22 : mjCode 153 22 = some (.invokevirtual 190, 3, 150, 2) := by decide +kernel
theorem p153_22 {s0 s1 : Int} {q0 q1 : MV} {ds : Ds} {m : Mm} {Q : Ds → Mm → List MV → Prop} : WP 153 22 [q0, q1] [(0, s0), (2, s1)] ds m Q = ((dk ds s1 = 7 ∧ WP 149 0 [(2, s1), (0, s0), (3, 0), (3, 0)] [] ds m (fun d2 m2 r2 => WP 153 25 [q0, q1] (r2 ++ []) d2 m2 Q))) := P_cv k153_22 mx149 mo149 rfl rfl rfl rfl rfl rfl rfl rfl
set_option maxRecDepth 20000 in
theorem k153_25 : mjCode 153 25 = some (.aload_n 0, 1, 0, 0) := by decide +kernel
theorem p153_25 {l0 : Int} {q1 : MV} {ds : Ds} {m : Mm} {Q : Ds → Mm → List MV → Prop} : WP 153 25 [(2, l0), q1] [] ds m Q = (WP 153 26 [(2, l0), q1] [(2, l0)] ds m Q) := P_nx k153_25 rfl
set_option maxRecDepth 20000 in
theorem k153_26 : mjCode 153 26 = some (.iconst 0, 1, 0, 0) := by decide +kernel
theorem p153_26 {s0 : Int} {q0 q1 : MV} {ds : Ds} {m : Mm} {Q : Ds → Mm → List MV → Prop} : WP 153 26 [q0, q1] [(2, s0)] ds m Q = (WP 153 27 [q0, q1] [(0, 0), (2, s0)] ds m Q) := P_nx k153_26 rfl
set_option maxRecDepth 20000 in
theorem k153_27 : mjCode 153 27 = some (.invokevirtual 204, 3, 137, 2) := by decide +kernel
theorem p153_27 {s0 s1 : Int} {q0 q1 : MV} {ds : Ds} {m : Mm} {Q : Ds → Mm → List MV → Prop} : WP 153 27 [q0, q1] [(0, s0), (2, s1)] ds m Q = ((dk ds s1 = 7 ∧ WP 136 0 [(2, s1), (0, s0), (3, 0), (3, 0)] [] ds m (fun d2 m2 r2 => WP 153 30 [q0, q1] (r2 ++ []) d2 m2 Q))) := P_cv k153_27 mx136 mo136 rfl rfl rfl rfl rfl rfl rfl rfl
set_option maxRecDepth 20000 in
theorem k153_30 : mjCode 153 30 = some (.ireturn, 1, 0, 0) := by decide +kernel
theorem p153_30 {s0 : Int} {q0 q1 : MV} {ds : Ds} {m : Mm} {Q : Ds → Mm → List MV → Prop} : WP 153 30 [q0, q1] [(0, s0)] ds m Q = (Q ds m [(0, s0)]) := P_ri k153_30 rk153
set_option maxRecDepth 20000 in
theorem k154_0 : mjCode 154 0 = some (.iload_n 1, 1, 0, 0) := by decide +kernel
theorem p154_0 {l1 : Int} {q0 : MV} {ds : Ds} {m : Mm} {Q : Ds → Mm → List MV → Prop} : WP 154 0 [q0, (0, l1)] [] ds m Q = (WP 154 1 [q0, (0, l1)] [(0, l1)] ds m Q) := P_nx k154_0 rfl
set_option maxRecDepth 20000 in
theorem k154_1 : mjCode 154 1 = some (.invokestatic 177, 3, 140, 1) := by decide +kernel
theorem p154_1 {s0 : Int} {q0 q1 : MV} {ds : Ds} {m : Mm} {Q : Ds → Mm → List MV → Prop} : WP 154 1 [q0, q1] [(0, s0)] ds m Q = (WP 139 0 [(0, s0)] [] ds m (fun d2 m2 r2 => WP 154 4 [q0, q1] (r2 ++ []) d2 m2 Q)) := P_cs k154_1 mx139 rfl rfl rfl rfl rfl rfl rfl
set_option maxRecDepth 20000 in
theorem k154_4 : mjCode 154 4 = some (.ifCond .ne 9, 3, 13, 0) := by decide +kernel
theorem p154_4 {s0 : Int} {q0 q1 : MV} {ds : Ds} {m : Mm} {Q : Ds → Mm → List MV → Prop} : WP 154 4 [q0, q1] [(0, s0)] ds m Q = (if s0 = 0 then WP 154 7 [q0, q1] [] ds m Q else WP 154 13 [q0, q1] [] ds m Q) := P_if k154_4 rfl
set_option maxRecDepth 20000 in
theorem k154_7 : mjCode 154 7 = some (.aload_n 0, 1, 0, 0) := by decide +kernel
theorem p154_7 {l0 : Int} {q1 : MV} {ds : Ds} {m : Mm} {Q : Ds → Mm → List MV → Prop} : WP 154 7 [(2, l0), q1] [] ds m Q = (WP 154 8 [(2, l0), q1] [(2, l0)] ds m Q) := P_nx k154_7 rfl
set_option maxRecDepth 20000 in
theorem k154_8 : mjCode 154 8 = some (.iconst (-1), 1, 0, 0) := by decide +kernel
theorem p154_8 {s0 : Int} {q0 q1 : MV} {ds : Ds} {m : Mm} {Q : Ds → Mm → List MV → Prop} : WP 154 8 [q0, q1] [(2, s0)] ds m Q = (WP 154 9 [q0, q1] [(0, (-1)), (2, s0)] ds m Q) := P_nx k154_8 rfl
set_option maxRecDepth 20000 in
theorem k154_9 : mjCode 154 9 = some (.invokevirtual 155, 3, 122, 2) := by decide +kernel
theorem p154_9 {s0 s1 : Int} {q0 q1 : MV} {ds : Ds} {m : Mm} {Q : Ds → Mm → List MV → Prop} : WP 154 9 [q0, q1] [(0, s0), (2, s1)] ds m Q = ((dk ds s1 = 7 ∧ WP 121 0 [(2, s1), (0, s0)] [] ds m (fun d2 m2 r2 => WP 154 12 [q0, q1] (r2 ++ []) d2 m2 Q))) := P_cv k154_9 mx121 mo121 rfl rfl rfl rfl rfl rfl rfl rfl
set_option maxRecDepth 20000 in
theorem k154_12 : mjCode 154 12 = some (.ireturn, 1, 0, 0) := by decide +kernel
theorem p154_12 {s0 : Int} {q0 q1 : MV} {ds : Ds} {m : Mm} {Q : Ds → Mm → List MV → Prop} : WP 154 12 [q0, q1] [(0, s0)] ds m Q = (Q ds m [(0, s0)]) := P_ri k154_12 rk154
set_option maxRecDepth 20000 in
theorem k154_13 : mjCode 154 13 = some (.aload_n 0, 1, 0, 0) := by decide +kernel
theorem p154_13 {l0 : Int} {q1 : MV} {ds : Ds} {m : Mm} {Q : Ds → Mm → List MV → Prop} : WP 154 13 [(2, l0), q1] [] ds m Q = (WP 154 14 [(2, l0), q1] [(2, l0)] ds m Q) := P_nx k154_13 rfl
set_option maxRecDepth 20000 in
theorem k154_14 : mjCode 154 14 = some (.getfield 38, 3, 7, 11) := by decide +kernel
theorem p154_14 {s0 : Int} {q0 q1 : MV} {ds : Ds} {m : Mm} {Q : Ds → Mm → List MV → Prop} : WP 154 14 [q0, q1] [(2, s0)] ds m Q = ((dk ds s0 = 7 ∧ WP 154 17 [q0, q1] [(2, m s0 11)] ds m Q)) := P_gd k154_14 rfl
set_option maxRecDepth 20000 in
theorem k154_17 : mjCode 154 17 = some (.iload_n 1, 1, 0, 0) := by decide +kernel
theorem p154_17 {l1 s0 : Int} {q0 : MV} {ds : Ds} {m : Mm} {Q : Ds → Mm → List MV → Prop} : WP 154 17 [q0, (0, l1)] [(2, s0)] ds m Q = (WP 154 18 [q0, (0, l1)] [(0, l1), (2, s0)] ds m Q) := P_nx k154_17 rfl
set_option maxRecDepth 20000 in
theorem k154_18 : mjCode 154 18 = some (.iaload, 1, 0, 0) := by decide +kernel
theorem p154_18 {s0 s1 : Int} {q0 q1 : MV} {ds : Ds} {m : Mm} {Q : Ds → Mm → List MV → Prop} : WP 154 18 [q0, q1] [(0, s0), (2, s1)] ds m Q = ((dk ds s1 = 10 ∧ 0 ≤ s0 ∧ s0 < dl ds s1 ∧ WP 154 19 [q0, q1] [(0, m s1 s0)] ds m Q)) := P_g3 k154_18 rfl
set_option maxRecDepth 20000 in
theorem k154_19 : mjCode 154 19 = some (.ifCond .eq 23, 3, 42, 0) := by decide +kernel
theorem p154_19 {s0 : Int} {q0 q1 : MV} {ds : Ds} {m : Mm} {Q : Ds → Mm → List MV → Prop} : WP 154 19 [q0, q1] [(0, s0)] ds m Q = (if s0 = 0 then WP 154 42 [q0, q1] [] ds m Q else WP 154 22 [q0, q1] [] ds m Q) := P_if k154_19 rfl
set_option maxRecDepth 20000 in
theorem k154_22 : mjCode 154 22 = some (.aload_n 0, 1, 0, 0) := by decide +kernel
theorem p154_22 {l0 : Int} {q1 : MV} {ds : Ds} {m : Mm} {Q : Ds → Mm → List MV → Prop} : WP 154 22 [(2, l0), q1] [] ds m Q = (WP 154 23 [(2, l0), q1] [(2, l0)] ds m Q) := P_nx k154_22 rfl
set_option maxRecDepth 20000 in
theorem k154_23 : mjCode 154 23 = some (.aload_n 0, 1, 0, 0) := by decide +kernel
theorem p154_23 {l0 s0 : Int} {q1 : MV} {ds : Ds} {m : Mm} {Q : Ds → Mm → List MV → Prop} : WP 154 23 [(2, l0), q1] [(2, s0)] ds m Q = (WP 154 24 [(2, l0), q1] [(2, l0), (2, s0)] ds m Q) := P_nx k154_23 rfl
set_option maxRecDepth 20000 in
theorem k154_24 : mjCode 154 24 = some (.iload_n 1, 1, 0, 0) := by decide +kernel
theorem p154_24 {l1 s0 s1 : Int} {q0 : MV} {ds : Ds} {m : Mm} {Q : Ds → Mm → List MV → Prop} : WP 154 24 [q0, (0, l1)] [(2, s0), (2, s1)] ds m Q = (WP 154 25 [q0, (0, l1)] [(0, l1), (2, s0), (2, s1)] ds m Q) := P_nx k154_24 rfl
set_option maxRecDepth 20000 in
theorem k154_25 : mjCode 154 25 = some (.invokevirtual 180, 3, 141, 2) := by decide +kernel
theorem p154_25 {s0 s1 s2 : Int} {q0 q1 : MV} {ds : Ds} {m : Mm} {Q : Ds → Mm → List MV → Prop} : WP 154 25 [q0, q1] [(0, s0), (2, s1), (2, s2)] ds m Q = ((dk ds s1 = 7 ∧ WP 140 0 [(2, s1), (0, s0)] [] ds m (fun d2 m2 r2 => WP 154 28 [q0, q1] (r2 ++ [(2, s2)]) d2 m2 Q))) := P_cv k154_25 mx140 mo140 rfl rfl rfl rfl rfl rfl rfl rfl
set_option maxRecDepth 20000 in
theorem k154_28 : mjCode 154 28 = some (.ifCond .eq 8, 3, 36, 0) := by decide +kernel
theorem p154_28 {s0 s1 : Int} {q0 q1 : MV} {ds : Ds} {m : Mm} {Q : Ds → Mm → List MV → Prop} : WP 154 28 [q0, q1] [(0, s0), (2, s1)] ds m Q = (if s0 = 0 then WP 154 36 [q0, q1] [(2, s1)] ds m Q else WP 154 31 [q0, q1] [(2, s1)] ds m Q) := P_if k154_28 rfl
set_option maxRecDepth 20000 in
theorem k154_31 : mjCode 154 31 = some (.bipush (-2), 2, 0, 0) := by decide +kernel
theorem p154_31 {s0 : Int} {q0 q1 : MV} {ds : Ds} {m : Mm} {Q : Ds → Mm → List MV → Prop} : WP 154 31 [q0, q1] [(2, s0)] ds m Q = (WP 154 33 [q0, q1] [(0, (-2)), (2, s0)] ds m Q) := P_nx k154_31 rfl
set_option maxRecDepth 20000 in
theorem k154_33 : mjCode 154 33 = some (.goto 5, 3, 38, 0) := by decide +kernel
theorem p154_33 {s0 s1 : Int} {q0 q1 : MV} {ds : Ds} {m : Mm} {Q : Ds → Mm → List MV → Prop} : WP 154 33 [q0, q1] [(0, s0), (2, s1)] ds m Q = (WP 154 38 [q0, q1] [(0, s0), (2, s1)] ds m Q) := P_nx k154_33 rfl
set_option maxRecDepth 20000 in
theorem k154_36 : mjCode 154 36 = some (.bipush (-3), 2, 0, 0) := by decide +kernel
theorem p154_36 {s0 : Int} {q0 q1 : MV} {ds : Ds} {m : Mm} {Q : Ds → Mm → List MV → Prop} : WP 154 36 [q0, q1] [(2, s0)] ds m Q = (WP 154 38 [q0, q1] [(0, (-3)), (2, s0)] ds m Q) := P_nx k154_36 rfl
set_option maxRecDepth 20000 in
theorem k154_38 : mjCode 154 38 = some (.invokevirtual 155, 3, 122, 2) := by decide +kernel
theorem p154_38 {s0 s1 : Int} {q0 q1 : MV} {ds : Ds} {m : Mm} {Q : Ds → Mm → List MV → Prop} : WP 154 38 [q0, q1] [(0, s0), (2, s1)] ds m Q = ((dk ds s1 = 7 ∧ WP 121 0 [(2, s1), (0, s0)] [] ds m (fun d2 m2 r2 => WP 154 41 [q0, q1] (r2 ++ []) d2 m2 Q))) := P_cv k154_38 mx121 mo121 rfl rfl rfl rfl rfl rfl rfl rfl
set_option maxRecDepth 20000 in
theorem k154_41 : mjCode 154 41 = some (.ireturn, 1, 0, 0) := by decide +kernel
theorem p154_41 {s0 : Int} {q0 q1 : MV} {ds : Ds} {m : Mm} {Q : Ds → Mm → List MV → Prop} : WP 154 41 [q0, q1] [(0, s0)] ds m Q = (Q ds m [(0, s0)]) := P_ri k154_41 rk154
set_option maxRecDepth 20000 in
theorem k154_42 : mjCode 154 42 = some (.aload_n 0, 1, 0, 0) := by decide +kernel
theorem p154_42 {l0 : Int} {q1 : MV} {ds : Ds} {m : Mm} {Q : Ds → Mm → List MV → Prop} : WP 154 42 [(2, l0), q1] [] ds m Q = (WP 154 43 [(2, l0), q1] [(2, l0)] ds m Q) := P_nx k154_42 rfl
set_option maxRecDepth 20000 in
theorem k154_43 : mjCode 154 43 = some (.iload_n 1, 1, 0, 0) := by decide +kernel
theorem p154_43 {l1 s0 : Int} {q0 : MV} {ds : Ds} {m : Mm} {Q : Ds → Mm → List MV → Prop} : WP 154 43 [q0, (0, l1)] [(2, s0)] ds m Q = (WP 154 44 [q0, (0, l1)] [(0, l1), (2, s0)] ds m Q) := P_nx k154_43 rfl
set_option maxRecDepth 20000 in
theorem k154_44 : mjCode 154 44 = some (.invokevirtual 201, 3, 151, 2) := by decide +kernel
theorem p154_44 {s0 s1 : Int} {q0 q1 : MV} {ds : Ds} {m : Mm} {Q : Ds → Mm → List MV → Prop} : WP 154 44 [q0, q1] [(0, s0), (2, s1)] ds m Q = ((dk ds s1 = 7 ∧ WP 150 0 [(2, s1), (0, s0), (3, 0), (3, 0)] [] ds m (fun d2 m2 r2 => WP 154 47 [q0, q1] (r2 ++ []) d2 m2 Q))) := P_cv k154_44 mx150 mo150 rfl rfl rfl rfl rfl rfl rfl rfl
set_option maxRecDepth 20000 in
theorem k154_47 : mjCode 154 47 = some (.aload_n 0, 1, 0, 0) := by decide +kernel
theorem p154_47 {l0 : Int} {q1 : MV} {ds : Ds} {m : Mm} {Q : Ds → Mm → List MV → Prop} : WP 154 47 [(2, l0), q1] [] ds m Q = (WP 154 48 [(2, l0), q1] [(2, l0)] ds m Q) := P_nx k154_47 rfl
set_option maxRecDepth 20000 in
theorem k154_48 : mjCode 154 48 = some (.iconst 0, 1, 0, 0) := by decide +kernel
theorem p154_48 {s0 : Int} {q0 q1 : MV} {ds : Ds} {m : Mm} {Q : Ds → Mm → List MV → Prop} : WP 154 48 [q0, q1] [(2, s0)] ds m Q = (WP 154 49 [q0, q1] [(0, 0), (2, s0)] ds m Q) := P_nx k154_48 rfl
set_option maxRecDepth 20000 in
theorem k154_49 : mjCode 154 49 = some (.invokevirtual 204, 3, 137, 2) := by decide +kernel
theorem p154_49 {s0 s1 : Int} {q0 q1 : MV} {ds : Ds} {m : Mm} {Q : Ds → Mm → List MV → Prop} : WP 154 49 [q0, q1] [(0, s0), (2, s1)] ds m Q = ((dk ds s1 = 7 ∧ WP 136 0 [(2, s1), (0, s0), (3, 0), (3, 0)] [] ds m (fun d2 m2 r2 => WP 154 52 [q0, q1] (r2 ++ []) d2 m2 Q))) := P_cv k154_49 mx136 mo136 rfl rfl rfl rfl rfl rfl rfl rfl
set_option maxRecDepth 20000 in
theorem k154_52 : mjCode 154 52 = some (.ireturn, 1, 0, 0) := by decide +kernel
theorem p154_52 {s0 : Int} {q0 q1 : MV} {ds : Ds} {m : Mm} {Q : Ds → Mm → List MV → Prop} : WP 154 52 [q0, q1] [(0, s0)] ds m Q = (Q ds m [(0, s0)]) := P_ri k154_52 rk154
set_option maxRecDepth 20000 in
theorem k155_0 : mjCode 155 0 = some (.iload_n 2, 1, 0, 0) := by decide +kernel
theorem p155_0 {l2 : Int} {q0 q1 q3 q4 q5 : MV} {ds : Ds} {m : Mm} {Q : Ds → Mm → List MV → Prop} : WP 155 0 [q0, q1, (0, l2), q3, q4, q5] [] ds m Q = (WP 155 1 [q0, q1, (0, l2), q3, q4, q5] [(0, l2)] ds m Q) := P_nx k155_0 rfl
set_option maxRecDepth 20000 in
theorem k155_1 : mjCode 155 1 = some (.iconst (-1), 1, 0, 0) := by decide +kernel
theorem p155_1 {s0 : Int} {q0 q1 q2 q3 q4 q5 : MV} {ds : Ds} {m : Mm} {Q : Ds → Mm → List MV → Prop} : WP 155 1 [q0, q1, q2, q3, q4, q5] [(0, s0)] ds m Q = (WP 155 2 [q0, q1, q2, q3, q4, q5] [(0, (-1)), (0, s0)] ds m Q) := P_nx k155_1 rfl
set_option maxRecDepth 20000 in
theorem k155_2 : mjCode 155 2 = some (.if_icmp .ne 4, 3, 6, 0) := by decide +kernel
theorem p155_2 {s0 s1 : Int} {q0 q1 q2 q3 q4 q5 : MV} {ds : Ds} {m : Mm} {Q : Ds → Mm → List MV → Prop} : WP 155 2 [q0, q1, q2, q3, q4, q5] [(0, s0), (0, s1)] ds m Q = (if s1 = s0 then WP 155 5 [q0, q1, q2, q3, q4, q5] [] ds m Q else WP 155 6 [q0, q1, q2, q3, q4, q5] [] ds m Q) := P_if k155_2 rfl
set_option maxRecDepth 20000 in
theorem k155_5 : mjCode 155 5 = some (.return_, 1, 0, 0) := by decide +kernel
theorem p155_5 {q0 q1 q2 q3 q4 q5 : MV} {ds : Ds} {m : Mm} {Q : Ds → Mm → List MV → Prop} : WP 155 5 [q0, q1, q2, q3, q4, q5] [] ds m Q = (Q ds m []) := P_rv k155_5 rk155
set_option maxRecDepth 20000 in
theorem k155_6 : mjCode 155 6 = some (.aload_n 0, 1, 0, 0) := by decide +kernel
theorem p155_6 {l0 : Int} {q1 q2 q3 q4 q5 : MV} {ds : Ds} {m : Mm} {Q : Ds → Mm → List MV → Prop} : WP 155 6 [(2, l0), q1, q2, q3, q4, q5] [] ds m Q = (WP 155 7 [(2, l0), q1, q2, q3, q4, q5] [(2, l0)] ds m Q) := P_nx k155_6 rfl
set_option maxRecDepth 20000 in
theorem k155_7 : mjCode 155 7 = some (.getfield 57, 3, 7, 17) := by decide +kernel
theorem p155_7 {s0 : Int} {q0 q1 q2 q3 q4 q5 : MV} {ds : Ds} {m : Mm} {Q : Ds → Mm → List MV → Prop} : WP 155 7 [q0, q1, q2, q3, q4, q5] [(2, s0)] ds m Q = ((dk ds s0 = 7 ∧ WP 155 10 [q0, q1, q2, q3, q4, q5] [(2, m s0 17)] ds m Q)) := P_gd k155_7 rfl
set_option maxRecDepth 20000 in
theorem k155_10 : mjCode 155 10 = some (.aload_n 0, 1, 0, 0) := by decide +kernel
theorem p155_10 {l0 s0 : Int} {q1 q2 q3 q4 q5 : MV} {ds : Ds} {m : Mm} {Q : Ds → Mm → List MV → Prop} : WP 155 10 [(2, l0), q1, q2, q3, q4, q5] [(2, s0)] ds m Q = (WP 155 11 [(2, l0), q1, q2, q3, q4, q5] [(2, l0), (2, s0)] ds m Q) := P_nx k155_10 rfl
set_option maxRecDepth 20000 in
theorem k155_11 : mjCode 155 11 = some (.getfield 207, 3, 7, 24) := by decide +kernel
theorem p155_11 {s0 s1 : Int} {q0 q1 q2 q3 q4 q5 : MV} {ds : Ds} {m : Mm} {Q : Ds → Mm → List MV → Prop} : WP 155 11 [q0, q1, q2, q3, q4, q5] [(2, s0), (2, s1)] ds m Q = ((dk ds s0 = 7 ∧ WP 155 14 [q0, q1, q2, q3, q4, q5] [(0, m s0 24), (2, s1)] ds m Q)) := P_gd k155_11 rfl
set_option maxRecDepth 20000 in
theorem k155_14 : mjCode 155 14 = some (.iload_n 2, 1, 0, 0) := by decide +kernel
theorem p155_14 {l2 s0 s1 : Int} {q0 q1 q3 q4 q5 : MV} {ds : Ds} {m : Mm} {Q : Ds → Mm → List MV → Prop} : WP 155 14 [q0, q1, (0, l2), q3, q4, q5] [(0, s0), (2, s1)] ds m Q = (WP 155 15 [q0, q1, (0, l2), q3, q4, q5] [(0, l2), (0, s0), (2, s1)] ds m Q) := P_nx k155_14 rfl
set_option maxRecDepth 20000 in
theorem k155_15 : mjCode 155 15 = some (.iastore, 1, 0, 0) := by decide +kernel
theorem p155_15 {s0 s1 s2 : Int} {q0 q1 q2 q3 q4 q5 : MV} {ds : Ds} {m : Mm} {Q : Ds → Mm → List MV → Prop} : WP 155 15 [q0, q1, q2, q3, q4, q5] [(0, s0), (0, s1), (2, s2)] ds m Q = ((dk ds s2 = 10 ∧ 0 ≤ s1 ∧ s1 < dl ds s2 ∧ WP 155 16 [q0, q1, q2, q3, q4, q5] [] ds (up m s2 s1 s0) Q)) := P_s3 k155_15 rfl
set_option maxRecDepth 20000 in
theorem k155_16 : mjCode 155 16 = some (.aload_n 0, 1, 0, 0) := by decide +kernel
theorem p155_16 {l0 : Int} {q1 q2 q3 q4 q5 : MV} {ds : Ds} {m : Mm} {Q : Ds → Mm → List MV → Prop} : WP 155 16 [(2, l0), q1, q2, q3, q4, q5] [] ds m Q = (WP 155 17 [(2, l0), q1, q2, q3, q4, q5] [(2, l0)] ds m Q) := P_nx k155_16 rfl
set_option maxRecDepth 20000 in
theorem k155_17 : mjCode 155 17 = some (.getfield 60, 3, 7, 18) := by decide +kernel
theorem p155_17 {s0 : Int} {q0 q1 q2 q3 q4 q5 : MV} {ds : Ds} {m : Mm} {Q : Ds → Mm → List MV → Prop} : WP 155 17 [q0, q1, q2, q3, q4, q5] [(2, s0)] ds m Q = ((dk ds s0 = 7 ∧ WP 155 20 [q0, q1, q2, q3, q4, q5] [(2, m s0 18)] ds m Q)) := P_gd k155_17 rfl
set_option maxRecDepth 20000 in
theorem k155_20 : mjCode 155 20 = some (.aload_n 0, 1, 0, 0) := by decide +kernel
theorem p155_20 {l0 s0 : Int} {q1 q2 q3 q4 q5 : MV} {ds : Ds} {m : Mm} {Q : Ds → Mm → List MV → Prop} : WP 155 20 [(2, l0), q1, q2, q3, q4, q5] [(2, s0)] ds m Q = (WP 155 21 [(2, l0), q1, q2, q3, q4, q5] [(2, l0), (2, s0)] ds m Q) := P_nx k155_20 rfl
set_option maxRecDepth 20000 in
theorem k155_21 : mjCode 155 21 = some (.getfield 207, 3, 7, 24) := by decide +kernel
theorem p155_21 {s0 s1 : Int} {q0 q1 q2 q3 q4 q5 : MV} {ds : Ds} {m : Mm} {Q : Ds → Mm → List MV → Prop} : WP 155 21 [q0, q1, q2, q3, q4, q5] [(2, s0), (2, s1)] ds m Q = ((dk ds s0 = 7 ∧ WP 155 24 [q0, q1, q2, q3, q4, q5] [(0, m s0 24), (2, s1)] ds m Q)) := P_gd k155_21 rfl
set_option maxRecDepth 20000 in
theorem k155_24 : mjCode 155 24 = some (.iload_n 3, 1, 0, 0) := by decide +kernel
theorem p155_24 {l3 s0 s1 : Int} {q0 q1 q2 q4 q5 : MV} {ds : Ds} {m : Mm} {Q : Ds → Mm → List MV → Prop} : WP 155 24 [q0, q1, q2, (0, l3), q4, q5] [(0, s0), (2, s1)] ds m Q = (WP 155 25 [q0, q1, q2, (0, l3), q4, q5] [(0, l3), (0, s0), (2, s1)] ds m Q) := P_nx k155_24 rfl
set_option maxRecDepth 20000 in
theorem k155_25 : mjCode 155 25 = some (.iastore, 1, 0, 0) := by decide +kernel
theorem p155_25 {s0 s1 s2 : Int} {q0 q1 q2 q3 q4 q5 : MV} {ds : Ds} {m : Mm} {Q : Ds → Mm → List MV → Prop} : WP 155 25 [q0, q1, q2, q3, q4, q5] [(0, s0), (0, s1), (2, s2)] ds m Q = ((dk ds s2 = 10 ∧ 0 ≤ s1 ∧ s1 < dl ds s2 ∧ WP 155 26 [q0, q1, q2, q3, q4, q5] [] ds (up m s2 s1 s0) Q)) := P_s3 k155_25 rfl
set_option maxRecDepth 20000 in
theorem k155_26 : mjCode 155 26 = some (.aload_n 0, 1, 0, 0) := by decide +kernel
theorem p155_26 {l0 : Int} {q1 q2 q3 q4 q5 : MV} {ds : Ds} {m : Mm} {Q : Ds → Mm → List MV → Prop} : WP 155 26 [(2, l0), q1, q2, q3, q4, q5] [] ds m Q = (WP 155 27 [(2, l0), q1, q2, q3, q4, q5] [(2, l0)] ds m Q) := P_nx k155_26 rfl
set_option maxRecDepth 20000 in
theorem k155_27 : mjCode 155 27 = some (.getfield 63, 3, 7, 19) := by decide +kernel
theorem p155_27 {s0 : Int} {q0 q1 q2 q3 q4 q5 : MV} {ds : Ds} {m : Mm} {Q : Ds → Mm → List MV → Prop} : WP 155 27 [q0, q1, q2, q3, q4, q5] [(2, s0)] ds m Q = ((dk ds s0 = 7 ∧ WP 155 30 [q0, q1, q2, q3, q4, q5] [(2, m s0 19)] ds m Q)) := P_gd k155_27 rfl
set_option maxRecDepth 20000 in
theorem k155_30 : mjCode 155 30 = some (.aload_n 0, 1, 0, 0) := by decide +kernel
theorem p155_30 {l0 s0 : Int} {q1 q2 q3 q4 q5 : MV} {ds : Ds} {m : Mm} {Q : Ds → Mm → List MV → Prop} : WP 155 30 [(2, l0), q1, q2, q3, q4, q5] [(2, s0)] ds m Q = (WP 155 31 [(2, l0), q1, q2, q3, q4, q5] [(2, l0), (2, s0)] ds m Q) := P_nx k155_30 rfl
set_option maxRecDepth 20000 in
theorem k155_31 : mjCode 155 31 = some (.getfield 207, 3, 7, 24) := by decide +kernel
theorem p155_31 {s0 s1 : Int} {q0 q1 q2 q3 q4 q5 : MV} {ds : Ds} {m : Mm} {Q : Ds → Mm → List MV → Prop} : WP 155 31 [q0, q1, q2, q3, q4, q5] [(2, s0), (2, s1)] ds m Q = ((dk ds s0 = 7 ∧ WP 155 34 [q0, q1, q2, q3, q4, q5] [(0, m s0 24), (2, s1)] ds m Q)) := P_gd k155_31 rfl
set_option maxRecDepth 20000 in
theorem k155_34 : mjCode 155 34 = some (.iload 4, 2, 0, 0) := by decide +kernel
theorem p155_34 {l4 s0 s1 : Int} {q0 q1 q2 q3 q5 : MV} {ds : Ds} {m : Mm} {Q : Ds → Mm → List MV → Prop} : WP 155 34 [q0, q1, q2, q3, (0, l4), q5] [(0, s0), (2, s1)] ds m Q = (WP 155 36 [q0, q1, q2, q3, (0, l4), q5] [(0, l4), (0, s0), (2, s1)] ds m Q) := P_nx k155_34 rfl
set_option maxRecDepth 20000 in
theorem k155_36 : mjCode 155 36 = some (.iastore, 1, 0, 0) := by decide +kernel
theorem p155_36 {s0 s1 s2 : Int} {q0 q1 q2 q3 q4 q5 : MV} {ds : Ds} {m : Mm} {Q : Ds → Mm → List MV → Prop} : WP 155 36 [q0, q1, q2, q3, q4, q5] [(0, s0), (0, s1), (2, s2)] ds m Q = ((dk ds s2 = 10 ∧ 0 ≤ s1 ∧ s1 < dl ds s2 ∧ WP 155 37 [q0, q1, q2, q3, q4, q5] [] ds (up m s2 s1 s0) Q)) := P_s3 k155_36 rfl
set_option maxRecDepth 20000 in
theorem k155_37 : mjCode 155 37 = some (.aload_n 0, 1, 0, 0) := by decide +kernel
theorem p155_37 {l0 : Int} {q1 q2 q3 q4 q5 : MV} {ds : Ds} {m : Mm} {Q : Ds → Mm → List MV → Prop} : WP 155 37 [(2, l0), q1, q2, q3, q4, q5] [] ds m Q = (WP 155 38 [(2, l0), q1, q2, q3, q4, q5] [(2, l0)] ds m Q) := P_nx k155_37 rfl
set_option maxRecDepth 20000 in
theorem k155_38 : mjCode 155 38 = some (.getfield 66, 3, 7, 20) := by decide +kernel
theorem p155_38 {s0 : Int} {q0 q1 q2 q3 q4 q5 : MV} {ds : Ds} {m : Mm} {Q : Ds → Mm → List MV → Prop} : WP 155 38 [q0, q1, q2, q3, q4, q5] [(2, s0)] ds m Q = ((dk ds s0 = 7 ∧ WP 155 41 [q0, q1, q2, q3, q4, q5] [(2, m s0 20)] ds m Q)) := P_gd k155_38 rfl
set_option maxRecDepth 20000 in
theorem k155_41 : mjCode 155 41 = some (.aload_n 0, 1, 0, 0) := by decide +kernel
theorem p155_41 {l0 s0 : Int} {q1 q2 q3 q4 q5 : MV} {ds : Ds} {m : Mm} {Q : Ds → Mm → List MV → Prop} : WP 155 41 [(2, l0), q1, q2, q3, q4, q5] [(2, s0)] ds m Q = (WP 155 42 [(2, l0), q1, q2, q3, q4, q5] [(2, l0), (2, s0)] ds m Q) := P_nx k155_41 rfl
set_option maxRecDepth 20000 in
theorem k155_42 : mjCode 155 42 = some (.getfield 207, 3, 7, 24) := by decide +kernel
theorem p155_42 {s0 s1 : Int} {q0 q1 q2 q3 q4 q5 : MV} {ds : Ds} {m : Mm} {Q : Ds → Mm → List MV → Prop} : WP 155 42 [q0, q1, q2, q3, q4, q5] [(2, s0), (2, s1)] ds m Q = ((dk ds s0 = 7 ∧ WP 155 45 [q0, q1, q2, q3, q4, q5] [(0, m s0 24), (2, s1)] ds m Q)) := P_gd k155_42 rfl
set_option maxRecDepth 20000 in
theorem k155_45 : mjCode 155 45 = some (.iload 5, 2, 0, 0) := by decide +kernel
theorem p155_45 {l5 s0 s1 : Int} {q0 q1 q2 q3 q4 : MV} {ds : Ds} {m : Mm} {Q : Ds → Mm → List MV → Prop} : WP 155 45 [q0, q1, q2, q3, q4, (0, l5)] [(0, s0), (2, s1)] ds m Q = (WP 155 47 [q0, q1, q2, q3, q4, (0, l5)] [(0, l5), (0, s0), (2, s1)] ds m Q) := P_nx k155_45 rfl
set_option maxRecDepth 20000 in
theorem k155_47 : mjCode 155 47 = some (.bastore, 1, 0, 0) := by decide +kernel
theorem p155_47 {s0 s1 s2 : Int} {q0 q1 q2 q3 q4 q5 : MV} {ds : Ds} {m : Mm} {Q : Ds → Mm → List MV → Prop} : WP 155 47 [q0, q1, q2, q3, q4, q5] [(0, s0), (0, s1), (2, s2)] ds m Q = (((s0 = 0 ∨ s0 = 1) ∧ dk ds s2 = 11 ∧ 0 ≤ s1 ∧ s1 < dl ds s2 ∧ WP 155 48 [q0, q1, q2, q3, q4, q5] [] ds (up m s2 s1 s0) Q)) := P_s4 k155_47 rfl
set_option maxRecDepth 20000 in
theorem k155_48 : mjCode 155 48 = some (.aload_n 0, 1, 0, 0) := by decide +kernel
theorem p155_48 {l0 : Int} {q1 q2 q3 q4 q5 : MV} {ds : Ds} {m : Mm} {Q : Ds → Mm → List MV → Prop} : WP 155 48 [(2, l0), q1, q2, q3, q4, q5] [] ds m Q = (WP 155 49 [(2, l0), q1, q2, q3, q4, q5] [(2, l0)] ds m Q) := P_nx k155_48 rfl
set_option maxRecDepth 20000 in
theorem k155_49 : mjCode 155 49 = some (.getfield 69, 3, 7, 21) := by decide +kernel
theorem p155_49 {s0 : Int} {q0 q1 q2 q3 q4 q5 : MV} {ds : Ds} {m : Mm} {Q : Ds → Mm → List MV → Prop} : WP 155 49 [q0, q1, q2, q3, q4, q5] [(2, s0)] ds m Q = ((dk ds s0 = 7 ∧ WP 155 52 [q0, q1, q2, q3, q4, q5] [(2, m s0 21)] ds m Q)) := P_gd k155_49 rfl
set_option maxRecDepth 20000 in
theorem k155_52 : mjCode 155 52 = some (.aload_n 0, 1, 0, 0) := by decide +kernel
theorem p155_52 {l0 s0 : Int} {q1 q2 q3 q4 q5 : MV} {ds : Ds} {m : Mm} {Q : Ds → Mm → List MV → Prop} : WP 155 52 [(2, l0), q1, q2, q3, q4, q5] [(2, s0)] ds m Q = (WP 155 53 [(2, l0), q1, q2, q3, q4, q5] [(2, l0), (2, s0)] ds m Q) := P_nx k155_52 rfl
set_option maxRecDepth 20000 in
theorem k155_53 : mjCode 155 53 = some (.getfield 207, 3, 7, 24) := by decide +kernel
theorem p155_53 {s0 s1 : Int} {q0 q1 q2 q3 q4 q5 : MV} {ds : Ds} {m : Mm} {Q : Ds → Mm → List MV → Prop} : WP 155 53 [q0, q1, q2, q3, q4, q5] [(2, s0), (2, s1)] ds m Q = ((dk ds s0 = 7 ∧ WP 155 56 [q0, q1, q2, q3, q4, q5] [(0, m s0 24), (2, s1)] ds m Q)) := P_gd k155_53 rfl
set_option maxRecDepth 20000 in
theorem k155_56 : mjCode 155 56 = some (.iconst (-1), 1, 0, 0) := by decide +kernel
theorem p155_56 {s0 s1 : Int} {q0 q1 q2 q3 q4 q5 : MV} {ds : Ds} {m : Mm} {Q : Ds → Mm → List MV → Prop} : WP 155 56 [q0, q1, q2, q3, q4, q5] [(0, s0), (2, s1)] ds m Q = (WP 155 57 [q0, q1, q2, q3, q4, q5] [(0, (-1)), (0, s0), (2, s1)] ds m Q) := P_nx k155_56 rfl
set_option maxRecDepth 20000 in
theorem k155_57 : mjCode 155 57 = some (.iastore, 1, 0, 0) := by decide +kernel
theorem p155_57 {s0 s1 s2 : Int} {q0 q1 q2 q3 q4 q5 : MV} {ds : Ds} {m : Mm} {Q : Ds → Mm → List MV → Prop} : WP 155 57 [q0, q1, q2, q3, q4, q5] [(0, s0), (0, s1), (2, s2)] ds m Q = ((dk ds s2 = 10 ∧ 0 ≤ s1 ∧ s1 < dl ds s2 ∧ WP 155 58 [q0, q1, q2, q3, q4, q5] [] ds (up m s2 s1 s0) Q)) := P_s3 k155_57 rfl
set_option maxRecDepth 20000 in
theorem k155_58 : mjCode 155 58 = some (.aload_n 0, 1, 0, 0) := by decide +kernel
theorem p155_58 {l0 : Int} {q1 q2 q3 q4 q5 : MV} {ds : Ds} {m : Mm} {Q : Ds → Mm → List MV → Prop} : WP 155 58 [(2, l0), q1, q2, q3, q4, q5] [] ds m Q = (WP 155 59 [(2, l0), q1, q2, q3, q4, q5] [(2, l0)] ds m Q) := P_nx k155_58 rfl
set_option maxRecDepth 20000 in
theorem k155_59 : mjCode 155 59 = some (.getfield 72, 3, 7, 22) := by decide +kernel
theorem p155_59 {s0 : Int} {q0 q1 q2 q3 q4 q5 : MV} {ds : Ds} {m : Mm} {Q : Ds → Mm → List MV → Prop} : WP 155 59 [q0, q1, q2, q3, q4, q5] [(2, s0)] ds m Q = ((dk ds s0 = 7 ∧ WP 155 62 [q0, q1, q2, q3, q4, q5] [(2, m s0 22)] ds m Q)) := P_gd k155_59 rfl
set_option maxRecDepth 20000 in
theorem k155_62 : mjCode 155 62 = some (.iload_n 1, 1, 0, 0) := by decide +kernel
theorem p155_62 {l1 s0 : Int} {q0 q2 q3 q4 q5 : MV} {ds : Ds} {m : Mm} {Q : Ds → Mm → List MV → Prop} : WP 155 62 [q0, (0, l1), q2, q3, q4, q5] [(2, s0)] ds m Q = (WP 155 63 [q0, (0, l1), q2, q3, q4, q5] [(0, l1), (2, s0)] ds m Q) := P_nx k155_62 rfl
set_option maxRecDepth 20000 in
theorem k155_63 : mjCode 155 63 = some (.iaload, 1, 0, 0) := by decide +kernel
theorem p155_63 {s0 s1 : Int} {q0 q1 q2 q3 q4 q5 : MV} {ds : Ds} {m : Mm} {Q : Ds → Mm → List MV → Prop} : WP 155 63 [q0, q1, q2, q3, q4, q5] [(0, s0), (2, s1)] ds m Q = ((dk ds s1 = 10 ∧ 0 ≤ s0 ∧ s0 < dl ds s1 ∧ WP 155 64 [q0, q1, q2, q3, q4, q5] [(0, m s1 s0)] ds m Q)) := P_g3 k155_63 rfl
set_option maxRecDepth 20000 in
theorem k155_64 : mjCode 155 64 = some (.iconst (-1), 1, 0, 0) := by decide +kernel
theorem p155_64 {s0 : Int} {q0 q1 q2 q3 q4 q5 : MV} {ds : Ds} {m : Mm} {Q : Ds → Mm → List MV → Prop} : WP 155 64 [q0, q1, q2, q3, q4, q5] [(0, s0)] ds m Q = (WP 155 65 [q0, q1, q2, q3, q4, q5] [(0, (-1)), (0, s0)] ds m Q) := P_nx k155_64 rfl
set_option maxRecDepth 20000 in
theorem k155_65 : mjCode 155 65 = some (.if_icmp .ne 16, 3, 81, 0) := by decide +kernel
theorem p155_65 {s0 s1 : Int} {q0 q1 q2 q3 q4 q5 : MV} {ds : Ds} {m : Mm} {Q : Ds → Mm → List MV → Prop} : WP 155 65 [q0, q1, q2, q3, q4, q5] [(0, s0), (0, s1)] ds m Q = (if s1 = s0 then WP 155 68 [q0, q1, q2, q3, q4, q5] [] ds m Q else WP 155 81 [q0, q1, q2, q3, q4, q5] [] ds m Q) := P_if k155_65 rfl
set_option maxRecDepth 20000 in
theorem k155_68 : mjCode 155 68 = some (.aload_n 0, 1, 0, 0) := by decide +kernel
theorem p155_68 {l0 : Int} {q1 q2 q3 q4 q5 : MV} {ds : Ds} {m : Mm} {Q : Ds → Mm → List MV → Prop} : WP 155 68 [(2, l0), q1, q2, q3, q4, q5] [] ds m Q = (WP 155 69 [(2, l0), q1, q2, q3, q4, q5] [(2, l0)] ds m Q) := P_nx k155_68 rfl
set_option maxRecDepth 20000 in
theorem k155_69 : mjCode 155 69 = some (.getfield 72, 3, 7, 22) := by decide +kernel
theorem p155_69 {s0 : Int} {q0 q1 q2 q3 q4 q5 : MV} {ds : Ds} {m : Mm} {Q : Ds → Mm → List MV → Prop} : WP 155 69 [q0, q1, q2, q3, q4, q5] [(2, s0)] ds m Q = ((dk ds s0 = 7 ∧ WP 155 72 [q0, q1, q2, q3, q4, q5] [(2, m s0 22)] ds m Q)) := P_gd k155_69 rfl
set_option maxRecDepth 20000 in
theorem k155_72 : mjCode 155 72 = some (.iload_n 1, 1, 0, 0) := by decide +kernel
theorem p155_72 {l1 s0 : Int} {q0 q2 q3 q4 q5 : MV} {ds : Ds} {m : Mm} {Q : Ds → Mm → List MV → Prop} : WP 155 72 [q0, (0, l1), q2, q3, q4, q5] [(2, s0)] ds m Q = (WP 155 73 [q0, (0, l1), q2, q3, q4, q5] [(0, l1), (2, s0)] ds m Q) := P_nx k155_72 rfl
set_option maxRecDepth 20000 in
theorem k155_73 : mjCode 155 73 = some (.aload_n 0, 1, 0, 0) := by decide +kernel
theorem p155_73 {l0 s0 s1 : Int} {q1 q2 q3 q4 q5 : MV} {ds : Ds} {m : Mm} {Q : Ds → Mm → List MV → Prop} : WP 155 73 [(2, l0), q1, q2, q3, q4, q5] [(0, s0), (2, s1)] ds m Q = (WP 155 74 [(2, l0), q1, q2, q3, q4, q5] [(2, l0), (0, s0), (2, s1)] ds m Q) := P_nx k155_73 rfl
set_option maxRecDepth 20000 in
theorem k155_74 : mjCode 155 74 = some (.getfield 207, 3, 7, 24) := by decide +kernel
theorem p155_74 {s0 s1 s2 : Int} {q0 q1 q2 q3 q4 q5 : MV} {ds : Ds} {m : Mm} {Q : Ds → Mm → List MV → Prop} : WP 155 74 [q0, q1, q2, q3, q4, q5] [(2, s0), (0, s1), (2, s2)] ds m Q = ((dk ds s0 = 7 ∧ WP 155 77 [q0, q1, q2, q3, q4, q5] [(0, m s0 24), (0, s1), (2, s2)] ds m Q)) := P_gd k155_74 rfl
set_option maxRecDepth 20000 in
theorem k155_77 : mjCode 155 77 = some (.iastore, 1, 0, 0) := by decide +kernel
theorem p155_77 {s0 s1 s2 : Int} {q0 q1 q2 q3 q4 q5 : MV} {ds : Ds} {m : Mm} {Q : Ds → Mm → List MV → Prop} : WP 155 77 [q0, q1, q2, q3, q4, q5] [(0, s0), (0, s1), (2, s2)] ds m Q = ((dk ds s2 = 10 ∧ 0 ≤ s1 ∧ s1 < dl ds s2 ∧ WP 155 78 [q0, q1, q2, q3, q4, q5] [] ds (up m s2 s1 s0) Q)) := P_s3 k155_77 rfl
set_option maxRecDepth 20000 in
theorem k155_78 : mjCode 155 78 = some (.goto 18, 3, 96, 0) := by decide +kernel
theorem p155_78 {q0 q1 q2 q3 q4 q5 : MV} {ds : Ds} {m : Mm} {Q : Ds → Mm → List MV → Prop} : WP 155 78 [q0, q1, q2, q3, q4, q5] [] ds m Q = (WP 155 96 [q0, q1, q2, q3, q4, q5] [] ds m Q) := P_nx k155_78 rfl
set_option maxRecDepth 20000 in
theorem k155_81 : mjCode 155 81 = some (.aload_n 0, 1, 0, 0) := by decide +kernel
theorem p155_81 {l0 : Int} {q1 q2 q3 q4 q5 : MV} {ds : Ds} {m : Mm} {Q : Ds → Mm → List MV → Prop} : WP 155 81 [(2, l0), q1, q2, q3, q4, q5] [] ds m Q = (WP 155 82 [(2, l0), q1, q2, q3, q4, q5] [(2, l0)] ds m Q) := P_nx k155_81 rfl
set_option maxRecDepth 20000 in
theorem k155_82 : mjCode 155 82 = some (.getfield 69, 3, 7, 21) := by decide +kernel
theorem p155_82 {s0 : Int} {q0 q1 q2 q3 q4 q5 : MV} {ds : Ds} {m : Mm} {Q : Ds → Mm → List MV → Prop} : WP 155 82 [q0, q1, q2, q3, q4, q5] [(2, s0)] ds m Q = ((dk ds s0 = 7 ∧ WP 155 85 [q0, q1, q2, q3, q4, q5] [(2, m s0 21)] ds m Q)) := P_gd k155_82 rfl
set_option maxRecDepth 20000 in
theorem k155_85 : mjCode 155 85 = some (.aload_n 0, 1, 0, 0) := by decide +kernel
theorem p155_85 {l0 s0 : Int} {q1 q2 q3 q4 q5 : MV} {ds : Ds} {m : Mm} {Q : Ds → Mm → List MV → Prop} : WP 155 85 [(2, l0), q1, q2, q3, q4, q5] [(2, s0)] ds m Q = (WP 155 86 [(2, l0), q1, q2, q3, q4, q5] [(2, l0), (2, s0)] ds m Q) := P_nx k155_85 rfl
set_option maxRecDepth 20000 in
theorem k155_86 : mjCode 155 86 = some (.getfield 75, 3, 7, 23) := by decide +kernel
theorem p155_86 {s0 s1 : Int} {q0 q1 q2 q3 q4 q5 : MV} {ds : Ds} {m : Mm} {Q : Ds → Mm → List MV → Prop} : WP 155 86 [q0, q1, q2, q3, q4, q5] [(2, s0), (2, s1)] ds m Q = ((dk ds s0 = 7 ∧ WP 155 89 [q0, q1, q2, q3, q4, q5] [(2, m s0 23), (2, s1)] ds m Q)) := P_gd k155_86 rfl
set_option maxRecDepth 20000 in
theorem k155_89 : mjCode 155 89 = some (.iload_n 1, 1, 0, 0) := by decide +kernel
theorem p155_89 {l1 s0 s1 : Int} {q0 q2 q3 q4 q5 : MV} {ds : Ds} {m : Mm} {Q : Ds → Mm → List MV → Prop} : WP 155 89 [q0, (0, l1), q2, q3, q4, q5] [(2, s0), (2, s1)] ds m Q = (WP 155 90 [q0, (0, l1), q2, q3, q4, q5] [(0, l1), (2, s0), (2, s1)] ds m Q) := P_nx k155_89 rfl
set_option maxRecDepth 20000 in
theorem k155_90 : mjCode 155 90 = some (.iaload, 1, 0, 0) := by decide +kernel
theorem p155_90 {s0 s1 s2 : Int} {q0 q1 q2 q3 q4 q5 : MV} {ds : Ds} {m : Mm} {Q : Ds → Mm → List MV → Prop} : WP 155 90 [q0, q1, q2, q3, q4, q5] [(0, s0), (2, s1), (2, s2)] ds m Q = ((dk ds s1 = 10 ∧ 0 ≤ s0 ∧ s0 < dl ds s1 ∧ WP 155 91 [q0, q1, q2, q3, q4, q5] [(0, m s1 s0), (2, s2)] ds m Q)) := P_g3 k155_90 rfl
set_option maxRecDepth 20000 in
theorem k155_91 : mjCode 155 91 = some (.aload_n 0, 1, 0, 0) := by decide +kernel
theorem p155_91 {l0 s0 s1 : Int} {q1 q2 q3 q4 q5 : MV} {ds : Ds} {m : Mm} {Q : Ds → Mm → List MV → Prop} : WP 155 91 [(2, l0), q1, q2, q3, q4, q5] [(0, s0), (2, s1)] ds m Q = (WP 155 92 [(2, l0), q1, q2, q3, q4, q5] [(2, l0), (0, s0), (2, s1)] ds m Q) := P_nx k155_91 rfl
set_option maxRecDepth 20000 in
theorem k155_92 : mjCode 155 92 = some (.getfield 207, 3, 7, 24) := by decide +kernel
theorem p155_92 {s0 s1 s2 : Int} {q0 q1 q2 q3 q4 q5 : MV} {ds : Ds} {m : Mm} {Q : Ds → Mm → List MV → Prop} : WP 155 92 [q0, q1, q2, q3, q4, q5] [(2, s0), (0, s1), (2, s2)] ds m Q = ((dk ds s0 = 7 ∧ WP 155 95 [q0, q1, q2, q3, q4, q5] [(0, m s0 24), (0, s1), (2, s2)] ds m Q)) := P_gd k155_92 rfl
set_option maxRecDepth 20000 in
theorem k155_95 : mjCode 155 95 = some (.iastore, 1, 0, 0) := by decide +kernel
theorem p155_95 {s0 s1 s2 : Int} {q0 q1 q2 q3 q4 q5 : MV} {ds : Ds} {m : Mm} {Q : Ds → Mm → List MV → Prop} : WP 155 95 [q0, q1, q2, q3, q4, q5] [(0, s0), (0, s1), (2, s2)] ds m Q = ((dk ds s2 = 10 ∧ 0 ≤ s1 ∧ s1 < dl ds s2 ∧ WP 155 96 [q0, q1, q2, q3, q4, q5] [] ds (up m s2 s1 s0) Q)) := P_s3 k155_95 rfl
set_option maxRecDepth 20000 in
theorem k155_96 : mjCode 155 96 = some (.aload_n 0, 1, 0, 0) := by decide +kernel
theorem p155_96 {l0 : Int} {q1 q2 q3 q4 q5 : MV} {ds : Ds} {m : Mm} {Q : Ds → Mm → List MV → Prop} : WP 155 96 [(2, l0), q1, q2, q3, q4, q5] [] ds m Q = (WP 155 97 [(2, l0), q1, q2, q3, q4, q5] [(2, l0)] ds m Q) := P_nx k155_96 rfl
set_option maxRecDepth 20000 in
theorem k155_97 : mjCode 155 97 = some (.getfield 75, 3, 7, 23) := by decide +kernel
theorem p155_97 {s0 : Int} {q0 q1 q2 q3 q4 q5 : MV} {ds : Ds} {m : Mm} {Q : Ds → Mm → List MV → Prop} : WP 155 97 [q0, q1, q2, q3, q4, q5] [(2, s0)] ds m Q = ((dk ds s0 = 7 ∧ WP 155 100 [q0, q1, q2, q3, q4, q5] [(2, m s0 23)] ds m Q)) := P_gd k155_97 rfl
set_option maxRecDepth 20000 in
theorem k155_100 : mjCode 155 100 = some (.iload_n 1, 1, 0, 0) := by decide +kernel
theorem p155_100 {l1 s0 : Int} {q0 q2 q3 q4 q5 : MV} {ds : Ds} {m : Mm} {Q : Ds → Mm → List MV → Prop} : WP 155 100 [q0, (0, l1), q2, q3, q4, q5] [(2, s0)] ds m Q = (WP 155 101 [q0, (0, l1), q2, q3, q4, q5] [(0, l1), (2, s0)] ds m Q) := P_nx k155_100 rfl
set_option maxRecDepth 20000 in
theorem k155_101 : mjCode 155 101 = some (.aload_n 0, 1, 0, 0) := by decide +kernel
theorem p155_101 {l0 s0 s1 : Int} {q1 q2 q3 q4 q5 : MV} {ds : Ds} {m : Mm} {Q : Ds → Mm → List MV → Prop} : WP 155 101 [(2, l0), q1, q2, q3, q4, q5] [(0, s0), (2, s1)] ds m Q = (WP 155 102 [(2, l0), q1, q2, q3, q4, q5] [(2, l0), (0, s0), (2, s1)] ds m Q) := P_nx k155_101 rfl
set_option maxRecDepth 20000 in
theorem k155_102 : mjCode 155 102 = some (.getfield 207, 3, 7, 24) := by decide +kernel
theorem p155_102 {s0 s1 s2 : Int} {q0 q1 q2 q3 q4 q5 : MV} {ds : Ds} {m : Mm} {Q : Ds → Mm → List MV → Prop} : WP 155 102 [q0, q1, q2, q3, q4, q5] [(2, s0), (0, s1), (2, s2)] ds m Q = ((dk ds s0 = 7 ∧ WP 155 105 [q0, q1, q2, q3, q4, q5] [(0, m s0 24), (0, s1), (2, s2)] ds m Q)) := P_gd k155_102 rfl
set_option maxRecDepth 20000 in
theorem k155_105 : mjCode 155 105 = some (.iastore, 1, 0, 0) := by decide +kernel
theorem p155_105 {s0 s1 s2 : Int} {q0 q1 q2 q3 q4 q5 : MV} {ds : Ds} {m : Mm} {Q : Ds → Mm → List MV → Prop} : WP 155 105 [q0, q1, q2, q3, q4, q5] [(0, s0), (0, s1), (2, s2)] ds m Q = ((dk ds s2 = 10 ∧ 0 ≤ s1 ∧ s1 < dl ds s2 ∧ WP 155 106 [q0, q1, q2, q3, q4, q5] [] ds (up m s2 s1 s0) Q)) := P_s3 k155_105 rfl
set_option maxRecDepth 20000 in
theorem k155_106 : mjCode 155 106 = some (.aload_n 0, 1, 0, 0) := by decide +kernel
theorem p155_106 {l0 : Int} {q1 q2 q3 q4 q5 : MV} {ds : Ds} {m : Mm} {Q : Ds → Mm → List MV → Prop} : WP 155 106 [(2, l0), q1, q2, q3, q4, q5] [] ds m Q = (WP 155 107 [(2, l0), q1, q2, q3, q4, q5] [(2, l0)] ds m Q) := P_nx k155_106 rfl
set_option maxRecDepth 20000 in
theorem k155_107 : mjCode 155 107 = some (.dup, 1, 0, 0) := by decide +kernel
theorem p155_107 {s0 : Int} {q0 q1 q2 q3 q4 q5 : MV} {ds : Ds} {m : Mm} {Q : Ds → Mm → List MV → Prop} : WP 155 107 [q0, q1, q2, q3, q4, q5] [(2, s0)] ds m Q = (WP 155 108 [q0, q1, q2, q3, q4, q5] [(2, s0), (2, s0)] ds m Q) := P_nx k155_107 rfl
set_option maxRecDepth 20000 in
theorem k155_108 : mjCode 155 108 = some (.getfield 207, 3, 7, 24) := by decide +kernel
theorem p155_108 {s0 s1 : Int} {q0 q1 q2 q3 q4 q5 : MV} {ds : Ds} {m : Mm} {Q : Ds → Mm → List MV → Prop} : WP 155 108 [q0, q1, q2, q3, q4, q5] [(2, s0), (2, s1)] ds m Q = ((dk ds s0 = 7 ∧ WP 155 111 [q0, q1, q2, q3, q4, q5] [(0, m s0 24), (2, s1)] ds m Q)) := P_gd k155_108 rfl
set_option maxRecDepth 20000 in
theorem k155_111 : mjCode 155 111 = some (.iconst 1, 1, 0, 0) := by decide +kernel
theorem p155_111 {s0 s1 : Int} {q0 q1 q2 q3 q4 q5 : MV} {ds : Ds} {m : Mm} {Q : Ds → Mm → List MV → Prop} : WP 155 111 [q0, q1, q2, q3, q4, q5] [(0, s0), (2, s1)] ds m Q = (WP 155 112 [q0, q1, q2, q3, q4, q5] [(0, 1), (0, s0), (2, s1)] ds m Q) := P_nx k155_111 rfl
set_option maxRecDepth 20000 in
theorem k155_112 : mjCode 155 112 = some (.iadd, 1, 0, 0) := by decide +kernel
theorem p155_112 {s0 s1 s2 : Int} {q0 q1 q2 q3 q4 q5 : MV} {ds : Ds} {m : Mm} {Q : Ds → Mm → List MV → Prop} : WP 155 112 [q0, q1, q2, q3, q4, q5] [(0, s0), (0, s1), (2, s2)] ds m Q = (WP 155 113 [q0, q1, q2, q3, q4, q5] [(0, w32 (s1 + s0)), (2, s2)] ds m Q) := P_nx k155_112 rfl
set_option maxRecDepth 20000 in
theorem k155_113 : mjCode 155 113 = some (.putfield 207, 3, 7, 24) := by decide +kernel
theorem p155_113 {s0 s1 : Int} {q0 q1 q2 q3 q4 q5 : MV} {ds : Ds} {m : Mm} {Q : Ds → Mm → List MV → Prop} : WP 155 113 [q0, q1, q2, q3, q4, q5] [(0, s0), (2, s1)] ds m Q = ((dk ds s1 = 7 ∧ WP 155 116 [q0, q1, q2, q3, q4, q5] [] ds (up m s1 24 s0) Q)) := P_pf k155_113 rfl
set_option maxRecDepth 20000 in
theorem k155_116 : mjCode 155 116 = some (.aload_n 0, 1, 0, 0) := by decide +kernel
theorem p155_116 {l0 : Int} {q1 q2 q3 q4 q5 : MV} {ds : Ds} {m : Mm} {Q : Ds → Mm → List MV → Prop} : WP 155 116 [(2, l0), q1, q2, q3, q4, q5] [] ds m Q = (WP 155 117 [(2, l0), q1, q2, q3, q4, q5] [(2, l0)] ds m Q) := P_nx k155_116 rfl
set_option maxRecDepth 20000 in
theorem k155_117 : mjCode 155 117 = some (.dup, 1, 0, 0) := by decide +kernel
theorem p155_117 {s0 : Int} {q0 q1 q2 q3 q4 q5 : MV} {ds : Ds} {m : Mm} {Q : Ds → Mm → List MV → Prop} : WP 155 117 [q0, q1, q2, q3, q4, q5] [(2, s0)] ds m Q = (WP 155 118 [q0, q1, q2, q3, q4, q5] [(2, s0), (2, s0)] ds m Q) := P_nx k155_117 rfl
set_option maxRecDepth 20000 in
theorem k155_118 : mjCode 155 118 = some (.getfield 210, 3, 7, 25) := by decide +kernel
theorem p155_118 {s0 s1 : Int} {q0 q1 q2 q3 q4 q5 : MV} {ds : Ds} {m : Mm} {Q : Ds → Mm → List MV → Prop} : WP 155 118 [q0, q1, q2, q3, q4, q5] [(2, s0), (2, s1)] ds m Q = ((dk ds s0 = 7 ∧ WP 155 121 [q0, q1, q2, q3, q4, q5] [(0, m s0 25), (2, s1)] ds m Q)) := P_gd k155_118 rfl
set_option maxRecDepth 20000 in
theorem k155_121 : mjCode 155 121 = some (.iconst 1, 1, 0, 0) := by decide +kernel
theorem p155_121 {s0 s1 : Int} {q0 q1 q2 q3 q4 q5 : MV} {ds : Ds} {m : Mm} {Q : Ds → Mm → List MV → Prop} : WP 155 121 [q0, q1, q2, q3, q4, q5] [(0, s0), (2, s1)] ds m Q = (WP 155 122 [q0, q1, q2, q3, q4, q5] [(0, 1), (0, s0), (2, s1)] ds m Q) := P_nx k155_121 rfl
set_option maxRecDepth 20000 in
theorem k155_122 : mjCode 155 122 = some (.iadd, 1, 0, 0) := by decide +kernel
theorem p155_122 {s0 s1 s2 : Int} {q0 q1 q2 q3 q4 q5 : MV} {ds : Ds} {m : Mm} {Q : Ds → Mm → List MV → Prop} : WP 155 122 [q0, q1, q2, q3, q4, q5] [(0, s0), (0, s1), (2, s2)] ds m Q = (WP 155 123 [q0, q1, q2, q3, q4, q5] [(0, w32 (s1 + s0)), (2, s2)] ds m Q) := P_nx k155_122 rfl
set_option maxRecDepth 20000 in
theorem k155_123 : mjCode 155 123 = some (.putfield 210, 3, 7, 25) := by decide +kernel
theorem p155_123 {s0 s1 : Int} {q0 q1 q2 q3 q4 q5 : MV} {ds : Ds} {m : Mm} {Q : Ds → Mm → List MV → Prop} : WP 155 123 [q0, q1, q2, q3, q4, q5] [(0, s0), (2, s1)] ds m Q = ((dk ds s1 = 7 ∧ WP 155 126 [q0, q1, q2, q3, q4, q5] [] ds (up m s1 25 s0) Q)) := P_pf k155_123 rfl
set_option maxRecDepth 20000 in
theorem k155_126 : mjCode 155 126 = some (.return_, 1, 0, 0) := by decide +kernel
theorem p155_126 {q0 q1 q2 q3 q4 q5 : MV} {ds : Ds} {m : Mm} {Q : Ds → Mm → List MV → Prop} : WP 155 126 [q0, q1, q2, q3, q4, q5] [] ds m Q = (Q ds m []) := P_rv k155_126 rk155
set_option maxRecDepth 20000 in
theorem k156_0 : mjCode 156 0 = some (.iload_n 1, 1, 0, 0) := by decide +kernel
theorem p156_0 {l1 : Int} {q0 : MV} {ds : Ds} {m : Mm} {Q : Ds → Mm → List MV → Prop} : WP 156 0 [q0, (0, l1)] [] ds m Q = (WP 156 1 [q0, (0, l1)] [(0, l1)] ds m Q) := P_nx k156_0 rfl
set_option maxRecDepth 20000 in
theorem k156_1 : mjCode 156 1 = some (.iconst (-1), 1, 0, 0) := by decide +kernel
theorem p156_1 {s0 : Int} {q0 q1 : MV} {ds : Ds} {m : Mm} {Q : Ds → Mm → List MV → Prop} : WP 156 1 [q0, q1] [(0, s0)] ds m Q = (WP 156 2 [q0, q1] [(0, (-1)), (0, s0)] ds m Q) := P_nx k156_1 rfl
set_option maxRecDepth 20000 in
theorem k156_2 : mjCode 156 2 = some (.if_icmp .eq 26, 3, 28, 0) := by decide +kernel
theorem p156_2 {s0 s1 : Int} {q0 q1 : MV} {ds : Ds} {m : Mm} {Q : Ds → Mm → List MV → Prop} : WP 156 2 [q0, q1] [(0, s0), (0, s1)] ds m Q = (if s1 = s0 then WP 156 28 [q0, q1] [] ds m Q else WP 156 5 [q0, q1] [] ds m Q) := P_if k156_2 rfl
set_option maxRecDepth 20000 in
theorem k156_5 : mjCode 156 5 = some (.aload_n 0, 1, 0, 0) := by decide +kernel
theorem p156_5 {l0 : Int} {q1 : MV} {ds : Ds} {m : Mm} {Q : Ds → Mm → List MV → Prop} : WP 156 5 [(2, l0), q1] [] ds m Q = (WP 156 6 [(2, l0), q1] [(2, l0)] ds m Q) := P_nx k156_5 rfl
set_option maxRecDepth 20000 in
theorem k156_6 : mjCode 156 6 = some (.getfield 13, 3, 7, 1) := by decide +kernel
theorem p156_6 {s0 : Int} {q0 q1 : MV} {ds : Ds} {m : Mm} {Q : Ds → Mm → List MV → Prop} : WP 156 6 [q0, q1] [(2, s0)] ds m Q = ((dk ds s0 = 7 ∧ WP 156 9 [q0, q1] [(2, m s0 1)] ds m Q)) := P_gd k156_6 rfl
set_option maxRecDepth 20000 in
theorem k156_9 : mjCode 156 9 = some (.iload_n 1, 1, 0, 0) := by decide +kernel
theorem p156_9 {l1 s0 : Int} {q0 : MV} {ds : Ds} {m : Mm} {Q : Ds → Mm → List MV → Prop} : WP 156 9 [q0, (0, l1)] [(2, s0)] ds m Q = (WP 156 10 [q0, (0, l1)] [(0, l1), (2, s0)] ds m Q) := P_nx k156_9 rfl
set_option maxRecDepth 20000 in
theorem k156_10 : mjCode 156 10 = some (.iaload, 1, 0, 0) := by decide +kernel
theorem p156_10 {s0 s1 : Int} {q0 q1 : MV} {ds : Ds} {m : Mm} {Q : Ds → Mm → List MV → Prop} : WP 156 10 [q0, q1] [(0, s0), (2, s1)] ds m Q = ((dk ds s1 = 10 ∧ 0 ≤ s0 ∧ s0 < dl ds s1 ∧ WP 156 11 [q0, q1] [(0, m s1 s0)] ds m Q)) := P_g3 k156_10 rfl
set_option maxRecDepth 20000 in
theorem k156_11 : mjCode 156 11 = some (.ifCond .ne 13, 3, 24, 0) := by decide +kernel
theorem p156_11 {s0 : Int} {q0 q1 : MV} {ds : Ds} {m : Mm} {Q : Ds → Mm → List MV → Prop} : WP 156 11 [q0, q1] [(0, s0)] ds m Q = (if s0 = 0 then WP 156 14 [q0, q1] [] ds m Q else WP 156 24 [q0, q1] [] ds m Q) := P_if k156_11 rfl
set_option maxRecDepth 20000 in
theorem k156_14 : mjCode 156 14 = some (.aload_n 0, 1, 0, 0) := by decide +kernel
theorem p156_14 {l0 : Int} {q1 : MV} {ds : Ds} {m : Mm} {Q : Ds → Mm → List MV → Prop} : WP 156 14 [(2, l0), q1] [] ds m Q = (WP 156 15 [(2, l0), q1] [(2, l0)] ds m Q) := P_nx k156_14 rfl
set_option maxRecDepth 20000 in
theorem k156_15 : mjCode 156 15 = some (.getfield 84, 3, 7, 29) := by decide +kernel
theorem p156_15 {s0 : Int} {q0 q1 : MV} {ds : Ds} {m : Mm} {Q : Ds → Mm → List MV → Prop} : WP 156 15 [q0, q1] [(2, s0)] ds m Q = ((dk ds s0 = 7 ∧ WP 156 18 [q0, q1] [(2, m s0 29)] ds m Q)) := P_gd k156_15 rfl
set_option maxRecDepth 20000 in
theorem k156_18 : mjCode 156 18 = some (.iload_n 1, 1, 0, 0) := by decide +kernel
theorem p156_18 {l1 s0 : Int} {q0 : MV} {ds : Ds} {m : Mm} {Q : Ds → Mm → List MV → Prop} : WP 156 18 [q0, (0, l1)] [(2, s0)] ds m Q = (WP 156 19 [q0, (0, l1)] [(0, l1), (2, s0)] ds m Q) := P_nx k156_18 rfl
set_option maxRecDepth 20000 in
theorem k156_19 : mjCode 156 19 = some (.iaload, 1, 0, 0) := by decide +kernel
theorem p156_19 {s0 s1 : Int} {q0 q1 : MV} {ds : Ds} {m : Mm} {Q : Ds → Mm → List MV → Prop} : WP 156 19 [q0, q1] [(0, s0), (2, s1)] ds m Q = ((dk ds s1 = 10 ∧ 0 ≤ s0 ∧ s0 < dl ds s1 ∧ WP 156 20 [q0, q1] [(0, m s1 s0)] ds m Q)) := P_g3 k156_19 rfl
set_option maxRecDepth 20000 in
theorem k156_20 : mjCode 156 20 = some (.iconst (-1), 1, 0, 0) := by decide +kernel
theorem p156_20 {s0 : Int} {q0 q1 : MV} {ds : Ds} {m : Mm} {Q : Ds → Mm → List MV → Prop} : WP 156 20 [q0, q1] [(0, s0)] ds m Q = (WP 156 21 [q0, q1] [(0, (-1)), (0, s0)] ds m Q) := P_nx k156_20 rfl
set_option maxRecDepth 20000 in
theorem k156_21 : mjCode 156 21 = some (.if_icmp .eq 7, 3, 28, 0) := by decide +kernel
theorem p156_21 {s0 s1 : Int} {q0 q1 : MV} {ds : Ds} {m : Mm} {Q : Ds → Mm → List MV → Prop} : WP 156 21 [q0, q1] [(0, s0), (0, s1)] ds m Q = (if s1 = s0 then WP 156 28 [q0, q1] [] ds m Q else WP 156 24 [q0, q1] [] ds m Q) := P_if k156_21 rfl
set_option maxRecDepth 20000 in
theorem k156_24 : mjCode 156 24 = some (.iconst 1, 1, 0, 0) := by decide +kernel
theorem p156_24 {q0 q1 : MV} {ds : Ds} {m : Mm} {Q : Ds → Mm → List MV → Prop} : WP 156 24 [q0, q1] [] ds m Q = (WP 156 25 [q0, q1] [(0, 1)] ds m Q) := P_nx k156_24 rfl
set_option maxRecDepth 20000 in
theorem k156_25 : mjCode 156 25 = some (.goto 4, 3, 29, 0) := by decide +kernel
theorem p156_25 {s0 : Int} {q0 q1 : MV} {ds : Ds} {m : Mm} {Q : Ds → Mm → List MV → Prop} : WP 156 25 [q0, q1] [(0, s0)] ds m Q = (WP 156 29 [q0, q1] [(0, s0)] ds m Q) := P_nx k156_25 rfl
set_option maxRecDepth 20000 in
theorem k156_28 : mjCode 156 28 = some (.iconst 0, 1, 0, 0) := by decide +kernel
theorem p156_28 {q0 q1 : MV} {ds : Ds} {m : Mm} {Q : Ds → Mm → List MV → Prop} : WP 156 28 [q0, q1] [] ds m Q = (WP 156 29 [q0, q1] [(0, 0)] ds m Q) := P_nx k156_28 rfl
set_option maxRecDepth 20000 in
theorem k156_29 : mjCode 156 29 = some (.ireturn, 1, 0, 0) := by decide +kernel
theorem p156_29 {s0 : Int} {q0 q1 : MV} {ds : Ds} {m : Mm} {Q : Ds → Mm → List MV → Prop} : WP 156 29 [q0, q1] [(0, s0)] ds m Q = (((s0 = 0 ∨ s0 = 1) ∧ Q ds m [(0, s0)])) := P_rb k156_29 rk156
set_option maxRecDepth 20000 in
theorem k157_0 : mjCode 157 0 = some (.aload_n 0, 1, 0, 0) := by decide +kernel
theorem p157_0 {l0 : Int} {q1 q2 q3 : MV} {ds : Ds} {m : Mm} {Q : Ds → Mm → List MV → Prop} : WP 157 0 [(2, l0), q1, q2, q3] [] ds m Q = (WP 157 1 [(2, l0), q1, q2, q3] [(2, l0)] ds m Q) := P_nx k157_0 rfl
set_option maxRecDepth 20000 in
theorem k157_1 : mjCode 157 1 = some (.aload_n 0, 1, 0, 0) := by decide +kernel
theorem p157_1 {l0 s0 : Int} {q1 q2 q3 : MV} {ds : Ds} {m : Mm} {Q : Ds → Mm → List MV → Prop} : WP 157 1 [(2, l0), q1, q2, q3] [(2, s0)] ds m Q = (WP 157 2 [(2, l0), q1, q2, q3] [(2, l0), (2, s0)] ds m Q) := P_nx k157_1 rfl
set_option maxRecDepth 20000 in
theorem k157_2 : mjCode 157 2 = some (.getfield 213, 3, 7, 26) := by decide +kernel
theorem p157_2 {s0 s1 : Int} {q0 q1 q2 q3 : MV} {ds : Ds} {m : Mm} {Q : Ds → Mm → List MV → Prop} : WP 157 2 [q0, q1, q2, q3] [(2, s0), (2, s1)] ds m Q = ((dk ds s0 = 7 ∧ WP 157 5 [q0, q1, q2, q3] [(0, m s0 26), (2, s1)] ds m Q)) := P_gd k157_2 rfl
set_option maxRecDepth 20000 in
theorem k157_5 : mjCode 157 5 = some (.iload_n 2, 1, 0, 0) := by decide +kernel
theorem p157_5 {l2 s0 s1 : Int} {q0 q1 q3 : MV} {ds : Ds} {m : Mm} {Q : Ds → Mm → List MV → Prop} : WP 157 5 [q0, q1, (0, l2), q3] [(0, s0), (2, s1)] ds m Q = (WP 157 6 [q0, q1, (0, l2), q3] [(0, l2), (0, s0), (2, s1)] ds m Q) := P_nx k157_5 rfl
set_option maxRecDepth 20000 in
theorem k157_6 : mjCode 157 6 = some (.iadd, 1, 0, 0) := by decide +kernel
theorem p157_6 {s0 s1 s2 : Int} {q0 q1 q2 q3 : MV} {ds : Ds} {m : Mm} {Q : Ds → Mm → List MV → Prop} : WP 157 6 [q0, q1, q2, q3] [(0, s0), (0, s1), (2, s2)] ds m Q = (WP 157 7 [q0, q1, q2, q3] [(0, w32 (s1 + s0)), (2, s2)] ds m Q) := P_nx k157_6 rfl
set_option maxRecDepth 20000 in
theorem k157_7 : mjCode 157 7 = some (.iload_n 1, 1, 0, 0) := by decide +kernel
theorem p157_7 {l1 s0 s1 : Int} {q0 q2 q3 : MV} {ds : Ds} {m : Mm} {Q : Ds → Mm → List MV → Prop} : WP 157 7 [q0, (0, l1), q2, q3] [(0, s0), (2, s1)] ds m Q = (WP 157 8 [q0, (0, l1), q2, q3] [(0, l1), (0, s0), (2, s1)] ds m Q) := P_nx k157_7 rfl
set_option maxRecDepth 20000 in
theorem k157_8 : mjCode 157 8 = some (.aload_n 0, 1, 0, 0) := by decide +kernel
theorem p157_8 {l0 s0 s1 s2 : Int} {q1 q2 q3 : MV} {ds : Ds} {m : Mm} {Q : Ds → Mm → List MV → Prop} : WP 157 8 [(2, l0), q1, q2, q3] [(0, s0), (0, s1), (2, s2)] ds m Q = (WP 157 9 [(2, l0), q1, q2, q3] [(2, l0), (0, s0), (0, s1), (2, s2)] ds m Q) := P_nx k157_8 rfl
set_option maxRecDepth 20000 in
theorem k157_9 : mjCode 157 9 = some (.getfield 16, 3, 7, 2) := by decide +kernel
theorem p157_9 {s0 s1 s2 s3 : Int} {q0 q1 q2 q3 : MV} {ds : Ds} {m : Mm} {Q : Ds → Mm → List MV → Prop} : WP 157 9 [q0, q1, q2, q3] [(2, s0), (0, s1), (0, s2), (2, s3)] ds m Q = ((dk ds s0 = 7 ∧ WP 157 12 [q0, q1, q2, q3] [(2, m s0 2), (0, s1), (0, s2), (2, s3)] ds m Q)) := P_gd k157_9 rfl
set_option maxRecDepth 20000 in
theorem k157_12 : mjCode 157 12 = some (.iload_n 1, 1, 0, 0) := by decide +kernel
theorem p157_12 {l1 s0 s1 s2 s3 : Int} {q0 q2 q3 : MV} {ds : Ds} {m : Mm} {Q : Ds → Mm → List MV → Prop} : WP 157 12 [q0, (0, l1), q2, q3] [(2, s0), (0, s1), (0, s2), (2, s3)] ds m Q = (WP 157 13 [q0, (0, l1), q2, q3] [(0, l1), (2, s0), (0, s1), (0, s2), (2, s3)] ds m Q) := P_nx k157_12 rfl
set_option maxRecDepth 20000 in
theorem k157_13 : mjCode 157 13 = some (.iaload, 1, 0, 0) := by decide +kernel
theorem p157_13 {s0 s1 s2 s3 s4 : Int} {q0 q1 q2 q3 : MV} {ds : Ds} {m : Mm} {Q : Ds → Mm → List MV → Prop} : WP 157 13 [q0, q1, q2, q3] [(0, s0), (2, s1), (0, s2), (0, s3), (2, s4)] ds m Q = ((dk ds s1 = 10 ∧ 0 ≤ s0 ∧ s0 < dl ds s1 ∧ WP 157 14 [q0, q1, q2, q3] [(0, m s1 s0), (0, s2), (0, s3), (2, s4)] ds m Q)) := P_g3 k157_13 rfl
set_option maxRecDepth 20000 in
theorem k157_14 : mjCode 157 14 = some (.invokestatic 216, 3, 124, 2) := by decide +kernel
theorem p157_14 {s0 s1 s2 s3 : Int} {q0 q1 q2 q3 : MV} {ds : Ds} {m : Mm} {Q : Ds → Mm → List MV → Prop} : WP 157 14 [q0, q1, q2, q3] [(0, s0), (0, s1), (0, s2), (2, s3)] ds m Q = (WP 123 0 [(0, s1), (0, s0), (3, 0), (3, 0)] [] ds m (fun d2 m2 r2 => WP 157 17 [q0, q1, q2, q3] (r2 ++ [(0, s2), (2, s3)]) d2 m2 Q)) := P_cs k157_14 mx123 rfl rfl rfl rfl rfl rfl rfl
set_option maxRecDepth 20000 in
theorem k157_17 : mjCode 157 17 = some (.aload_n 0, 1, 0, 0) := by decide +kernel
theorem p157_17 {l0 s0 s1 s2 : Int} {q1 q2 q3 : MV} {ds : Ds} {m : Mm} {Q : Ds → Mm → List MV → Prop} : WP 157 17 [(2, l0), q1, q2, q3] [(0, s0), (0, s1), (2, s2)] ds m Q = (WP 157 18 [(2, l0), q1, q2, q3] [(2, l0), (0, s0), (0, s1), (2, s2)] ds m Q) := P_nx k157_17 rfl
set_option maxRecDepth 20000 in
theorem k157_18 : mjCode 157 18 = some (.getfield 16, 3, 7, 2) := by decide +kernel
theorem p157_18 {s0 s1 s2 s3 : Int} {q0 q1 q2 q3 : MV} {ds : Ds} {m : Mm} {Q : Ds → Mm → List MV → Prop} : WP 157 18 [q0, q1, q2, q3] [(2, s0), (0, s1), (0, s2), (2, s3)] ds m Q = ((dk ds s0 = 7 ∧ WP 157 21 [q0, q1, q2, q3] [(2, m s0 2), (0, s1), (0, s2), (2, s3)] ds m Q)) := P_gd k157_18 rfl
set_option maxRecDepth 20000 in
theorem k157_21 : mjCode 157 21 = some (.iload_n 1, 1, 0, 0) := by decide +kernel
theorem p157_21 {l1 s0 s1 s2 s3 : Int} {q0 q2 q3 : MV} {ds : Ds} {m : Mm} {Q : Ds → Mm → List MV → Prop} : WP 157 21 [q0, (0, l1), q2, q3] [(2, s0), (0, s1), (0, s2), (2, s3)] ds m Q = (WP 157 22 [q0, (0, l1), q2, q3] [(0, l1), (2, s0), (0, s1), (0, s2), (2, s3)] ds m Q) := P_nx k157_21 rfl
set_option maxRecDepth 20000 in
theorem k157_22 : mjCode 157 22 = some (.iaload, 1, 0, 0) := by decide +kernel
theorem p157_22 {s0 s1 s2 s3 s4 : Int} {q0 q1 q2 q3 : MV} {ds : Ds} {m : Mm} {Q : Ds → Mm → List MV → Prop} : WP 157 22 [q0, q1, q2, q3] [(0, s0), (2, s1), (0, s2), (0, s3), (2, s4)] ds m Q = ((dk ds s1 = 10 ∧ 0 ≤ s0 ∧ s0 < dl ds s1 ∧ WP 157 23 [q0, q1, q2, q3] [(0, m s1 s0), (0, s2), (0, s3), (2, s4)] ds m Q)) := P_g3 k157_22 rfl
set_option maxRecDepth 20000 in
theorem k157_23 : mjCode 157 23 = some (.iconst 2, 1, 0, 0) := by decide +kernel
theorem p157_23 {s0 s1 s2 s3 : Int} {q0 q1 q2 q3 : MV} {ds : Ds} {m : Mm} {Q : Ds → Mm → List MV → Prop} : WP 157 23 [q0, q1, q2, q3] [(0, s0), (0, s1), (0, s2), (2, s3)] ds m Q = (WP 157 24 [q0, q1, q2, q3] [(0, 2), (0, s0), (0, s1), (0, s2), (2, s3)] ds m Q) := P_nx k157_23 rfl
set_option maxRecDepth 20000 in
theorem k157_24 : mjCode 157 24 = some (.iadd, 1, 0, 0) := by decide +kernel
theorem p157_24 {s0 s1 s2 s3 s4 : Int} {q0 q1 q2 q3 : MV} {ds : Ds} {m : Mm} {Q : Ds → Mm → List MV → Prop} : WP 157 24 [q0, q1, q2, q3] [(0, s0), (0, s1), (0, s2), (0, s3), (2, s4)] ds m Q = (WP 157 25 [q0, q1, q2, q3] [(0, w32 (s1 + s0)), (0, s2), (0, s3), (2, s4)] ds m Q) := P_nx k157_24 rfl
set_option maxRecDepth 20000 in
theorem k157_25 : mjCode 157 25 = some (.iconst 4, 1, 0, 0) := by decide +kernel
theorem p157_25 {s0 s1 s2 s3 : Int} {q0 q1 q2 q3 : MV} {ds : Ds} {m : Mm} {Q : Ds → Mm → List MV → Prop} : WP 157 25 [q0, q1, q2, q3] [(0, s0), (0, s1), (0, s2), (2, s3)] ds m Q = (WP 157 26 [q0, q1, q2, q3] [(0, 4), (0, s0), (0, s1), (0, s2), (2, s3)] ds m Q) := P_nx k157_25 rfl
set_option maxRecDepth 20000 in
theorem k157_26 : mjCode 157 26 = some (.irem, 1, 0, 0) := by decide +kernel
theorem p157_26 {s0 s1 s2 s3 s4 : Int} {q0 q1 q2 q3 : MV} {ds : Ds} {m : Mm} {Q : Ds → Mm → List MV → Prop} : WP 157 26 [q0, q1, q2, q3] [(0, s0), (0, s1), (0, s2), (0, s3), (2, s4)] ds m Q = ((¬ s0 = 0 ∧ WP 157 27 [q0, q1, q2, q3] [(0, jrem s1 s0), (0, s2), (0, s3), (2, s4)] ds m Q)) := P_dv k157_26 rfl
set_option maxRecDepth 20000 in
theorem k157_27 : mjCode 157 27 = some (.iload_n 3, 1, 0, 0) := by decide +kernel
theorem p157_27 {l3 s0 s1 s2 s3 : Int} {q0 q1 q2 : MV} {ds : Ds} {m : Mm} {Q : Ds → Mm → List MV → Prop} : WP 157 27 [q0, q1, q2, (0, l3)] [(0, s0), (0, s1), (0, s2), (2, s3)] ds m Q = (WP 157 28 [q0, q1, q2, (0, l3)] [(0, l3), (0, s0), (0, s1), (0, s2), (2, s3)] ds m Q) := P_nx k157_27 rfl
set_option maxRecDepth 20000 in
theorem k157_28 : mjCode 157 28 = some (.iconst 0, 1, 0, 0) := by decide +kernel
theorem p157_28 {s0 s1 s2 s3 s4 : Int} {q0 q1 q2 q3 : MV} {ds : Ds} {m : Mm} {Q : Ds → Mm → List MV → Prop} : WP 157 28 [q0, q1, q2, q3] [(0, s0), (0, s1), (0, s2), (0, s3), (2, s4)] ds m Q = (WP 157 29 [q0, q1, q2, q3] [(0, 0), (0, s0), (0, s1), (0, s2), (0, s3), (2, s4)] ds m Q) := P_nx k157_28 rfl
set_option maxRecDepth 20000 in
theorem k157_29 : mjCode 157 29 = some (.invokevirtual 219, 3, 156, 6) := by decide +kernel
theorem p157_29 {s0 s1 s2 s3 s4 s5 : Int} {q0 q1 q2 q3 : MV} {ds : Ds} {m : Mm} {Q : Ds → Mm → List MV → Prop} : WP 157 29 [q0, q1, q2, q3] [(0, s0), (0, s1), (0, s2), (0, s3), (0, s4), (2, s5)] ds m Q = ((dk ds s5 = 7 ∧ WP 155 0 [(2, s5), (0, s4), (0, s3), (0, s2), (0, s1), (0, s0)] [] ds m (fun d2 m2 r2 => WP 157 32 [q0, q1, q2, q3] (r2 ++ []) d2 m2 Q))) := P_cv k157_29 mx155 mo155 rfl rfl rfl rfl rfl rfl rfl rfl
set_option maxRecDepth 20000 in
theorem k157_32 : mjCode 157 32 = some (.return_, 1, 0, 0) := by decide +kernel
theorem p157_32 {q0 q1 q2 q3 : MV} {ds : Ds} {m : Mm} {Q : Ds → Mm → List MV → Prop} : WP 157 32 [q0, q1, q2, q3] [] ds m Q = (Q ds m []) := P_rv k157_32 rk157
set_option maxRecDepth 20000 in
theorem k158_0 : mjCode 158 0 = some (.aload_n 0, 1, 0, 0) := by decide +kernel
theorem p158_0 {l0 : Int} {q1 q2 q3 q4 q5 q6 q7 : MV} {ds : Ds} {m : Mm} {Q : Ds → Mm → List MV → Prop} : WP 158 0 [(2, l0), q1, q2, q3, q4, q5, q6, q7] [] ds m Q = (WP 158 1 [(2, l0), q1, q2, q3, q4, q5, q6, q7] [(2, l0)] ds m Q) := P_nx k158_0 rfl
set_option maxRecDepth 20000 in
theorem k158_1 : mjCode 158 1 = some (.getfield 102, 3, 7, 36) := by decide +kernel
theorem p158_1 {s0 : Int} {q0 q1 q2 q3 q4 q5 q6 q7 : MV} {ds : Ds} {m : Mm} {Q : Ds → Mm → List MV → Prop} : WP 158 1 [q0, q1, q2, q3, q4, q5, q6, q7] [(2, s0)] ds m Q = ((dk ds s0 = 7 ∧ WP 158 4 [q0, q1, q2, q3, q4, q5, q6, q7] [(2, m s0 36)] ds m Q)) := P_gd k158_1 rfl
set_option maxRecDepth 20000 in
theorem k158_4 : mjCode 158 4 = some (.bipush 6, 2, 0, 0) := by decide +kernel
theorem p158_4 {s0 : Int} {q0 q1 q2 q3 q4 q5 q6 q7 : MV} {ds : Ds} {m : Mm} {Q : Ds → Mm → List MV → Prop} : WP 158 4 [q0, q1, q2, q3, q4, q5, q6, q7] [(2, s0)] ds m Q = (WP 158 6 [q0, q1, q2, q3, q4, q5, q6, q7] [(0, 6), (2, s0)] ds m Q) := P_nx k158_4 rfl
set_option maxRecDepth 20000 in
theorem k158_6 : mjCode 158 6 = some (.aload_n 0, 1, 0, 0) := by decide +kernel
theorem p158_6 {l0 s0 s1 : Int} {q1 q2 q3 q4 q5 q6 q7 : MV} {ds : Ds} {m : Mm} {Q : Ds → Mm → List MV → Prop} : WP 158 6 [(2, l0), q1, q2, q3, q4, q5, q6, q7] [(0, s0), (2, s1)] ds m Q = (WP 158 7 [(2, l0), q1, q2, q3, q4, q5, q6, q7] [(2, l0), (0, s0), (2, s1)] ds m Q) := P_nx k158_6 rfl
set_option maxRecDepth 20000 in
theorem k158_7 : mjCode 158 7 = some (.getfield 222, 3, 7, 45) := by decide +kernel
theorem p158_7 {s0 s1 s2 : Int} {q0 q1 q2 q3 q4 q5 q6 q7 : MV} {ds : Ds} {m : Mm} {Q : Ds → Mm → List MV → Prop} : WP 158 7 [q0, q1, q2, q3, q4, q5, q6, q7] [(2, s0), (0, s1), (2, s2)] ds m Q = ((dk ds s0 = 7 ∧ WP 158 10 [q0, q1, q2, q3, q4, q5, q6, q7] [(0, m s0 45), (0, s1), (2, s2)] ds m Q)) := P_gd k158_7 rfl
set_option maxRecDepth 20000 in
theorem k158_10 : mjCode 158 10 = some (.imul, 1, 0, 0) := by decide +kernel
theorem p158_10 {s0 s1 s2 : Int} {q0 q1 q2 q3 q4 q5 q6 q7 : MV} {ds : Ds} {m : Mm} {Q : Ds → Mm → List MV → Prop} : WP 158 10 [q0, q1, q2, q3, q4, q5, q6, q7] [(0, s0), (0, s1), (2, s2)] ds m Q = (WP 158 11 [q0, q1, q2, q3, q4, q5, q6, q7] [(0, w32 (s1 * s0)), (2, s2)] ds m Q) := P_nx k158_10 rfl
set_option maxRecDepth 20000 in
theorem k158_11 : mjCode 158 11 = some (.iconst 2, 1, 0, 0) := by decide +kernel
theorem p158_11 {s0 s1 : Int} {q0 q1 q2 q3 q4 q5 q6 q7 : MV} {ds : Ds} {m : Mm} {Q : Ds → Mm → List MV → Prop} : WP 158 11 [q0, q1, q2, q3, q4, q5, q6, q7] [(0, s0), (2, s1)] ds m Q = (WP 158 12 [q0, q1, q2, q3, q4, q5, q6, q7] [(0, 2), (0, s0), (2, s1)] ds m Q) := P_nx k158_11 rfl
set_option maxRecDepth 20000 in
theorem k158_12 : mjCode 158 12 = some (.iadd, 1, 0, 0) := by decide +kernel
theorem p158_12 {s0 s1 s2 : Int} {q0 q1 q2 q3 q4 q5 q6 q7 : MV} {ds : Ds} {m : Mm} {Q : Ds → Mm → List MV → Prop} : WP 158 12 [q0, q1, q2, q3, q4, q5, q6, q7] [(0, s0), (0, s1), (2, s2)] ds m Q = (WP 158 13 [q0, q1, q2, q3, q4, q5, q6, q7] [(0, w32 (s1 + s0)), (2, s2)] ds m Q) := P_nx k158_12 rfl
set_option maxRecDepth 20000 in
theorem k158_13 : mjCode 158 13 = some (.iaload, 1, 0, 0) := by decide +kernel
theorem p158_13 {s0 s1 : Int} {q0 q1 q2 q3 q4 q5 q6 q7 : MV} {ds : Ds} {m : Mm} {Q : Ds → Mm → List MV → Prop} : WP 158 13 [q0, q1, q2, q3, q4, q5, q6, q7] [(0, s0), (2, s1)] ds m Q = ((dk ds s1 = 10 ∧ 0 ≤ s0 ∧ s0 < dl ds s1 ∧ WP 158 14 [q0, q1, q2, q3, q4, q5, q6, q7] [(0, m s1 s0)] ds m Q)) := P_g3 k158_13 rfl
set_option maxRecDepth 20000 in
theorem k158_14 : mjCode 158 14 = some (.istore 5, 2, 0, 0) := by decide +kernel
theorem p158_14 {l4 s0 : Int} {q0 q1 q2 q3 q5 q6 q7 : MV} {ds : Ds} {m : Mm} {Q : Ds → Mm → List MV → Prop} : WP 158 14 [q0, q1, q2, q3, (0, l4), q5, q6, q7] [(0, s0)] ds m Q = (WP 158 16 [q0, q1, q2, q3, (0, l4), (0, s0), q6, q7] [] ds m Q) := P_nx k158_14 rfl
set_option maxRecDepth 20000 in
theorem k158_16 : mjCode 158 16 = some (.sipush 6000, 3, 0, 0) := by decide +kernel
theorem p158_16 {q0 q1 q2 q3 q4 q5 q6 q7 : MV} {ds : Ds} {m : Mm} {Q : Ds → Mm → List MV → Prop} : WP 158 16 [q0, q1, q2, q3, q4, q5, q6, q7] [] ds m Q = (WP 158 19 [q0, q1, q2, q3, q4, q5, q6, q7] [(0, 6000)] ds m Q) := P_nx k158_16 rfl
set_option maxRecDepth 20000 in
theorem k158_19 : mjCode 158 19 = some (.aload_n 0, 1, 0, 0) := by decide +kernel
theorem p158_19 {l0 s0 : Int} {q1 q2 q3 q4 q5 q6 q7 : MV} {ds : Ds} {m : Mm} {Q : Ds → Mm → List MV → Prop} : WP 158 19 [(2, l0), q1, q2, q3, q4, q5, q6, q7] [(0, s0)] ds m Q = (WP 158 20 [(2, l0), q1, q2, q3, q4, q5, q6, q7] [(2, l0), (0, s0)] ds m Q) := P_nx k158_19 rfl
set_option maxRecDepth 20000 in
theorem k158_20 : mjCode 158 20 = some (.getfield 222, 3, 7, 45) := by decide +kernel
theorem p158_20 {s0 s1 : Int} {q0 q1 q2 q3 q4 q5 q6 q7 : MV} {ds : Ds} {m : Mm} {Q : Ds → Mm → List MV → Prop} : WP 158 20 [q0, q1, q2, q3, q4, q5, q6, q7] [(2, s0), (0, s1)] ds m Q = ((dk ds s0 = 7 ∧ WP 158 23 [q0, q1, q2, q3, q4, q5, q6, q7] [(0, m s0 45), (0, s1)] ds m Q)) := P_gd k158_20 rfl
set_option maxRecDepth 20000 in
theorem k158_23 : mjCode 158 23 = some (.imul, 1, 0, 0) := by decide +kernel
theorem p158_23 {s0 s1 : Int} {q0 q1 q2 q3 q4 q5 q6 q7 : MV} {ds : Ds} {m : Mm} {Q : Ds → Mm → List MV → Prop} : WP 158 23 [q0, q1, q2, q3, q4, q5, q6, q7] [(0, s0), (0, s1)] ds m Q = (WP 158 24 [q0, q1, q2, q3, q4, q5, q6, q7] [(0, w32 (s1 * s0))] ds m Q) := P_nx k158_23 rfl
set_option maxRecDepth 20000 in
theorem k158_24 : mjCode 158 24 = some (.bipush 6, 2, 0, 0) := by decide +kernel
theorem p158_24 {s0 : Int} {q0 q1 q2 q3 q4 q5 q6 q7 : MV} {ds : Ds} {m : Mm} {Q : Ds → Mm → List MV → Prop} : WP 158 24 [q0, q1, q2, q3, q4, q5, q6, q7] [(0, s0)] ds m Q = (WP 158 26 [q0, q1, q2, q3, q4, q5, q6, q7] [(0, 6), (0, s0)] ds m Q) := P_nx k158_24 rfl
set_option maxRecDepth 20000 in
theorem k158_26 : mjCode 158 26 = some (.iload 5, 2, 0, 0) := by decide +kernel
theorem p158_26 {l5 s0 s1 : Int} {q0 q1 q2 q3 q4 q6 q7 : MV} {ds : Ds} {m : Mm} {Q : Ds → Mm → List MV → Prop} : WP 158 26 [q0, q1, q2, q3, q4, (0, l5), q6, q7] [(0, s0), (0, s1)] ds m Q = (WP 158 28 [q0, q1, q2, q3, q4, (0, l5), q6, q7] [(0, l5), (0, s0), (0, s1)] ds m Q) := P_nx k158_26 rfl
set_option maxRecDepth 20000 in
theorem k158_28 : mjCode 158 28 = some (.imul, 1, 0, 0) := by decide +kernel
theorem p158_28 {s0 s1 s2 : Int} {q0 q1 q2 q3 q4 q5 q6 q7 : MV} {ds : Ds} {m : Mm} {Q : Ds → Mm → List MV → Prop} : WP 158 28 [q0, q1, q2, q3, q4, q5, q6, q7] [(0, s0), (0, s1), (0, s2)] ds m Q = (WP 158 29 [q0, q1, q2, q3, q4, q5, q6, q7] [(0, w32 (s1 * s0)), (0, s2)] ds m Q) := P_nx k158_28 rfl
set_option maxRecDepth 20000 in
theorem k158_29 : mjCode 158 29 = some (.iadd, 1, 0, 0) := by decide +kernel
theorem p158_29 {s0 s1 : Int} {q0 q1 q2 q3 q4 q5 q6 q7 : MV} {ds : Ds} {m : Mm} {Q : Ds → Mm → List MV → Prop} : WP 158 29 [q0, q1, q2, q3, q4, q5, q6, q7] [(0, s0), (0, s1)] ds m Q = (WP 158 30 [q0, q1, q2, q3, q4, q5, q6, q7] [(0, w32 (s1 + s0))] ds m Q) := P_nx k158_29 rfl
set_option maxRecDepth 20000 in
theorem k158_30 : mjCode 158 30 = some (.istore 6, 2, 0, 0) := by decide +kernel
theorem p158_30 {l5 s0 : Int} {q0 q1 q2 q3 q4 q6 q7 : MV} {ds : Ds} {m : Mm} {Q : Ds → Mm → List MV → Prop} : WP 158 30 [q0, q1, q2, q3, q4, (0, l5), q6, q7] [(0, s0)] ds m Q = (WP 158 32 [q0, q1, q2, q3, q4, (0, l5), (0, s0), q7] [] ds m Q) := P_nx k158_30 rfl
set_option maxRecDepth 20000 in
theorem k158_32 : mjCode 158 32 = some (.aload_n 0, 1, 0, 0) := by decide +kernel
theorem p158_32 {l0 : Int} {q1 q2 q3 q4 q5 q6 q7 : MV} {ds : Ds} {m : Mm} {Q : Ds → Mm → List MV → Prop} : WP 158 32 [(2, l0), q1, q2, q3, q4, q5, q6, q7] [] ds m Q = (WP 158 33 [(2, l0), q1, q2, q3, q4, q5, q6, q7] [(2, l0)] ds m Q) := P_nx k158_32 rfl
set_option maxRecDepth 20000 in
theorem k158_33 : mjCode 158 33 = some (.iload_n 1, 1, 0, 0) := by decide +kernel
theorem p158_33 {l1 s0 : Int} {q0 q2 q3 q4 q5 q6 q7 : MV} {ds : Ds} {m : Mm} {Q : Ds → Mm → List MV → Prop} : WP 158 33 [q0, (0, l1), q2, q3, q4, q5, q6, q7] [(2, s0)] ds m Q = (WP 158 34 [q0, (0, l1), q2, q3, q4, q5, q6, q7] [(0, l1), (2, s0)] ds m Q) := P_nx k158_33 rfl
set_option maxRecDepth 20000 in
theorem k158_34 : mjCode 158 34 = some (.invokevirtual 225, 3, 157, 2) := by decide +kernel
theorem p158_34 {s0 s1 : Int} {q0 q1 q2 q3 q4 q5 q6 q7 : MV} {ds : Ds} {m : Mm} {Q : Ds → Mm → List MV → Prop} : WP 158 34 [q0, q1, q2, q3, q4, q5, q6, q7] [(0, s0), (2, s1)] ds m Q = ((dk ds s1 = 7 ∧ WP 156 0 [(2, s1), (0, s0)] [] ds m (fun d2 m2 r2 => WP 158 37 [q0, q1, q2, q3, q4, q5, q6, q7] (r2 ++ []) d2 m2 Q))) := P_cv k158_34 mx156 mo156 rfl rfl rfl rfl rfl rfl rfl rfl
set_option maxRecDepth 20000 in
theorem k158_37 : mjCode 158 37 = some (.ifCond .ne 7, 3, 44, 0) := by decide +kernel
theorem p158_37 {s0 : Int} {q0 q1 q2 q3 q4 q5 q6 q7 : MV} {ds : Ds} {m : Mm} {Q : Ds → Mm → List MV → Prop} : WP 158 37 [q0, q1, q2, q3, q4, q5, q6, q7] [(0, s0)] ds m Q = (if s0 = 0 then WP 158 40 [q0, q1, q2, q3, q4, q5, q6, q7] [] ds m Q else WP 158 44 [q0, q1, q2, q3, q4, q5, q6, q7] [] ds m Q) := P_if k158_37 rfl
set_option maxRecDepth 20000 in
theorem k158_40 : mjCode 158 40 = some (.iconst 1, 1, 0, 0) := by decide +kernel
theorem p158_40 {q0 q1 q2 q3 q4 q5 q6 q7 : MV} {ds : Ds} {m : Mm} {Q : Ds → Mm → List MV → Prop} : WP 158 40 [q0, q1, q2, q3, q4, q5, q6, q7] [] ds m Q = (WP 158 41 [q0, q1, q2, q3, q4, q5, q6, q7] [(0, 1)] ds m Q) := P_nx k158_40 rfl
set_option maxRecDepth 20000 in
theorem k158_41 : mjCode 158 41 = some (.goto 4, 3, 45, 0) := by decide +kernel
theorem p158_41 {s0 : Int} {q0 q1 q2 q3 q4 q5 q6 q7 : MV} {ds : Ds} {m : Mm} {Q : Ds → Mm → List MV → Prop} : WP 158 41 [q0, q1, q2, q3, q4, q5, q6, q7] [(0, s0)] ds m Q = (WP 158 45 [q0, q1, q2, q3, q4, q5, q6, q7] [(0, s0)] ds m Q) := P_nx k158_41 rfl
set_option maxRecDepth 20000 in
theorem k158_44 : mjCode 158 44 = some (.iconst 0, 1, 0, 0) := by decide +kernel
theorem p158_44 {q0 q1 q2 q3 q4 q5 q6 q7 : MV} {ds : Ds} {m : Mm} {Q : Ds → Mm → List MV → Prop} : WP 158 44 [q0, q1, q2, q3, q4, q5, q6, q7] [] ds m Q = (WP 158 45 [q0, q1, q2, q3, q4, q5, q6, q7] [(0, 0)] ds m Q) := P_nx k158_44 rfl
set_option maxRecDepth 20000 in
theorem k158_45 : mjCode 158 45 = some (.istore 7, 2, 0, 0) := by decide +kernel
theorem p158_45 {l6 s0 : Int} {q0 q1 q2 q3 q4 q5 q7 : MV} {ds : Ds} {m : Mm} {Q : Ds → Mm → List MV → Prop} : WP 158 45 [q0, q1, q2, q3, q4, q5, (0, l6), q7] [(0, s0)] ds m Q = (WP 158 47 [q0, q1, q2, q3, q4, q5, (0, l6), (0, s0)] [] ds m Q) := P_nx k158_45 rfl
set_option maxRecDepth 20000 in
theorem k158_47 : mjCode 158 47 = some (.aload_n 0, 1, 0, 0) := by decide +kernel
theorem p158_47 {l0 : Int} {q1 q2 q3 q4 q5 q6 q7 : MV} {ds : Ds} {m : Mm} {Q : Ds → Mm → List MV → Prop} : WP 158 47 [(2, l0), q1, q2, q3, q4, q5, q6, q7] [] ds m Q = (WP 158 48 [(2, l0), q1, q2, q3, q4, q5, q6, q7] [(2, l0)] ds m Q) := P_nx k158_47 rfl
set_option maxRecDepth 20000 in
theorem k158_48 : mjCode 158 48 = some (.getfield 105, 3, 7, 37) := by decide +kernel
theorem p158_48 {s0 : Int} {q0 q1 q2 q3 q4 q5 q6 q7 : MV} {ds : Ds} {m : Mm} {Q : Ds → Mm → List MV → Prop} : WP 158 48 [q0, q1, q2, q3, q4, q5, q6, q7] [(2, s0)] ds m Q = ((dk ds s0 = 7 ∧ WP 158 51 [q0, q1, q2, q3, q4, q5, q6, q7] [(2, m s0 37)] ds m Q)) := P_gd k158_48 rfl
set_option maxRecDepth 20000 in
theorem k158_51 : mjCode 158 51 = some (.iload 6, 2, 0, 0) := by decide +kernel
theorem p158_51 {l6 s0 : Int} {q0 q1 q2 q3 q4 q5 q7 : MV} {ds : Ds} {m : Mm} {Q : Ds → Mm → List MV → Prop} : WP 158 51 [q0, q1, q2, q3, q4, q5, (0, l6), q7] [(2, s0)] ds m Q = (WP 158 53 [q0, q1, q2, q3, q4, q5, (0, l6), q7] [(0, l6), (2, s0)] ds m Q) := P_nx k158_51 rfl
set_option maxRecDepth 20000 in
theorem k158_53 : mjCode 158 53 = some (.aload_n 0, 1, 0, 0) := by decide +kernel
theorem p158_53 {l0 s0 s1 : Int} {q1 q2 q3 q4 q5 q6 q7 : MV} {ds : Ds} {m : Mm} {Q : Ds → Mm → List MV → Prop} : WP 158 53 [(2, l0), q1, q2, q3, q4, q5, q6, q7] [(0, s0), (2, s1)] ds m Q = (WP 158 54 [(2, l0), q1, q2, q3, q4, q5, q6, q7] [(2, l0), (0, s0), (2, s1)] ds m Q) := P_nx k158_53 rfl
set_option maxRecDepth 20000 in
theorem k158_54 : mjCode 158 54 = some (.getfield 213, 3, 7, 26) := by decide +kernel
theorem p158_54 {s0 s1 s2 : Int} {q0 q1 q2 q3 q4 q5 q6 q7 : MV} {ds : Ds} {m : Mm} {Q : Ds → Mm → List MV → Prop} : WP 158 54 [q0, q1, q2, q3, q4, q5, q6, q7] [(2, s0), (0, s1), (2, s2)] ds m Q = ((dk ds s0 = 7 ∧ WP 158 57 [q0, q1, q2, q3, q4, q5, q6, q7] [(0, m s0 26), (0, s1), (2, s2)] ds m Q)) := P_gd k158_54 rfl
set_option maxRecDepth 20000 in
theorem k158_57 : mjCode 158 57 = some (.iastore, 1, 0, 0) := by decide +kernel
theorem p158_57 {s0 s1 s2 : Int} {q0 q1 q2 q3 q4 q5 q6 q7 : MV} {ds : Ds} {m : Mm} {Q : Ds → Mm → List MV → Prop} : WP 158 57 [q0, q1, q2, q3, q4, q5, q6, q7] [(0, s0), (0, s1), (2, s2)] ds m Q = ((dk ds s2 = 10 ∧ 0 ≤ s1 ∧ s1 < dl ds s2 ∧ WP 158 58 [q0, q1, q2, q3, q4, q5, q6, q7] [] ds (up m s2 s1 s0) Q)) := P_s3 k158_57 rfl
set_option maxRecDepth 20000 in
theorem k158_58 : mjCode 158 58 = some (.aload_n 0, 1, 0, 0) := by decide +kernel
theorem p158_58 {l0 : Int} {q1 q2 q3 q4 q5 q6 q7 : MV} {ds : Ds} {m : Mm} {Q : Ds → Mm → List MV → Prop} : WP 158 58 [(2, l0), q1, q2, q3, q4, q5, q6, q7] [] ds m Q = (WP 158 59 [(2, l0), q1, q2, q3, q4, q5, q6, q7] [(2, l0)] ds m Q) := P_nx k158_58 rfl
set_option maxRecDepth 20000 in
theorem k158_59 : mjCode 158 59 = some (.getfield 105, 3, 7, 37) := by decide +kernel
theorem p158_59 {s0 : Int} {q0 q1 q2 q3 q4 q5 q6 q7 : MV} {ds : Ds} {m : Mm} {Q : Ds → Mm → List MV → Prop} : WP 158 59 [q0, q1, q2, q3, q4, q5, q6, q7] [(2, s0)] ds m Q = ((dk ds s0 = 7 ∧ WP 158 62 [q0, q1, q2, q3, q4, q5, q6, q7] [(2, m s0 37)] ds m Q)) := P_gd k158_59 rfl
set_option maxRecDepth 20000 in
theorem k158_62 : mjCode 158 62 = some (.iload 6, 2, 0, 0) := by decide +kernel
theorem p158_62 {l6 s0 : Int} {q0 q1 q2 q3 q4 q5 q7 : MV} {ds : Ds} {m : Mm} {Q : Ds → Mm → List MV → Prop} : WP 158 62 [q0, q1, q2, q3, q4, q5, (0, l6), q7] [(2, s0)] ds m Q = (WP 158 64 [q0, q1, q2, q3, q4, q5, (0, l6), q7] [(0, l6), (2, s0)] ds m Q) := P_nx k158_62 rfl
set_option maxRecDepth 20000 in
theorem k158_64 : mjCode 158 64 = some (.iconst 1, 1, 0, 0) := by decide +kernel
theorem p158_64 {s0 s1 : Int} {q0 q1 q2 q3 q4 q5 q6 q7 : MV} {ds : Ds} {m : Mm} {Q : Ds → Mm → List MV → Prop} : WP 158 64 [q0, q1, q2, q3, q4, q5, q6, q7] [(0, s0), (2, s1)] ds m Q = (WP 158 65 [q0, q1, q2, q3, q4, q5, q6, q7] [(0, 1), (0, s0), (2, s1)] ds m Q) := P_nx k158_64 rfl
set_option maxRecDepth 20000 in
theorem k158_65 : mjCode 158 65 = some (.iadd, 1, 0, 0) := by decide +kernel
theorem p158_65 {s0 s1 s2 : Int} {q0 q1 q2 q3 q4 q5 q6 q7 : MV} {ds : Ds} {m : Mm} {Q : Ds → Mm → List MV → Prop} : WP 158 65 [q0, q1, q2, q3, q4, q5, q6, q7] [(0, s0), (0, s1), (2, s2)] ds m Q = (WP 158 66 [q0, q1, q2, q3, q4, q5, q6, q7] [(0, w32 (s1 + s0)), (2, s2)] ds m Q) := P_nx k158_65 rfl
set_option maxRecDepth 20000 in
theorem k158_66 : mjCode 158 66 = some (.iload_n 1, 1, 0, 0) := by decide +kernel
theorem p158_66 {l1 s0 s1 : Int} {q0 q2 q3 q4 q5 q6 q7 : MV} {ds : Ds} {m : Mm} {Q : Ds → Mm → List MV → Prop} : WP 158 66 [q0, (0, l1), q2, q3, q4, q5, q6, q7] [(0, s0), (2, s1)] ds m Q = (WP 158 67 [q0, (0, l1), q2, q3, q4, q5, q6, q7] [(0, l1), (0, s0), (2, s1)] ds m Q) := P_nx k158_66 rfl
set_option maxRecDepth 20000 in
theorem k158_67 : mjCode 158 67 = some (.iastore, 1, 0, 0) := by decide +kernel
theorem p158_67 {s0 s1 s2 : Int} {q0 q1 q2 q3 q4 q5 q6 q7 : MV} {ds : Ds} {m : Mm} {Q : Ds → Mm → List MV → Prop} : WP 158 67 [q0, q1, q2, q3, q4, q5, q6, q7] [(0, s0), (0, s1), (2, s2)] ds m Q = ((dk ds s2 = 10 ∧ 0 ≤ s1 ∧ s1 < dl ds s2 ∧ WP 158 68 [q0, q1, q2, q3, q4, q5, q6, q7] [] ds (up m s2 s1 s0) Q)) := P_s3 k158_67 rfl
set_option maxRecDepth 20000 in
theorem k158_68 : mjCode 158 68 = some (.aload_n 0, 1, 0, 0) := by decide +kernel
theorem p158_68 {l0 : Int} {q1 q2 q3 q4 q5 q6 q7 : MV} {ds : Ds} {m : Mm} {Q : Ds → Mm → List MV → Prop} : WP 158 68 [(2, l0), q1, q2, q3, q4, q5, q6, q7] [] ds m Q = (WP 158 69 [(2, l0), q1, q2, q3, q4, q5, q6, q7] [(2, l0)] ds m Q) := P_nx k158_68 rfl
set_option maxRecDepth 20000 in
theorem k158_69 : mjCode 158 69 = some (.getfield 105, 3, 7, 37) := by decide +kernel
theorem p158_69 {s0 : Int} {q0 q1 q2 q3 q4 q5 q6 q7 : MV} {ds : Ds} {m : Mm} {Q : Ds → Mm → List MV → Prop} : WP 158 69 [q0, q1, q2, q3, q4, q5, q6, q7] [(2, s0)] ds m Q = ((dk ds s0 = 7 ∧ WP 158 72 [q0, q1, q2, q3, q4, q5, q6, q7] [(2, m s0 37)] ds m Q)) := P_gd k158_69 rfl
set_option maxRecDepth 20000 in
theorem k158_72 : mjCode 158 72 = some (.iload 6, 2, 0, 0) := by decide +kernel
theorem p158_72 {l6 s0 : Int} {q0 q1 q2 q3 q4 q5 q7 : MV} {ds : Ds} {m : Mm} {Q : Ds → Mm → List MV → Prop} : WP 158 72 [q0, q1, q2, q3, q4, q5, (0, l6), q7] [(2, s0)] ds m Q = (WP 158 74 [q0, q1, q2, q3, q4, q5, (0, l6), q7] [(0, l6), (2, s0)] ds m Q) := P_nx k158_72 rfl
set_option maxRecDepth 20000 in
theorem k158_74 : mjCode 158 74 = some (.iconst 2, 1, 0, 0) := by decide +kernel
theorem p158_74 {s0 s1 : Int} {q0 q1 q2 q3 q4 q5 q6 q7 : MV} {ds : Ds} {m : Mm} {Q : Ds → Mm → List MV → Prop} : WP 158 74 [q0, q1, q2, q3, q4, q5, q6, q7] [(0, s0), (2, s1)] ds m Q = (WP 158 75 [q0, q1, q2, q3, q4, q5, q6, q7] [(0, 2), (0, s0), (2, s1)] ds m Q) := P_nx k158_74 rfl
set_option maxRecDepth 20000 in
theorem k158_75 : mjCode 158 75 = some (.iadd, 1, 0, 0) := by decide +kernel
theorem p158_75 {s0 s1 s2 : Int} {q0 q1 q2 q3 q4 q5 q6 q7 : MV} {ds : Ds} {m : Mm} {Q : Ds → Mm → List MV → Prop} : WP 158 75 [q0, q1, q2, q3, q4, q5, q6, q7] [(0, s0), (0, s1), (2, s2)] ds m Q = (WP 158 76 [q0, q1, q2, q3, q4, q5, q6, q7] [(0, w32 (s1 + s0)), (2, s2)] ds m Q) := P_nx k158_75 rfl
set_option maxRecDepth 20000 in
theorem k158_76 : mjCode 158 76 = some (.iload_n 2, 1, 0, 0) := by decide +kernel
theorem p158_76 {l2 s0 s1 : Int} {q0 q1 q3 q4 q5 q6 q7 : MV} {ds : Ds} {m : Mm} {Q : Ds → Mm → List MV → Prop} : WP 158 76 [q0, q1, (0, l2), q3, q4, q5, q6, q7] [(0, s0), (2, s1)] ds m Q = (WP 158 77 [q0, q1, (0, l2), q3, q4, q5, q6, q7] [(0, l2), (0, s0), (2, s1)] ds m Q) := P_nx k158_76 rfl
set_option maxRecDepth 20000 in
theorem k158_77 : mjCode 158 77 = some (.iastore, 1, 0, 0) := by decide +kernel
theorem p158_77 {s0 s1 s2 : Int} {q0 q1 q2 q3 q4 q5 q6 q7 : MV} {ds : Ds} {m : Mm} {Q : Ds → Mm → List MV → Prop} : WP 158 77 [q0, q1, q2, q3, q4, q5, q6, q7] [(0, s0), (0, s1), (2, s2)] ds m Q = ((dk ds s2 = 10 ∧ 0 ≤ s1 ∧ s1 < dl ds s2 ∧ WP 158 78 [q0, q1, q2, q3, q4, q5, q6, q7] [] ds (up m s2 s1 s0) Q)) := P_s3 k158_77 rfl
set_option maxRecDepth 20000 in
theorem k158_78 : mjCode 158 78 = some (.aload_n 0, 1, 0, 0) := by decide +kernel
theorem p158_78 {l0 : Int} {q1 q2 q3 q4 q5 q6 q7 : MV} {ds : Ds} {m : Mm} {Q : Ds → Mm → List MV → Prop} : WP 158 78 [(2, l0), q1, q2, q3, q4, q5, q6, q7] [] ds m Q = (WP 158 79 [(2, l0), q1, q2, q3, q4, q5, q6, q7] [(2, l0)] ds m Q) := P_nx k158_78 rfl
set_option maxRecDepth 20000 in
theorem k158_79 : mjCode 158 79 = some (.getfield 105, 3, 7, 37) := by decide +kernel
theorem p158_79 {s0 : Int} {q0 q1 q2 q3 q4 q5 q6 q7 : MV} {ds : Ds} {m : Mm} {Q : Ds → Mm → List MV → Prop} : WP 158 79 [q0, q1, q2, q3, q4, q5, q6, q7] [(2, s0)] ds m Q = ((dk ds s0 = 7 ∧ WP 158 82 [q0, q1, q2, q3, q4, q5, q6, q7] [(2, m s0 37)] ds m Q)) := P_gd k158_79 rfl
set_option maxRecDepth 20000 in
theorem k158_82 : mjCode 158 82 = some (.iload 6, 2, 0, 0) := by decide +kernel
theorem p158_82 {l6 s0 : Int} {q0 q1 q2 q3 q4 q5 q7 : MV} {ds : Ds} {m : Mm} {Q : Ds → Mm → List MV → Prop} : WP 158 82 [q0, q1, q2, q3, q4, q5, (0, l6), q7] [(2, s0)] ds m Q = (WP 158 84 [q0, q1, q2, q3, q4, q5, (0, l6), q7] [(0, l6), (2, s0)] ds m Q) := P_nx k158_82 rfl
set_option maxRecDepth 20000 in
theorem k158_84 : mjCode 158 84 = some (.iconst 3, 1, 0, 0) := by decide +kernel
theorem p158_84 {s0 s1 : Int} {q0 q1 q2 q3 q4 q5 q6 q7 : MV} {ds : Ds} {m : Mm} {Q : Ds → Mm → List MV → Prop} : WP 158 84 [q0, q1, q2, q3, q4, q5, q6, q7] [(0, s0), (2, s1)] ds m Q = (WP 158 85 [q0, q1, q2, q3, q4, q5, q6, q7] [(0, 3), (0, s0), (2, s1)] ds m Q) := P_nx k158_84 rfl
set_option maxRecDepth 20000 in
theorem k158_85 : mjCode 158 85 = some (.iadd, 1, 0, 0) := by decide +kernel
theorem p158_85 {s0 s1 s2 : Int} {q0 q1 q2 q3 q4 q5 q6 q7 : MV} {ds : Ds} {m : Mm} {Q : Ds → Mm → List MV → Prop} : WP 158 85 [q0, q1, q2, q3, q4, q5, q6, q7] [(0, s0), (0, s1), (2, s2)] ds m Q = (WP 158 86 [q0, q1, q2, q3, q4, q5, q6, q7] [(0, w32 (s1 + s0)), (2, s2)] ds m Q) := P_nx k158_85 rfl
set_option maxRecDepth 20000 in
theorem k158_86 : mjCode 158 86 = some (.iload_n 3, 1, 0, 0) := by decide +kernel
theorem p158_86 {l3 s0 s1 : Int} {q0 q1 q2 q4 q5 q6 q7 : MV} {ds : Ds} {m : Mm} {Q : Ds → Mm → List MV → Prop} : WP 158 86 [q0, q1, q2, (0, l3), q4, q5, q6, q7] [(0, s0), (2, s1)] ds m Q = (WP 158 87 [q0, q1, q2, (0, l3), q4, q5, q6, q7] [(0, l3), (0, s0), (2, s1)] ds m Q) := P_nx k158_86 rfl
set_option maxRecDepth 20000 in
theorem k158_87 : mjCode 158 87 = some (.iastore, 1, 0, 0) := by decide +kernel
theorem p158_87 {s0 s1 s2 : Int} {q0 q1 q2 q3 q4 q5 q6 q7 : MV} {ds : Ds} {m : Mm} {Q : Ds → Mm → List MV → Prop} : WP 158 87 [q0, q1, q2, q3, q4, q5, q6, q7] [(0, s0), (0, s1), (2, s2)] ds m Q = ((dk ds s2 = 10 ∧ 0 ≤ s1 ∧ s1 < dl ds s2 ∧ WP 158 88 [q0, q1, q2, q3, q4, q5, q6, q7] [] ds (up m s2 s1 s0) Q)) := P_s3 k158_87 rfl
set_option maxRecDepth 20000 in
theorem k158_88 : mjCode 158 88 = some (.aload_n 0, 1, 0, 0) := by decide +kernel
theorem p158_88 {l0 : Int} {q1 q2 q3 q4 q5 q6 q7 : MV} {ds : Ds} {m : Mm} {Q : Ds → Mm → List MV → Prop} : WP 158 88 [(2, l0), q1, q2, q3, q4, q5, q6, q7] [] ds m Q = (WP 158 89 [(2, l0), q1, q2, q3, q4, q5, q6, q7] [(2, l0)] ds m Q) := P_nx k158_88 rfl
set_option maxRecDepth 20000 in
theorem k158_89 : mjCode 158 89 = some (.getfield 105, 3, 7, 37) := by decide +kernel
theorem p158_89 {s0 : Int} {q0 q1 q2 q3 q4 q5 q6 q7 : MV} {ds : Ds} {m : Mm} {Q : Ds → Mm → List MV → Prop} : WP 158 89 [q0, q1, q2, q3, q4, q5, q6, q7] [(2, s0)] ds m Q = ((dk ds s0 = 7 ∧ WP 158 92 [q0, q1, q2, q3, q4, q5, q6, q7] [(2, m s0 37)] ds m Q)) := P_gd k158_89 rfl
set_option maxRecDepth 20000 in
theorem k158_92 : mjCode 158 92 = some (.iload 6, 2, 0, 0) := by decide +kernel
theorem p158_92 {l6 s0 : Int} {q0 q1 q2 q3 q4 q5 q7 : MV} {ds : Ds} {m : Mm} {Q : Ds → Mm → List MV → Prop} : WP 158 92 [q0, q1, q2, q3, q4, q5, (0, l6), q7] [(2, s0)] ds m Q = (WP 158 94 [q0, q1, q2, q3, q4, q5, (0, l6), q7] [(0, l6), (2, s0)] ds m Q) := P_nx k158_92 rfl
set_option maxRecDepth 20000 in
theorem k158_94 : mjCode 158 94 = some (.iconst 4, 1, 0, 0) := by decide +kernel
theorem p158_94 {s0 s1 : Int} {q0 q1 q2 q3 q4 q5 q6 q7 : MV} {ds : Ds} {m : Mm} {Q : Ds → Mm → List MV → Prop} : WP 158 94 [q0, q1, q2, q3, q4, q5, q6, q7] [(0, s0), (2, s1)] ds m Q = (WP 158 95 [q0, q1, q2, q3, q4, q5, q6, q7] [(0, 4), (0, s0), (2, s1)] ds m Q) := P_nx k158_94 rfl
set_option maxRecDepth 20000 in
theorem k158_95 : mjCode 158 95 = some (.iadd, 1, 0, 0) := by decide +kernel
theorem p158_95 {s0 s1 s2 : Int} {q0 q1 q2 q3 q4 q5 q6 q7 : MV} {ds : Ds} {m : Mm} {Q : Ds → Mm → List MV → Prop} : WP 158 95 [q0, q1, q2, q3, q4, q5, q6, q7] [(0, s0), (0, s1), (2, s2)] ds m Q = (WP 158 96 [q0, q1, q2, q3, q4, q5, q6, q7] [(0, w32 (s1 + s0)), (2, s2)] ds m Q) := P_nx k158_95 rfl
set_option maxRecDepth 20000 in
theorem k158_96 : mjCode 158 96 = some (.iload 7, 2, 0, 0) := by decide +kernel
theorem p158_96 {l7 s0 s1 : Int} {q0 q1 q2 q3 q4 q5 q6 : MV} {ds : Ds} {m : Mm} {Q : Ds → Mm → List MV → Prop} : WP 158 96 [q0, q1, q2, q3, q4, q5, q6, (0, l7)] [(0, s0), (2, s1)] ds m Q = (WP 158 98 [q0, q1, q2, q3, q4, q5, q6, (0, l7)] [(0, l7), (0, s0), (2, s1)] ds m Q) := P_nx k158_96 rfl
set_option maxRecDepth 20000 in
theorem k158_98 : mjCode 158 98 = some (.ifCond .eq 7, 3, 105, 0) := by decide +kernel
theorem p158_98 {s0 s1 s2 : Int} {q0 q1 q2 q3 q4 q5 q6 q7 : MV} {ds : Ds} {m : Mm} {Q : Ds → Mm → List MV → Prop} : WP 158 98 [q0, q1, q2, q3, q4, q5, q6, q7] [(0, s0), (0, s1), (2, s2)] ds m Q = (if s0 = 0 then WP 158 105 [q0, q1, q2, q3, q4, q5, q6, q7] [(0, s1), (2, s2)] ds m Q else WP 158 101 [q0, q1, q2, q3, q4, q5, q6, q7] [(0, s1), (2, s2)] ds m Q) := P_if k158_98 rfl
set_option maxRecDepth 20000 in
theorem k158_101 : mjCode 158 101 = some (.iconst 1, 1, 0, 0) := by decide +kernel
theorem p158_101 {s0 s1 : Int} {q0 q1 q2 q3 q4 q5 q6 q7 : MV} {ds : Ds} {m : Mm} {Q : Ds → Mm → List MV → Prop} : WP 158 101 [q0, q1, q2, q3, q4, q5, q6, q7] [(0, s0), (2, s1)] ds m Q = (WP 158 102 [q0, q1, q2, q3, q4, q5, q6, q7] [(0, 1), (0, s0), (2, s1)] ds m Q) := P_nx k158_101 rfl
set_option maxRecDepth 20000 in
theorem k158_102 : mjCode 158 102 = some (.goto 4, 3, 106, 0) := by decide +kernel
theorem p158_102 {s0 s1 s2 : Int} {q0 q1 q2 q3 q4 q5 q6 q7 : MV} {ds : Ds} {m : Mm} {Q : Ds → Mm → List MV → Prop} : WP 158 102 [q0, q1, q2, q3, q4, q5, q6, q7] [(0, s0), (0, s1), (2, s2)] ds m Q = (WP 158 106 [q0, q1, q2, q3, q4, q5, q6, q7] [(0, s0), (0, s1), (2, s2)] ds m Q) := P_nx k158_102 rfl
set_option maxRecDepth 20000 in
theorem k158_105 : mjCode 158 105 = some (.iconst 0, 1, 0, 0) := by decide +kernel
theorem p158_105 {s0 s1 : Int} {q0 q1 q2 q3 q4 q5 q6 q7 : MV} {ds : Ds} {m : Mm} {Q : Ds → Mm → List MV → Prop} : WP 158 105 [q0, q1, q2, q3, q4, q5, q6, q7] [(0, s0), (2, s1)] ds m Q = (WP 158 106 [q0, q1, q2, q3, q4, q5, q6, q7] [(0, 0), (0, s0), (2, s1)] ds m Q) := P_nx k158_105 rfl
set_option maxRecDepth 20000 in
theorem k158_106 : mjCode 158 106 = some (.iastore, 1, 0, 0) := by decide +kernel
theorem p158_106 {s0 s1 s2 : Int} {q0 q1 q2 q3 q4 q5 q6 q7 : MV} {ds : Ds} {m : Mm} {Q : Ds → Mm → List MV → Prop} : WP 158 106 [q0, q1, q2, q3, q4, q5, q6, q7] [(0, s0), (0, s1), (2, s2)] ds m Q = ((dk ds s2 = 10 ∧ 0 ≤ s1 ∧ s1 < dl ds s2 ∧ WP 158 107 [q0, q1, q2, q3, q4, q5, q6, q7] [] ds (up m s2 s1 s0) Q)) := P_s3 k158_106 rfl
set_option maxRecDepth 20000 in
theorem k158_107 : mjCode 158 107 = some (.aload_n 0, 1, 0, 0) := by decide +kernel
theorem p158_107 {l0 : Int} {q1 q2 q3 q4 q5 q6 q7 : MV} {ds : Ds} {m : Mm} {Q : Ds → Mm → List MV → Prop} : WP 158 107 [(2, l0), q1, q2, q3, q4, q5, q6, q7] [] ds m Q = (WP 158 108 [(2, l0), q1, q2, q3, q4, q5, q6, q7] [(2, l0)] ds m Q) := P_nx k158_107 rfl
set_option maxRecDepth 20000 in
theorem k158_108 : mjCode 158 108 = some (.getfield 105, 3, 7, 37) := by decide +kernel
theorem p158_108 {s0 : Int} {q0 q1 q2 q3 q4 q5 q6 q7 : MV} {ds : Ds} {m : Mm} {Q : Ds → Mm → List MV → Prop} : WP 158 108 [q0, q1, q2, q3, q4, q5, q6, q7] [(2, s0)] ds m Q = ((dk ds s0 = 7 ∧ WP 158 111 [q0, q1, q2, q3, q4, q5, q6, q7] [(2, m s0 37)] ds m Q)) := P_gd k158_108 rfl
set_option maxRecDepth 20000 in
theorem k158_111 : mjCode 158 111 = some (.iload 6, 2, 0, 0) := by decide +kernel
theorem p158_111 {l6 s0 : Int} {q0 q1 q2 q3 q4 q5 q7 : MV} {ds : Ds} {m : Mm} {Q : Ds → Mm → List MV → Prop} : WP 158 111 [q0, q1, q2, q3, q4, q5, (0, l6), q7] [(2, s0)] ds m Q = (WP 158 113 [q0, q1, q2, q3, q4, q5, (0, l6), q7] [(0, l6), (2, s0)] ds m Q) := P_nx k158_111 rfl
set_option maxRecDepth 20000 in
theorem k158_113 : mjCode 158 113 = some (.iconst 5, 1, 0, 0) := by decide +kernel
theorem p158_113 {s0 s1 : Int} {q0 q1 q2 q3 q4 q5 q6 q7 : MV} {ds : Ds} {m : Mm} {Q : Ds → Mm → List MV → Prop} : WP 158 113 [q0, q1, q2, q3, q4, q5, q6, q7] [(0, s0), (2, s1)] ds m Q = (WP 158 114 [q0, q1, q2, q3, q4, q5, q6, q7] [(0, 5), (0, s0), (2, s1)] ds m Q) := P_nx k158_113 rfl
set_option maxRecDepth 20000 in
theorem k158_114 : mjCode 158 114 = some (.iadd, 1, 0, 0) := by decide +kernel
theorem p158_114 {s0 s1 s2 : Int} {q0 q1 q2 q3 q4 q5 q6 q7 : MV} {ds : Ds} {m : Mm} {Q : Ds → Mm → List MV → Prop} : WP 158 114 [q0, q1, q2, q3, q4, q5, q6, q7] [(0, s0), (0, s1), (2, s2)] ds m Q = (WP 158 115 [q0, q1, q2, q3, q4, q5, q6, q7] [(0, w32 (s1 + s0)), (2, s2)] ds m Q) := P_nx k158_114 rfl
set_option maxRecDepth 20000 in
theorem k158_115 : mjCode 158 115 = some (.iload 4, 2, 0, 0) := by decide +kernel
theorem p158_115 {l4 s0 s1 : Int} {q0 q1 q2 q3 q5 q6 q7 : MV} {ds : Ds} {m : Mm} {Q : Ds → Mm → List MV → Prop} : WP 158 115 [q0, q1, q2, q3, (0, l4), q5, q6, q7] [(0, s0), (2, s1)] ds m Q = (WP 158 117 [q0, q1, q2, q3, (0, l4), q5, q6, q7] [(0, l4), (0, s0), (2, s1)] ds m Q) := P_nx k158_115 rfl
set_option maxRecDepth 20000 in
theorem k158_117 : mjCode 158 117 = some (.ifCond .eq 7, 3, 124, 0) := by decide +kernel
theorem p158_117 {s0 s1 s2 : Int} {q0 q1 q2 q3 q4 q5 q6 q7 : MV} {ds : Ds} {m : Mm} {Q : Ds → Mm → List MV → Prop} : WP 158 117 [q0, q1, q2, q3, q4, q5, q6, q7] [(0, s0), (0, s1), (2, s2)] ds m Q = (if s0 = 0 then WP 158 124 [q0, q1, q2, q3, q4, q5, q6, q7] [(0, s1), (2, s2)] ds m Q else WP 158 120 [q0, q1, q2, q3, q4, q5, q6, q7] [(0, s1), (2, s2)] ds m Q) := P_if k158_117 rfl
set_option maxRecDepth 20000 in
theorem k158_120 : mjCode 158 120 = some (.iconst 1, 1, 0, 0) := by decide +kernel
theorem p158_120 {s0 s1 : Int} {q0 q1 q2 q3 q4 q5 q6 q7 : MV} {ds : Ds} {m : Mm} {Q : Ds → Mm → List MV → Prop} : WP 158 120 [q0, q1, q2, q3, q4, q5, q6, q7] [(0, s0), (2, s1)] ds m Q = (WP 158 121 [q0, q1, q2, q3, q4, q5, q6, q7] [(0, 1), (0, s0), (2, s1)] ds m Q) := P_nx k158_120 rfl
set_option maxRecDepth 20000 in
theorem k158_121 : mjCode 158 121 = some (.goto 4, 3, 125, 0) := by decide +kernel
theorem p158_121 {s0 s1 s2 : Int} {q0 q1 q2 q3 q4 q5 q6 q7 : MV} {ds : Ds} {m : Mm} {Q : Ds → Mm → List MV → Prop} : WP 158 121 [q0, q1, q2, q3, q4, q5, q6, q7] [(0, s0), (0, s1), (2, s2)] ds m Q = (WP 158 125 [q0, q1, q2, q3, q4, q5, q6, q7] [(0, s0), (0, s1), (2, s2)] ds m Q) := P_nx k158_121 rfl
set_option maxRecDepth 20000 in
theorem k158_124 : mjCode 158 124 = some (.iconst 0, 1, 0, 0) := by decide +kernel
theorem p158_124 {s0 s1 : Int} {q0 q1 q2 q3 q4 q5 q6 q7 : MV} {ds : Ds} {m : Mm} {Q : Ds → Mm → List MV → Prop} : WP 158 124 [q0, q1, q2, q3, q4, q5, q6, q7] [(0, s0), (2, s1)] ds m Q = (WP 158 125 [q0, q1, q2, q3, q4, q5, q6, q7] [(0, 0), (0, s0), (2, s1)] ds m Q) := P_nx k158_124 rfl
set_option maxRecDepth 20000 in
theorem k158_125 : mjCode 158 125 = some (.iastore, 1, 0, 0) := by decide +kernel
theorem p158_125 {s0 s1 s2 : Int} {q0 q1 q2 q3 q4 q5 q6 q7 : MV} {ds : Ds} {m : Mm} {Q : Ds → Mm → List MV → Prop} : WP 158 125 [q0, q1, q2, q3, q4, q5, q6, q7] [(0, s0), (0, s1), (2, s2)] ds m Q = ((dk ds s2 = 10 ∧ 0 ≤ s1 ∧ s1 < dl ds s2 ∧ WP 158 126 [q0, q1, q2, q3, q4, q5, q6, q7] [] ds (up m s2 s1 s0) Q)) := P_s3 k158_125 rfl
set_option maxRecDepth 20000 in
theorem k158_126 : mjCode 158 126 = some (.aload_n 0, 1, 0, 0) := by decide +kernel
theorem p158_126 {l0 : Int} {q1 q2 q3 q4 q5 q6 q7 : MV} {ds : Ds} {m : Mm} {Q : Ds → Mm → List MV → Prop} : WP 158 126 [(2, l0), q1, q2, q3, q4, q5, q6, q7] [] ds m Q = (WP 158 127 [(2, l0), q1, q2, q3, q4, q5, q6, q7] [(2, l0)] ds m Q) := P_nx k158_126 rfl
set_option maxRecDepth 20000 in
theorem k158_127 : mjCode 158 127 = some (.getfield 102, 3, 7, 36) := by decide +kernel
theorem p158_127 {s0 : Int} {q0 q1 q2 q3 q4 q5 q6 q7 : MV} {ds : Ds} {m : Mm} {Q : Ds → Mm → List MV → Prop} : WP 158 127 [q0, q1, q2, q3, q4, q5, q6, q7] [(2, s0)] ds m Q = ((dk ds s0 = 7 ∧ WP 158 130 [q0, q1, q2, q3, q4, q5, q6, q7] [(2, m s0 36)] ds m Q)) := P_gd k158_127 rfl
set_option maxRecDepth 20000 in
theorem k158_130 : mjCode 158 130 = some (.bipush 6, 2, 0, 0) := by decide +kernel
theorem p158_130 {s0 : Int} {q0 q1 q2 q3 q4 q5 q6 q7 : MV} {ds : Ds} {m : Mm} {Q : Ds → Mm → List MV → Prop} : WP 158 130 [q0, q1, q2, q3, q4, q5, q6, q7] [(2, s0)] ds m Q = (WP 158 132 [q0, q1, q2, q3, q4, q5, q6, q7] [(0, 6), (2, s0)] ds m Q) := P_nx k158_130 rfl
set_option maxRecDepth 20000 in
theorem k158_132 : mjCode 158 132 = some (.aload_n 0, 1, 0, 0) := by decide +kernel
theorem p158_132 {l0 s0 s1 : Int} {q1 q2 q3 q4 q5 q6 q7 : MV} {ds : Ds} {m : Mm} {Q : Ds → Mm → List MV → Prop} : WP 158 132 [(2, l0), q1, q2, q3, q4, q5, q6, q7] [(0, s0), (2, s1)] ds m Q = (WP 158 133 [(2, l0), q1, q2, q3, q4, q5, q6, q7] [(2, l0), (0, s0), (2, s1)] ds m Q) := P_nx k158_132 rfl
set_option maxRecDepth 20000 in
theorem k158_133 : mjCode 158 133 = some (.getfield 222, 3, 7, 45) := by decide +kernel
theorem p158_133 {s0 s1 s2 : Int} {q0 q1 q2 q3 q4 q5 q6 q7 : MV} {ds : Ds} {m : Mm} {Q : Ds → Mm → List MV → Prop} : WP 158 133 [q0, q1, q2, q3, q4, q5, q6, q7] [(2, s0), (0, s1), (2, s2)] ds m Q = ((dk ds s0 = 7 ∧ WP 158 136 [q0, q1, q2, q3, q4, q5, q6, q7] [(0, m s0 45), (0, s1), (2, s2)] ds m Q)) := P_gd k158_133 rfl
set_option maxRecDepth 20000 in
theorem k158_136 : mjCode 158 136 = some (.imul, 1, 0, 0) := by decide +kernel
theorem p158_136 {s0 s1 s2 : Int} {q0 q1 q2 q3 q4 q5 q6 q7 : MV} {ds : Ds} {m : Mm} {Q : Ds → Mm → List MV → Prop} : WP 158 136 [q0, q1, q2, q3, q4, q5, q6, q7] [(0, s0), (0, s1), (2, s2)] ds m Q = (WP 158 137 [q0, q1, q2, q3, q4, q5, q6, q7] [(0, w32 (s1 * s0)), (2, s2)] ds m Q) := P_nx k158_136 rfl
set_option maxRecDepth 20000 in
theorem k158_137 : mjCode 158 137 = some (.iconst 2, 1, 0, 0) := by decide +kernel
theorem p158_137 {s0 s1 : Int} {q0 q1 q2 q3 q4 q5 q6 q7 : MV} {ds : Ds} {m : Mm} {Q : Ds → Mm → List MV → Prop} : WP 158 137 [q0, q1, q2, q3, q4, q5, q6, q7] [(0, s0), (2, s1)] ds m Q = (WP 158 138 [q0, q1, q2, q3, q4, q5, q6, q7] [(0, 2), (0, s0), (2, s1)] ds m Q) := P_nx k158_137 rfl
set_option maxRecDepth 20000 in
theorem k158_138 : mjCode 158 138 = some (.iadd, 1, 0, 0) := by decide +kernel
theorem p158_138 {s0 s1 s2 : Int} {q0 q1 q2 q3 q4 q5 q6 q7 : MV} {ds : Ds} {m : Mm} {Q : Ds → Mm → List MV → Prop} : WP 158 138 [q0, q1, q2, q3, q4, q5, q6, q7] [(0, s0), (0, s1), (2, s2)] ds m Q = (WP 158 139 [q0, q1, q2, q3, q4, q5, q6, q7] [(0, w32 (s1 + s0)), (2, s2)] ds m Q) := P_nx k158_138 rfl
set_option maxRecDepth 20000 in
theorem k158_139 : mjCode 158 139 = some (.dup2, 1, 0, 0) := by decide +kernel
theorem p158_139 {s0 s1 : Int} {q0 q1 q2 q3 q4 q5 q6 q7 : MV} {ds : Ds} {m : Mm} {Q : Ds → Mm → List MV → Prop} : WP 158 139 [q0, q1, q2, q3, q4, q5, q6, q7] [(0, s0), (2, s1)] ds m Q = (WP 158 140 [q0, q1, q2, q3, q4, q5, q6, q7] [(0, s0), (2, s1), (0, s0), (2, s1)] ds m Q) := P_nx k158_139 rfl
set_option maxRecDepth 20000 in
theorem k158_140 : mjCode 158 140 = some (.iaload, 1, 0, 0) := by decide +kernel
theorem p158_140 {s0 s1 s2 s3 : Int} {q0 q1 q2 q3 q4 q5 q6 q7 : MV} {ds : Ds} {m : Mm} {Q : Ds → Mm → List MV → Prop} : WP 158 140 [q0, q1, q2, q3, q4, q5, q6, q7] [(0, s0), (2, s1), (0, s2), (2, s3)] ds m Q = ((dk ds s1 = 10 ∧ 0 ≤ s0 ∧ s0 < dl ds s1 ∧ WP 158 141 [q0, q1, q2, q3, q4, q5, q6, q7] [(0, m s1 s0), (0, s2), (2, s3)] ds m Q)) := P_g3 k158_140 rfl
set_option maxRecDepth 20000 in
theorem k158_141 : mjCode 158 141 = some (.iconst 1, 1, 0, 0) := by decide +kernel
theorem p158_141 {s0 s1 s2 : Int} {q0 q1 q2 q3 q4 q5 q6 q7 : MV} {ds : Ds} {m : Mm} {Q : Ds → Mm → List MV → Prop} : WP 158 141 [q0, q1, q2, q3, q4, q5, q6, q7] [(0, s0), (0, s1), (2, s2)] ds m Q = (WP 158 142 [q0, q1, q2, q3, q4, q5, q6, q7] [(0, 1), (0, s0), (0, s1), (2, s2)] ds m Q) := P_nx k158_141 rfl
set_option maxRecDepth 20000 in
theorem k158_142 : mjCode 158 142 = some (.iadd, 1, 0, 0) := by decide +kernel
theorem p158_142 {s0 s1 s2 s3 : Int} {q0 q1 q2 q3 q4 q5 q6 q7 : MV} {ds : Ds} {m : Mm} {Q : Ds → Mm → List MV → Prop} : WP 158 142 [q0, q1, q2, q3, q4, q5, q6, q7] [(0, s0), (0, s1), (0, s2), (2, s3)] ds m Q = (WP 158 143 [q0, q1, q2, q3, q4, q5, q6, q7] [(0, w32 (s1 + s0)), (0, s2), (2, s3)] ds m Q) := P_nx k158_142 rfl
set_option maxRecDepth 20000 in
theorem k158_143 : mjCode 158 143 = some (.iastore, 1, 0, 0) := by decide +kernel
theorem p158_143 {s0 s1 s2 : Int} {q0 q1 q2 q3 q4 q5 q6 q7 : MV} {ds : Ds} {m : Mm} {Q : Ds → Mm → List MV → Prop} : WP 158 143 [q0, q1, q2, q3, q4, q5, q6, q7] [(0, s0), (0, s1), (2, s2)] ds m Q = ((dk ds s2 = 10 ∧ 0 ≤ s1 ∧ s1 < dl ds s2 ∧ WP 158 144 [q0, q1, q2, q3, q4, q5, q6, q7] [] ds (up m s2 s1 s0) Q)) := P_s3 k158_143 rfl
set_option maxRecDepth 20000 in
theorem k158_144 : mjCode 158 144 = some (.aload_n 0, 1, 0, 0) := by decide +kernel
theorem p158_144 {l0 : Int} {q1 q2 q3 q4 q5 q6 q7 : MV} {ds : Ds} {m : Mm} {Q : Ds → Mm → List MV → Prop} : WP 158 144 [(2, l0), q1, q2, q3, q4, q5, q6, q7] [] ds m Q = (WP 158 145 [(2, l0), q1, q2, q3, q4, q5, q6, q7] [(2, l0)] ds m Q) := P_nx k158_144 rfl
set_option maxRecDepth 20000 in
theorem k158_145 : mjCode 158 145 = some (.getfield 102, 3, 7, 36) := by decide +kernel
theorem p158_145 {s0 : Int} {q0 q1 q2 q3 q4 q5 q6 q7 : MV} {ds : Ds} {m : Mm} {Q : Ds → Mm → List MV → Prop} : WP 158 145 [q0, q1, q2, q3, q4, q5, q6, q7] [(2, s0)] ds m Q = ((dk ds s0 = 7 ∧ WP 158 148 [q0, q1, q2, q3, q4, q5, q6, q7] [(2, m s0 36)] ds m Q)) := P_gd k158_145 rfl
set_option maxRecDepth 20000 in
theorem k158_148 : mjCode 158 148 = some (.bipush 6, 2, 0, 0) := by decide +kernel
theorem p158_148 {s0 : Int} {q0 q1 q2 q3 q4 q5 q6 q7 : MV} {ds : Ds} {m : Mm} {Q : Ds → Mm → List MV → Prop} : WP 158 148 [q0, q1, q2, q3, q4, q5, q6, q7] [(2, s0)] ds m Q = (WP 158 150 [q0, q1, q2, q3, q4, q5, q6, q7] [(0, 6), (2, s0)] ds m Q) := P_nx k158_148 rfl
set_option maxRecDepth 20000 in
theorem k158_150 : mjCode 158 150 = some (.aload_n 0, 1, 0, 0) := by decide +kernel
theorem p158_150 {l0 s0 s1 : Int} {q1 q2 q3 q4 q5 q6 q7 : MV} {ds : Ds} {m : Mm} {Q : Ds → Mm → List MV → Prop} : WP 158 150 [(2, l0), q1, q2, q3, q4, q5, q6, q7] [(0, s0), (2, s1)] ds m Q = (WP 158 151 [(2, l0), q1, q2, q3, q4, q5, q6, q7] [(2, l0), (0, s0), (2, s1)] ds m Q) := P_nx k158_150 rfl
set_option maxRecDepth 20000 in
theorem k158_151 : mjCode 158 151 = some (.getfield 222, 3, 7, 45) := by decide +kernel
theorem p158_151 {s0 s1 s2 : Int} {q0 q1 q2 q3 q4 q5 q6 q7 : MV} {ds : Ds} {m : Mm} {Q : Ds → Mm → List MV → Prop} : WP 158 151 [q0, q1, q2, q3, q4, q5, q6, q7] [(2, s0), (0, s1), (2, s2)] ds m Q = ((dk ds s0 = 7 ∧ WP 158 154 [q0, q1, q2, q3, q4, q5, q6, q7] [(0, m s0 45), (0, s1), (2, s2)] ds m Q)) := P_gd k158_151 rfl
set_option maxRecDepth 20000 in
theorem k158_154 : mjCode 158 154 = some (.imul, 1, 0, 0) := by decide +kernel
theorem p158_154 {s0 s1 s2 : Int} {q0 q1 q2 q3 q4 q5 q6 q7 : MV} {ds : Ds} {m : Mm} {Q : Ds → Mm → List MV → Prop} : WP 158 154 [q0, q1, q2, q3, q4, q5, q6, q7] [(0, s0), (0, s1), (2, s2)] ds m Q = (WP 158 155 [q0, q1, q2, q3, q4, q5, q6, q7] [(0, w32 (s1 * s0)), (2, s2)] ds m Q) := P_nx k158_154 rfl
set_option maxRecDepth 20000 in
theorem k158_155 : mjCode 158 155 = some (.iconst 3, 1, 0, 0) := by decide +kernel
theorem p158_155 {s0 s1 : Int} {q0 q1 q2 q3 q4 q5 q6 q7 : MV} {ds : Ds} {m : Mm} {Q : Ds → Mm → List MV → Prop} : WP 158 155 [q0, q1, q2, q3, q4, q5, q6, q7] [(0, s0), (2, s1)] ds m Q = (WP 158 156 [q0, q1, q2, q3, q4, q5, q6, q7] [(0, 3), (0, s0), (2, s1)] ds m Q) := P_nx k158_155 rfl
set_option maxRecDepth 20000 in
theorem k158_156 : mjCode 158 156 = some (.iadd, 1, 0, 0) := by decide +kernel
theorem p158_156 {s0 s1 s2 : Int} {q0 q1 q2 q3 q4 q5 q6 q7 : MV} {ds : Ds} {m : Mm} {Q : Ds → Mm → List MV → Prop} : WP 158 156 [q0, q1, q2, q3, q4, q5, q6, q7] [(0, s0), (0, s1), (2, s2)] ds m Q = (WP 158 157 [q0, q1, q2, q3, q4, q5, q6, q7] [(0, w32 (s1 + s0)), (2, s2)] ds m Q) := P_nx k158_156 rfl
set_option maxRecDepth 20000 in
theorem k158_157 : mjCode 158 157 = some (.dup2, 1, 0, 0) := by decide +kernel
theorem p158_157 {s0 s1 : Int} {q0 q1 q2 q3 q4 q5 q6 q7 : MV} {ds : Ds} {m : Mm} {Q : Ds → Mm → List MV → Prop} : WP 158 157 [q0, q1, q2, q3, q4, q5, q6, q7] [(0, s0), (2, s1)] ds m Q = (WP 158 158 [q0, q1, q2, q3, q4, q5, q6, q7] [(0, s0), (2, s1), (0, s0), (2, s1)] ds m Q) := P_nx k158_157 rfl
set_option maxRecDepth 20000 in
theorem k158_158 : mjCode 158 158 = some (.iaload, 1, 0, 0) := by decide +kernel
theorem p158_158 {s0 s1 s2 s3 : Int} {q0 q1 q2 q3 q4 q5 q6 q7 : MV} {ds : Ds} {m : Mm} {Q : Ds → Mm → List MV → Prop} : WP 158 158 [q0, q1, q2, q3, q4, q5, q6, q7] [(0, s0), (2, s1), (0, s2), (2, s3)] ds m Q = ((dk ds s1 = 10 ∧ 0 ≤ s0 ∧ s0 < dl ds s1 ∧ WP 158 159 [q0, q1, q2, q3, q4, q5, q6, q7] [(0, m s1 s0), (0, s2), (2, s3)] ds m Q)) := P_g3 k158_158 rfl
set_option maxRecDepth 20000 in
theorem k158_159 : mjCode 158 159 = some (.iload 7, 2, 0, 0) := by decide +kernel
theorem p158_159 {l7 s0 s1 s2 : Int} {q0 q1 q2 q3 q4 q5 q6 : MV} {ds : Ds} {m : Mm} {Q : Ds → Mm → List MV → Prop} : WP 158 159 [q0, q1, q2, q3, q4, q5, q6, (0, l7)] [(0, s0), (0, s1), (2, s2)] ds m Q = (WP 158 161 [q0, q1, q2, q3, q4, q5, q6, (0, l7)] [(0, l7), (0, s0), (0, s1), (2, s2)] ds m Q) := P_nx k158_159 rfl
set_option maxRecDepth 20000 in
theorem k158_161 : mjCode 158 161 = some (.ifCond .eq 7, 3, 168, 0) := by decide +kernel
theorem p158_161 {s0 s1 s2 s3 : Int} {q0 q1 q2 q3 q4 q5 q6 q7 : MV} {ds : Ds} {m : Mm} {Q : Ds → Mm → List MV → Prop} : WP 158 161 [q0, q1, q2, q3, q4, q5, q6, q7] [(0, s0), (0, s1), (0, s2), (2, s3)] ds m Q = (if s0 = 0 then WP 158 168 [q0, q1, q2, q3, q4, q5, q6, q7] [(0, s1), (0, s2), (2, s3)] ds m Q else WP 158 164 [q0, q1, q2, q3, q4, q5, q6, q7] [(0, s1), (0, s2), (2, s3)] ds m Q) := P_if k158_161 rfl
set_option maxRecDepth 20000 in
theorem k158_164 : mjCode 158 164 = some (.iconst 1, 1, 0, 0) := by decide +kernel
theorem p158_164 {s0 s1 s2 : Int} {q0 q1 q2 q3 q4 q5 q6 q7 : MV} {ds : Ds} {m : Mm} {Q : Ds → Mm → List MV → Prop} : WP 158 164 [q0, q1, q2, q3, q4, q5, q6, q7] [(0, s0), (0, s1), (2, s2)] ds m Q = (WP 158 165 [q0, q1, q2, q3, q4, q5, q6, q7] [(0, 1), (0, s0), (0, s1), (2, s2)] ds m Q) := P_nx k158_164 rfl
set_option maxRecDepth 20000 in
theorem k158_165 : mjCode 158 165 = some (.goto 4, 3, 169, 0) := by decide +kernel
theorem p158_165 {s0 s1 s2 s3 : Int} {q0 q1 q2 q3 q4 q5 q6 q7 : MV} {ds : Ds} {m : Mm} {Q : Ds → Mm → List MV → Prop} : WP 158 165 [q0, q1, q2, q3, q4, q5, q6, q7] [(0, s0), (0, s1), (0, s2), (2, s3)] ds m Q = (WP 158 169 [q0, q1, q2, q3, q4, q5, q6, q7] [(0, s0), (0, s1), (0, s2), (2, s3)] ds m Q) := P_nx k158_165 rfl
set_option maxRecDepth 20000 in
theorem k158_168 : mjCode 158 168 = some (.iconst 0, 1, 0, 0) := by decide +kernel
theorem p158_168 {s0 s1 s2 : Int} {q0 q1 q2 q3 q4 q5 q6 q7 : MV} {ds : Ds} {m : Mm} {Q : Ds → Mm → List MV → Prop} : WP 158 168 [q0, q1, q2, q3, q4, q5, q6, q7] [(0, s0), (0, s1), (2, s2)] ds m Q = (WP 158 169 [q0, q1, q2, q3, q4, q5, q6, q7] [(0, 0), (0, s0), (0, s1), (2, s2)] ds m Q) := P_nx k158_168 rfl
set_option maxRecDepth 20000 in
theorem k158_169 : mjCode 158 169 = some (.iadd, 1, 0, 0) := by decide +kernel
theorem p158_169 {s0 s1 s2 s3 : Int} {q0 q1 q2 q3 q4 q5 q6 q7 : MV} {ds : Ds} {m : Mm} {Q : Ds → Mm → List MV → Prop} : WP 158 169 [q0, q1, q2, q3, q4, q5, q6, q7] [(0, s0), (0, s1), (0, s2), (2, s3)] ds m Q = (WP 158 170 [q0, q1, q2, q3, q4, q5, q6, q7] [(0, w32 (s1 + s0)), (0, s2), (2, s3)] ds m Q) := P_nx k158_169 rfl
set_option maxRecDepth 20000 in
theorem k158_170 : mjCode 158 170 = some (.iastore, 1, 0, 0) := by decide +kernel
theorem p158_170 {s0 s1 s2 : Int} {q0 q1 q2 q3 q4 q5 q6 q7 : MV} {ds : Ds} {m : Mm} {Q : Ds → Mm → List MV → Prop} : WP 158 170 [q0, q1, q2, q3, q4, q5, q6, q7] [(0, s0), (0, s1), (2, s2)] ds m Q = ((dk ds s2 = 10 ∧ 0 ≤ s1 ∧ s1 < dl ds s2 ∧ WP 158 171 [q0, q1, q2, q3, q4, q5, q6, q7] [] ds (up m s2 s1 s0) Q)) := P_s3 k158_170 rfl
set_option maxRecDepth 20000 in
theorem k158_171 : mjCode 158 171 = some (.aload_n 0, 1, 0, 0) := by decide +kernel
theorem p158_171 {l0 : Int} {q1 q2 q3 q4 q5 q6 q7 : MV} {ds : Ds} {m : Mm} {Q : Ds → Mm → List MV → Prop} : WP 158 171 [(2, l0), q1, q2, q3, q4, q5, q6, q7] [] ds m Q = (WP 158 172 [(2, l0), q1, q2, q3, q4, q5, q6, q7] [(2, l0)] ds m Q) := P_nx k158_171 rfl
set_option maxRecDepth 20000 in
theorem k158_172 : mjCode 158 172 = some (.getfield 117, 3, 7, 41) := by decide +kernel
theorem p158_172 {s0 : Int} {q0 q1 q2 q3 q4 q5 q6 q7 : MV} {ds : Ds} {m : Mm} {Q : Ds → Mm → List MV → Prop} : WP 158 172 [q0, q1, q2, q3, q4, q5, q6, q7] [(2, s0)] ds m Q = ((dk ds s0 = 7 ∧ WP 158 175 [q0, q1, q2, q3, q4, q5, q6, q7] [(2, m s0 41)] ds m Q)) := P_gd k158_172 rfl
set_option maxRecDepth 20000 in
theorem k158_175 : mjCode 158 175 = some (.bipush 96, 2, 0, 0) := by decide +kernel
theorem p158_175 {s0 : Int} {q0 q1 q2 q3 q4 q5 q6 q7 : MV} {ds : Ds} {m : Mm} {Q : Ds → Mm → List MV → Prop} : WP 158 175 [q0, q1, q2, q3, q4, q5, q6, q7] [(2, s0)] ds m Q = (WP 158 177 [q0, q1, q2, q3, q4, q5, q6, q7] [(0, 96), (2, s0)] ds m Q) := P_nx k158_175 rfl
set_option maxRecDepth 20000 in
theorem k158_177 : mjCode 158 177 = some (.aload_n 0, 1, 0, 0) := by decide +kernel
theorem p158_177 {l0 s0 s1 : Int} {q1 q2 q3 q4 q5 q6 q7 : MV} {ds : Ds} {m : Mm} {Q : Ds → Mm → List MV → Prop} : WP 158 177 [(2, l0), q1, q2, q3, q4, q5, q6, q7] [(0, s0), (2, s1)] ds m Q = (WP 158 178 [(2, l0), q1, q2, q3, q4, q5, q6, q7] [(2, l0), (0, s0), (2, s1)] ds m Q) := P_nx k158_177 rfl
set_option maxRecDepth 20000 in
theorem k158_178 : mjCode 158 178 = some (.getfield 222, 3, 7, 45) := by decide +kernel
theorem p158_178 {s0 s1 s2 : Int} {q0 q1 q2 q3 q4 q5 q6 q7 : MV} {ds : Ds} {m : Mm} {Q : Ds → Mm → List MV → Prop} : WP 158 178 [q0, q1, q2, q3, q4, q5, q6, q7] [(2, s0), (0, s1), (2, s2)] ds m Q = ((dk ds s0 = 7 ∧ WP 158 181 [q0, q1, q2, q3, q4, q5, q6, q7] [(0, m s0 45), (0, s1), (2, s2)] ds m Q)) := P_gd k158_178 rfl
set_option maxRecDepth 20000 in
theorem k158_181 : mjCode 158 181 = some (.imul, 1, 0, 0) := by decide +kernel
theorem p158_181 {s0 s1 s2 : Int} {q0 q1 q2 q3 q4 q5 q6 q7 : MV} {ds : Ds} {m : Mm} {Q : Ds → Mm → List MV → Prop} : WP 158 181 [q0, q1, q2, q3, q4, q5, q6, q7] [(0, s0), (0, s1), (2, s2)] ds m Q = (WP 158 182 [q0, q1, q2, q3, q4, q5, q6, q7] [(0, w32 (s1 * s0)), (2, s2)] ds m Q) := P_nx k158_181 rfl
set_option maxRecDepth 20000 in
theorem k158_182 : mjCode 158 182 = some (.iload_n 1, 1, 0, 0) := by decide +kernel
theorem p158_182 {l1 s0 s1 : Int} {q0 q2 q3 q4 q5 q6 q7 : MV} {ds : Ds} {m : Mm} {Q : Ds → Mm → List MV → Prop} : WP 158 182 [q0, (0, l1), q2, q3, q4, q5, q6, q7] [(0, s0), (2, s1)] ds m Q = (WP 158 183 [q0, (0, l1), q2, q3, q4, q5, q6, q7] [(0, l1), (0, s0), (2, s1)] ds m Q) := P_nx k158_182 rfl
set_option maxRecDepth 20000 in
theorem k158_183 : mjCode 158 183 = some (.iadd, 1, 0, 0) := by decide +kernel
theorem p158_183 {s0 s1 s2 : Int} {q0 q1 q2 q3 q4 q5 q6 q7 : MV} {ds : Ds} {m : Mm} {Q : Ds → Mm → List MV → Prop} : WP 158 183 [q0, q1, q2, q3, q4, q5, q6, q7] [(0, s0), (0, s1), (2, s2)] ds m Q = (WP 158 184 [q0, q1, q2, q3, q4, q5, q6, q7] [(0, w32 (s1 + s0)), (2, s2)] ds m Q) := P_nx k158_183 rfl
set_option maxRecDepth 20000 in
theorem k158_184 : mjCode 158 184 = some (.dup2, 1, 0, 0) := by decide +kernel
theorem p158_184 {s0 s1 : Int} {q0 q1 q2 q3 q4 q5 q6 q7 : MV} {ds : Ds} {m : Mm} {Q : Ds → Mm → List MV → Prop} : WP 158 184 [q0, q1, q2, q3, q4, q5, q6, q7] [(0, s0), (2, s1)] ds m Q = (WP 158 185 [q0, q1, q2, q3, q4, q5, q6, q7] [(0, s0), (2, s1), (0, s0), (2, s1)] ds m Q) := P_nx k158_184 rfl
set_option maxRecDepth 20000 in
theorem k158_185 : mjCode 158 185 = some (.iaload, 1, 0, 0) := by decide +kernel
theorem p158_185 {s0 s1 s2 s3 : Int} {q0 q1 q2 q3 q4 q5 q6 q7 : MV} {ds : Ds} {m : Mm} {Q : Ds → Mm → List MV → Prop} : WP 158 185 [q0, q1, q2, q3, q4, q5, q6, q7] [(0, s0), (2, s1), (0, s2), (2, s3)] ds m Q = ((dk ds s1 = 10 ∧ 0 ≤ s0 ∧ s0 < dl ds s1 ∧ WP 158 186 [q0, q1, q2, q3, q4, q5, q6, q7] [(0, m s1 s0), (0, s2), (2, s3)] ds m Q)) := P_g3 k158_185 rfl
set_option maxRecDepth 20000 in
theorem k158_186 : mjCode 158 186 = some (.iconst 1, 1, 0, 0) := by decide +kernel
theorem p158_186 {s0 s1 s2 : Int} {q0 q1 q2 q3 q4 q5 q6 q7 : MV} {ds : Ds} {m : Mm} {Q : Ds → Mm → List MV → Prop} : WP 158 186 [q0, q1, q2, q3, q4, q5, q6, q7] [(0, s0), (0, s1), (2, s2)] ds m Q = (WP 158 187 [q0, q1, q2, q3, q4, q5, q6, q7] [(0, 1), (0, s0), (0, s1), (2, s2)] ds m Q) := P_nx k158_186 rfl
set_option maxRecDepth 20000 in
theorem k158_187 : mjCode 158 187 = some (.iadd, 1, 0, 0) := by decide +kernel
theorem p158_187 {s0 s1 s2 s3 : Int} {q0 q1 q2 q3 q4 q5 q6 q7 : MV} {ds : Ds} {m : Mm} {Q : Ds → Mm → List MV → Prop} : WP 158 187 [q0, q1, q2, q3, q4, q5, q6, q7] [(0, s0), (0, s1), (0, s2), (2, s3)] ds m Q = (WP 158 188 [q0, q1, q2, q3, q4, q5, q6, q7] [(0, w32 (s1 + s0)), (0, s2), (2, s3)] ds m Q) := P_nx k158_187 rfl
set_option maxRecDepth 20000 in
theorem k158_188 : mjCode 158 188 = some (.iastore, 1, 0, 0) := by decide +kernel
theorem p158_188 {s0 s1 s2 : Int} {q0 q1 q2 q3 q4 q5 q6 q7 : MV} {ds : Ds} {m : Mm} {Q : Ds → Mm → List MV → Prop} : WP 158 188 [q0, q1, q2, q3, q4, q5, q6, q7] [(0, s0), (0, s1), (2, s2)] ds m Q = ((dk ds s2 = 10 ∧ 0 ≤ s1 ∧ s1 < dl ds s2 ∧ WP 158 189 [q0, q1, q2, q3, q4, q5, q6, q7] [] ds (up m s2 s1 s0) Q)) := P_s3 k158_188 rfl
set_option maxRecDepth 20000 in
theorem k158_189 : mjCode 158 189 = some (.aload_n 0, 1, 0, 0) := by decide +kernel
theorem p158_189 {l0 : Int} {q1 q2 q3 q4 q5 q6 q7 : MV} {ds : Ds} {m : Mm} {Q : Ds → Mm → List MV → Prop} : WP 158 189 [(2, l0), q1, q2, q3, q4, q5, q6, q7] [] ds m Q = (WP 158 190 [(2, l0), q1, q2, q3, q4, q5, q6, q7] [(2, l0)] ds m Q) := P_nx k158_189 rfl
set_option maxRecDepth 20000 in
theorem k158_190 : mjCode 158 190 = some (.getfield 126, 3, 7, 44) := by decide +kernel
theorem p158_190 {s0 : Int} {q0 q1 q2 q3 q4 q5 q6 q7 : MV} {ds : Ds} {m : Mm} {Q : Ds → Mm → List MV → Prop} : WP 158 190 [q0, q1, q2, q3, q4, q5, q6, q7] [(2, s0)] ds m Q = ((dk ds s0 = 7 ∧ WP 158 193 [q0, q1, q2, q3, q4, q5, q6, q7] [(2, m s0 44)] ds m Q)) := P_gd k158_190 rfl
set_option maxRecDepth 20000 in
theorem k158_193 : mjCode 158 193 = some (.bipush 96, 2, 0, 0) := by decide +kernel
theorem p158_193 {s0 : Int} {q0 q1 q2 q3 q4 q5 q6 q7 : MV} {ds : Ds} {m : Mm} {Q : Ds → Mm → List MV → Prop} : WP 158 193 [q0, q1, q2, q3, q4, q5, q6, q7] [(2, s0)] ds m Q = (WP 158 195 [q0, q1, q2, q3, q4, q5, q6, q7] [(0, 96), (2, s0)] ds m Q) := P_nx k158_193 rfl
set_option maxRecDepth 20000 in
theorem k158_195 : mjCode 158 195 = some (.aload_n 0, 1, 0, 0) := by decide +kernel
theorem p158_195 {l0 s0 s1 : Int} {q1 q2 q3 q4 q5 q6 q7 : MV} {ds : Ds} {m : Mm} {Q : Ds → Mm → List MV → Prop} : WP 158 195 [(2, l0), q1, q2, q3, q4, q5, q6, q7] [(0, s0), (2, s1)] ds m Q = (WP 158 196 [(2, l0), q1, q2, q3, q4, q5, q6, q7] [(2, l0), (0, s0), (2, s1)] ds m Q) := P_nx k158_195 rfl
set_option maxRecDepth 20000 in
theorem k158_196 : mjCode 158 196 = some (.getfield 222, 3, 7, 45) := by decide +kernel
theorem p158_196 {s0 s1 s2 : Int} {q0 q1 q2 q3 q4 q5 q6 q7 : MV} {ds : Ds} {m : Mm} {Q : Ds → Mm → List MV → Prop} : WP 158 196 [q0, q1, q2, q3, q4, q5, q6, q7] [(2, s0), (0, s1), (2, s2)] ds m Q = ((dk ds s0 = 7 ∧ WP 158 199 [q0, q1, q2, q3, q4, q5, q6, q7] [(0, m s0 45), (0, s1), (2, s2)] ds m Q)) := P_gd k158_196 rfl
set_option maxRecDepth 20000 in
theorem k158_199 : mjCode 158 199 = some (.imul, 1, 0, 0) := by decide +kernel
theorem p158_199 {s0 s1 s2 : Int} {q0 q1 q2 q3 q4 q5 q6 q7 : MV} {ds : Ds} {m : Mm} {Q : Ds → Mm → List MV → Prop} : WP 158 199 [q0, q1, q2, q3, q4, q5, q6, q7] [(0, s0), (0, s1), (2, s2)] ds m Q = (WP 158 200 [q0, q1, q2, q3, q4, q5, q6, q7] [(0, w32 (s1 * s0)), (2, s2)] ds m Q) := P_nx k158_199 rfl
set_option maxRecDepth 20000 in
theorem k158_200 : mjCode 158 200 = some (.iload_n 1, 1, 0, 0) := by decide +kernel
theorem p158_200 {l1 s0 s1 : Int} {q0 q2 q3 q4 q5 q6 q7 : MV} {ds : Ds} {m : Mm} {Q : Ds → Mm → List MV → Prop} : WP 158 200 [q0, (0, l1), q2, q3, q4, q5, q6, q7] [(0, s0), (2, s1)] ds m Q = (WP 158 201 [q0, (0, l1), q2, q3, q4, q5, q6, q7] [(0, l1), (0, s0), (2, s1)] ds m Q) := P_nx k158_200 rfl
set_option maxRecDepth 20000 in
theorem k158_201 : mjCode 158 201 = some (.iadd, 1, 0, 0) := by decide +kernel
theorem p158_201 {s0 s1 s2 : Int} {q0 q1 q2 q3 q4 q5 q6 q7 : MV} {ds : Ds} {m : Mm} {Q : Ds → Mm → List MV → Prop} : WP 158 201 [q0, q1, q2, q3, q4, q5, q6, q7] [(0, s0), (0, s1), (2, s2)] ds m Q = (WP 158 202 [q0, q1, q2, q3, q4, q5, q6, q7] [(0, w32 (s1 + s0)), (2, s2)] ds m Q) := P_nx k158_201 rfl
set_option maxRecDepth 20000 in
theorem k158_202 : mjCode 158 202 = some (.aload_n 0, 1, 0, 0) := by decide +kernel
theorem p158_202 {l0 s0 s1 : Int} {q1 q2 q3 q4 q5 q6 q7 : MV} {ds : Ds} {m : Mm} {Q : Ds → Mm → List MV → Prop} : WP 158 202 [(2, l0), q1, q2, q3, q4, q5, q6, q7] [(0, s0), (2, s1)] ds m Q = (WP 158 203 [(2, l0), q1, q2, q3, q4, q5, q6, q7] [(2, l0), (0, s0), (2, s1)] ds m Q) := P_nx k158_202 rfl
set_option maxRecDepth 20000 in
theorem k158_203 : mjCode 158 203 = some (.getfield 126, 3, 7, 44) := by decide +kernel
theorem p158_203 {s0 s1 s2 : Int} {q0 q1 q2 q3 q4 q5 q6 q7 : MV} {ds : Ds} {m : Mm} {Q : Ds → Mm → List MV → Prop} : WP 158 203 [q0, q1, q2, q3, q4, q5, q6, q7] [(2, s0), (0, s1), (2, s2)] ds m Q = ((dk ds s0 = 7 ∧ WP 158 206 [q0, q1, q2, q3, q4, q5, q6, q7] [(2, m s0 44), (0, s1), (2, s2)] ds m Q)) := P_gd k158_203 rfl
set_option maxRecDepth 20000 in
theorem k158_206 : mjCode 158 206 = some (.bipush 96, 2, 0, 0) := by decide +kernel
theorem p158_206 {s0 s1 s2 : Int} {q0 q1 q2 q3 q4 q5 q6 q7 : MV} {ds : Ds} {m : Mm} {Q : Ds → Mm → List MV → Prop} : WP 158 206 [q0, q1, q2, q3, q4, q5, q6, q7] [(2, s0), (0, s1), (2, s2)] ds m Q = (WP 158 208 [q0, q1, q2, q3, q4, q5, q6, q7] [(0, 96), (2, s0), (0, s1), (2, s2)] ds m Q) := P_nx k158_206 rfl
set_option maxRecDepth 20000 in
theorem k158_208 : mjCode 158 208 = some (.aload_n 0, 1, 0, 0) := by decide +kernel
theorem p158_208 {l0 s0 s1 s2 s3 : Int} {q1 q2 q3 q4 q5 q6 q7 : MV} {ds : Ds} {m : Mm} {Q : Ds → Mm → List MV → Prop} : WP 158 208 [(2, l0), q1, q2, q3, q4, q5, q6, q7] [(0, s0), (2, s1), (0, s2), (2, s3)] ds m Q = (WP 158 209 [(2, l0), q1, q2, q3, q4, q5, q6, q7] [(2, l0), (0, s0), (2, s1), (0, s2), (2, s3)] ds m Q) := P_nx k158_208 rfl
set_option maxRecDepth 20000 in
theorem k158_209 : mjCode 158 209 = some (.getfield 222, 3, 7, 45) := by decide +kernel
theorem p158_209 {s0 s1 s2 s3 s4 : Int} {q0 q1 q2 q3 q4 q5 q6 q7 : MV} {ds : Ds} {m : Mm} {Q : Ds → Mm → List MV → Prop} : WP 158 209 [q0, q1, q2, q3, q4, q5, q6, q7] [(2, s0), (0, s1), (2, s2), (0, s3), (2, s4)] ds m Q = ((dk ds s0 = 7 ∧ WP 158 212 [q0, q1, q2, q3, q4, q5, q6, q7] [(0, m s0 45), (0, s1), (2, s2), (0, s3), (2, s4)] ds m Q)) := P_gd k158_209 rfl
set_option maxRecDepth 20000 in
theorem k158_212 : mjCode 158 212 = some (.imul, 1, 0, 0) := by decide +kernel
theorem p158_212 {s0 s1 s2 s3 s4 : Int} {q0 q1 q2 q3 q4 q5 q6 q7 : MV} {ds : Ds} {m : Mm} {Q : Ds → Mm → List MV → Prop} : WP 158 212 [q0, q1, q2, q3, q4, q5, q6, q7] [(0, s0), (0, s1), (2, s2), (0, s3), (2, s4)] ds m Q = (WP 158 213 [q0, q1, q2, q3, q4, q5, q6, q7] [(0, w32 (s1 * s0)), (2, s2), (0, s3), (2, s4)] ds m Q) := P_nx k158_212 rfl
set_option maxRecDepth 20000 in
theorem k158_213 : mjCode 158 213 = some (.iload_n 1, 1, 0, 0) := by decide +kernel
theorem p158_213 {l1 s0 s1 s2 s3 : Int} {q0 q2 q3 q4 q5 q6 q7 : MV} {ds : Ds} {m : Mm} {Q : Ds → Mm → List MV → Prop} : WP 158 213 [q0, (0, l1), q2, q3, q4, q5, q6, q7] [(0, s0), (2, s1), (0, s2), (2, s3)] ds m Q = (WP 158 214 [q0, (0, l1), q2, q3, q4, q5, q6, q7] [(0, l1), (0, s0), (2, s1), (0, s2), (2, s3)] ds m Q) := P_nx k158_213 rfl
set_option maxRecDepth 20000 in
theorem k158_214 : mjCode 158 214 = some (.iadd, 1, 0, 0) := by decide +kernel
theorem p158_214 {s0 s1 s2 s3 s4 : Int} {q0 q1 q2 q3 q4 q5 q6 q7 : MV} {ds : Ds} {m : Mm} {Q : Ds → Mm → List MV → Prop} : WP 158 214 [q0, q1, q2, q3, q4, q5, q6, q7] [(0, s0), (0, s1), (2, s2), (0, s3), (2, s4)] ds m Q = (WP 158 215 [q0, q1, q2, q3, q4, q5, q6, q7] [(0, w32 (s1 + s0)), (2, s2), (0, s3), (2, s4)] ds m Q) := P_nx k158_214 rfl
set_option maxRecDepth 20000 in
theorem k158_215 : mjCode 158 215 = some (.baload, 1, 0, 0) := by decide +kernel
theorem p158_215 {s0 s1 s2 s3 : Int} {q0 q1 q2 q3 q4 q5 q6 q7 : MV} {ds : Ds} {m : Mm} {Q : Ds → Mm → List MV → Prop} : WP 158 215 [q0, q1, q2, q3, q4, q5, q6, q7] [(0, s0), (2, s1), (0, s2), (2, s3)] ds m Q = ((dk ds s1 = 11 ∧ 0 ≤ s0 ∧ s0 < dl ds s1 ∧ WP 158 216 [q0, q1, q2, q3, q4, q5, q6, q7] [(0, m s1 s0), (0, s2), (2, s3)] ds m Q)) := P_g3 k158_215 rfl
set_option maxRecDepth 20000 in
theorem k158_216 : mjCode 158 216 = some (.ifCond .ne 8, 3, 224, 0) := by decide +kernel
theorem p158_216 {s0 s1 s2 : Int} {q0 q1 q2 q3 q4 q5 q6 q7 : MV} {ds : Ds} {m : Mm} {Q : Ds → Mm → List MV → Prop} : WP 158 216 [q0, q1, q2, q3, q4, q5, q6, q7] [(0, s0), (0, s1), (2, s2)] ds m Q = (if s0 = 0 then WP 158 219 [q0, q1, q2, q3, q4, q5, q6, q7] [(0, s1), (2, s2)] ds m Q else WP 158 224 [q0, q1, q2, q3, q4, q5, q6, q7] [(0, s1), (2, s2)] ds m Q) := P_if k158_216 rfl
set_option maxRecDepth 20000 in
theorem k158_219 : mjCode 158 219 = some (.iload 7, 2, 0, 0) := by decide +kernel
theorem p158_219 {l7 s0 s1 : Int} {q0 q1 q2 q3 q4 q5 q6 : MV} {ds : Ds} {m : Mm} {Q : Ds → Mm → List MV → Prop} : WP 158 219 [q0, q1, q2, q3, q4, q5, q6, (0, l7)] [(0, s0), (2, s1)] ds m Q = (WP 158 221 [q0, q1, q2, q3, q4, q5, q6, (0, l7)] [(0, l7), (0, s0), (2, s1)] ds m Q) := P_nx k158_219 rfl
set_option maxRecDepth 20000 in
theorem k158_221 : mjCode 158 221 = some (.ifCond .eq 7, 3, 228, 0) := by decide +kernel
theorem p158_221 {s0 s1 s2 : Int} {q0 q1 q2 q3 q4 q5 q6 q7 : MV} {ds : Ds} {m : Mm} {Q : Ds → Mm → List MV → Prop} : WP 158 221 [q0, q1, q2, q3, q4, q5, q6, q7] [(0, s0), (0, s1), (2, s2)] ds m Q = (if s0 = 0 then WP 158 228 [q0, q1, q2, q3, q4, q5, q6, q7] [(0, s1), (2, s2)] ds m Q else WP 158 224 [q0, q1, q2, q3, q4, q5, q6, q7] [(0, s1), (2, s2)] ds m Q) := P_if k158_221 rfl
set_option maxRecDepth 20000 in
theorem k158_224 : mjCode 158 224 = some (.iconst 1, 1, 0, 0) := by decide +kernel
theorem p158_224 {s0 s1 : Int} {q0 q1 q2 q3 q4 q5 q6 q7 : MV} {ds : Ds} {m : Mm} {Q : Ds → Mm → List MV → Prop} : WP 158 224 [q0, q1, q2, q3, q4, q5, q6, q7] [(0, s0), (2, s1)] ds m Q = (WP 158 225 [q0, q1, q2, q3, q4, q5, q6, q7] [(0, 1), (0, s0), (2, s1)] ds m Q) := P_nx k158_224 rfl
set_option maxRecDepth 20000 in
theorem k158_225 : mjCode 158 225 = some (.goto 4, 3, 229, 0) := by decide +kernel
theorem p158_225 {s0 s1 s2 : Int} {q0 q1 q2 q3 q4 q5 q6 q7 : MV} {ds : Ds} {m : Mm} {Q : Ds → Mm → List MV → Prop} : WP 158 225 [q0, q1, q2, q3, q4, q5, q6, q7] [(0, s0), (0, s1), (2, s2)] ds m Q = (WP 158 229 [q0, q1, q2, q3, q4, q5, q6, q7] [(0, s0), (0, s1), (2, s2)] ds m Q) := P_nx k158_225 rfl
set_option maxRecDepth 20000 in
theorem k158_228 : mjCode 158 228 = some (.iconst 0, 1, 0, 0) := by decide +kernel
theorem p158_228 {s0 s1 : Int} {q0 q1 q2 q3 q4 q5 q6 q7 : MV} {ds : Ds} {m : Mm} {Q : Ds → Mm → List MV → Prop} : WP 158 228 [q0, q1, q2, q3, q4, q5, q6, q7] [(0, s0), (2, s1)] ds m Q = (WP 158 229 [q0, q1, q2, q3, q4, q5, q6, q7] [(0, 0), (0, s0), (2, s1)] ds m Q) := P_nx k158_228 rfl
set_option maxRecDepth 20000 in
theorem k158_229 : mjCode 158 229 = some (.bastore, 1, 0, 0) := by decide +kernel
theorem p158_229 {s0 s1 s2 : Int} {q0 q1 q2 q3 q4 q5 q6 q7 : MV} {ds : Ds} {m : Mm} {Q : Ds → Mm → List MV → Prop} : WP 158 229 [q0, q1, q2, q3, q4, q5, q6, q7] [(0, s0), (0, s1), (2, s2)] ds m Q = (((s0 = 0 ∨ s0 = 1) ∧ dk ds s2 = 11 ∧ 0 ≤ s1 ∧ s1 < dl ds s2 ∧ WP 158 230 [q0, q1, q2, q3, q4, q5, q6, q7] [] ds (up m s2 s1 s0) Q)) := P_s4 k158_229 rfl
set_option maxRecDepth 20000 in
theorem k158_230 : mjCode 158 230 = some (.aload_n 0, 1, 0, 0) := by decide +kernel
theorem p158_230 {l0 : Int} {q1 q2 q3 q4 q5 q6 q7 : MV} {ds : Ds} {m : Mm} {Q : Ds → Mm → List MV → Prop} : WP 158 230 [(2, l0), q1, q2, q3, q4, q5, q6, q7] [] ds m Q = (WP 158 231 [(2, l0), q1, q2, q3, q4, q5, q6, q7] [(2, l0)] ds m Q) := P_nx k158_230 rfl
set_option maxRecDepth 20000 in
theorem k158_231 : mjCode 158 231 = some (.getfield 84, 3, 7, 29) := by decide +kernel
theorem p158_231 {s0 : Int} {q0 q1 q2 q3 q4 q5 q6 q7 : MV} {ds : Ds} {m : Mm} {Q : Ds → Mm → List MV → Prop} : WP 158 231 [q0, q1, q2, q3, q4, q5, q6, q7] [(2, s0)] ds m Q = ((dk ds s0 = 7 ∧ WP 158 234 [q0, q1, q2, q3, q4, q5, q6, q7] [(2, m s0 29)] ds m Q)) := P_gd k158_231 rfl
set_option maxRecDepth 20000 in
theorem k158_234 : mjCode 158 234 = some (.iload_n 1, 1, 0, 0) := by decide +kernel
theorem p158_234 {l1 s0 : Int} {q0 q2 q3 q4 q5 q6 q7 : MV} {ds : Ds} {m : Mm} {Q : Ds → Mm → List MV → Prop} : WP 158 234 [q0, (0, l1), q2, q3, q4, q5, q6, q7] [(2, s0)] ds m Q = (WP 158 235 [q0, (0, l1), q2, q3, q4, q5, q6, q7] [(0, l1), (2, s0)] ds m Q) := P_nx k158_234 rfl
set_option maxRecDepth 20000 in
theorem k158_235 : mjCode 158 235 = some (.iaload, 1, 0, 0) := by decide +kernel
theorem p158_235 {s0 s1 : Int} {q0 q1 q2 q3 q4 q5 q6 q7 : MV} {ds : Ds} {m : Mm} {Q : Ds → Mm → List MV → Prop} : WP 158 235 [q0, q1, q2, q3, q4, q5, q6, q7] [(0, s0), (2, s1)] ds m Q = ((dk ds s1 = 10 ∧ 0 ≤ s0 ∧ s0 < dl ds s1 ∧ WP 158 236 [q0, q1, q2, q3, q4, q5, q6, q7] [(0, m s1 s0)] ds m Q)) := P_g3 k158_235 rfl
set_option maxRecDepth 20000 in
theorem k158_236 : mjCode 158 236 = some (.iconst (-1), 1, 0, 0) := by decide +kernel
theorem p158_236 {s0 : Int} {q0 q1 q2 q3 q4 q5 q6 q7 : MV} {ds : Ds} {m : Mm} {Q : Ds → Mm → List MV → Prop} : WP 158 236 [q0, q1, q2, q3, q4, q5, q6, q7] [(0, s0)] ds m Q = (WP 158 237 [q0, q1, q2, q3, q4, q5, q6, q7] [(0, (-1)), (0, s0)] ds m Q) := P_nx k158_236 rfl
set_option maxRecDepth 20000 in
theorem k158_237 : mjCode 158 237 = some (.if_icmp .eq 24, 3, 261, 0) := by decide +kernel
theorem p158_237 {s0 s1 : Int} {q0 q1 q2 q3 q4 q5 q6 q7 : MV} {ds : Ds} {m : Mm} {Q : Ds → Mm → List MV → Prop} : WP 158 237 [q0, q1, q2, q3, q4, q5, q6, q7] [(0, s0), (0, s1)] ds m Q = (if s1 = s0 then WP 158 261 [q0, q1, q2, q3, q4, q5, q6, q7] [] ds m Q else WP 158 240 [q0, q1, q2, q3, q4, q5, q6, q7] [] ds m Q) := P_if k158_237 rfl
set_option maxRecDepth 20000 in
theorem k158_240 : mjCode 158 240 = some (.aload_n 0, 1, 0, 0) := by decide +kernel
theorem p158_240 {l0 : Int} {q1 q2 q3 q4 q5 q6 q7 : MV} {ds : Ds} {m : Mm} {Q : Ds → Mm → List MV → Prop} : WP 158 240 [(2, l0), q1, q2, q3, q4, q5, q6, q7] [] ds m Q = (WP 158 241 [(2, l0), q1, q2, q3, q4, q5, q6, q7] [(2, l0)] ds m Q) := P_nx k158_240 rfl
set_option maxRecDepth 20000 in
theorem k158_241 : mjCode 158 241 = some (.aload_n 0, 1, 0, 0) := by decide +kernel
theorem p158_241 {l0 s0 : Int} {q1 q2 q3 q4 q5 q6 q7 : MV} {ds : Ds} {m : Mm} {Q : Ds → Mm → List MV → Prop} : WP 158 241 [(2, l0), q1, q2, q3, q4, q5, q6, q7] [(2, s0)] ds m Q = (WP 158 242 [(2, l0), q1, q2, q3, q4, q5, q6, q7] [(2, l0), (2, s0)] ds m Q) := P_nx k158_241 rfl
set_option maxRecDepth 20000 in
theorem k158_242 : mjCode 158 242 = some (.getfield 84, 3, 7, 29) := by decide +kernel
theorem p158_242 {s0 s1 : Int} {q0 q1 q2 q3 q4 q5 q6 q7 : MV} {ds : Ds} {m : Mm} {Q : Ds → Mm → List MV → Prop} : WP 158 242 [q0, q1, q2, q3, q4, q5, q6, q7] [(2, s0), (2, s1)] ds m Q = ((dk ds s0 = 7 ∧ WP 158 245 [q0, q1, q2, q3, q4, q5, q6, q7] [(2, m s0 29), (2, s1)] ds m Q)) := P_gd k158_242 rfl
set_option maxRecDepth 20000 in
theorem k158_245 : mjCode 158 245 = some (.iload_n 1, 1, 0, 0) := by decide +kernel
theorem p158_245 {l1 s0 s1 : Int} {q0 q2 q3 q4 q5 q6 q7 : MV} {ds : Ds} {m : Mm} {Q : Ds → Mm → List MV → Prop} : WP 158 245 [q0, (0, l1), q2, q3, q4, q5, q6, q7] [(2, s0), (2, s1)] ds m Q = (WP 158 246 [q0, (0, l1), q2, q3, q4, q5, q6, q7] [(0, l1), (2, s0), (2, s1)] ds m Q) := P_nx k158_245 rfl
set_option maxRecDepth 20000 in
theorem k158_246 : mjCode 158 246 = some (.iaload, 1, 0, 0) := by decide +kernel
theorem p158_246 {s0 s1 s2 : Int} {q0 q1 q2 q3 q4 q5 q6 q7 : MV} {ds : Ds} {m : Mm} {Q : Ds → Mm → List MV → Prop} : WP 158 246 [q0, q1, q2, q3, q4, q5, q6, q7] [(0, s0), (2, s1), (2, s2)] ds m Q = ((dk ds s1 = 10 ∧ 0 ≤ s0 ∧ s0 < dl ds s1 ∧ WP 158 247 [q0, q1, q2, q3, q4, q5, q6, q7] [(0, m s1 s0), (2, s2)] ds m Q)) := P_g3 k158_246 rfl
set_option maxRecDepth 20000 in
theorem k158_247 : mjCode 158 247 = some (.iload_n 1, 1, 0, 0) := by decide +kernel
theorem p158_247 {l1 s0 s1 : Int} {q0 q2 q3 q4 q5 q6 q7 : MV} {ds : Ds} {m : Mm} {Q : Ds → Mm → List MV → Prop} : WP 158 247 [q0, (0, l1), q2, q3, q4, q5, q6, q7] [(0, s0), (2, s1)] ds m Q = (WP 158 248 [q0, (0, l1), q2, q3, q4, q5, q6, q7] [(0, l1), (0, s0), (2, s1)] ds m Q) := P_nx k158_247 rfl
set_option maxRecDepth 20000 in
theorem k158_248 : mjCode 158 248 = some (.iload_n 2, 1, 0, 0) := by decide +kernel
theorem p158_248 {l2 s0 s1 s2 : Int} {q0 q1 q3 q4 q5 q6 q7 : MV} {ds : Ds} {m : Mm} {Q : Ds → Mm → List MV → Prop} : WP 158 248 [q0, q1, (0, l2), q3, q4, q5, q6, q7] [(0, s0), (0, s1), (2, s2)] ds m Q = (WP 158 249 [q0, q1, (0, l2), q3, q4, q5, q6, q7] [(0, l2), (0, s0), (0, s1), (2, s2)] ds m Q) := P_nx k158_248 rfl
set_option maxRecDepth 20000 in
theorem k158_249 : mjCode 158 249 = some (.iconst 2, 1, 0, 0) := by decide +kernel
theorem p158_249 {s0 s1 s2 s3 : Int} {q0 q1 q2 q3 q4 q5 q6 q7 : MV} {ds : Ds} {m : Mm} {Q : Ds → Mm → List MV → Prop} : WP 158 249 [q0, q1, q2, q3, q4, q5, q6, q7] [(0, s0), (0, s1), (0, s2), (2, s3)] ds m Q = (WP 158 250 [q0, q1, q2, q3, q4, q5, q6, q7] [(0, 2), (0, s0), (0, s1), (0, s2), (2, s3)] ds m Q) := P_nx k158_249 rfl
set_option maxRecDepth 20000 in
theorem k158_250 : mjCode 158 250 = some (.iadd, 1, 0, 0) := by decide +kernel
theorem p158_250 {s0 s1 s2 s3 s4 : Int} {q0 q1 q2 q3 q4 q5 q6 q7 : MV} {ds : Ds} {m : Mm} {Q : Ds → Mm → List MV → Prop} : WP 158 250 [q0, q1, q2, q3, q4, q5, q6, q7] [(0, s0), (0, s1), (0, s2), (0, s3), (2, s4)] ds m Q = (WP 158 251 [q0, q1, q2, q3, q4, q5, q6, q7] [(0, w32 (s1 + s0)), (0, s2), (0, s3), (2, s4)] ds m Q) := P_nx k158_250 rfl
set_option maxRecDepth 20000 in
theorem k158_251 : mjCode 158 251 = some (.iconst 4, 1, 0, 0) := by decide +kernel
theorem p158_251 {s0 s1 s2 s3 : Int} {q0 q1 q2 q3 q4 q5 q6 q7 : MV} {ds : Ds} {m : Mm} {Q : Ds → Mm → List MV → Prop} : WP 158 251 [q0, q1, q2, q3, q4, q5, q6, q7] [(0, s0), (0, s1), (0, s2), (2, s3)] ds m Q = (WP 158 252 [q0, q1, q2, q3, q4, q5, q6, q7] [(0, 4), (0, s0), (0, s1), (0, s2), (2, s3)] ds m Q) := P_nx k158_251 rfl
set_option maxRecDepth 20000 in
theorem k158_252 : mjCode 158 252 = some (.irem, 1, 0, 0) := by decide +kernel
theorem p158_252 {s0 s1 s2 s3 s4 : Int} {q0 q1 q2 q3 q4 q5 q6 q7 : MV} {ds : Ds} {m : Mm} {Q : Ds → Mm → List MV → Prop} : WP 158 252 [q0, q1, q2, q3, q4, q5, q6, q7] [(0, s0), (0, s1), (0, s2), (0, s3), (2, s4)] ds m Q = ((¬ s0 = 0 ∧ WP 158 253 [q0, q1, q2, q3, q4, q5, q6, q7] [(0, jrem s1 s0), (0, s2), (0, s3), (2, s4)] ds m Q)) := P_dv k158_252 rfl
set_option maxRecDepth 20000 in
theorem k158_253 : mjCode 158 253 = some (.iload 5, 2, 0, 0) := by decide +kernel
theorem p158_253 {l5 s0 s1 s2 s3 : Int} {q0 q1 q2 q3 q4 q6 q7 : MV} {ds : Ds} {m : Mm} {Q : Ds → Mm → List MV → Prop} : WP 158 253 [q0, q1, q2, q3, q4, (0, l5), q6, q7] [(0, s0), (0, s1), (0, s2), (2, s3)] ds m Q = (WP 158 255 [q0, q1, q2, q3, q4, (0, l5), q6, q7] [(0, l5), (0, s0), (0, s1), (0, s2), (2, s3)] ds m Q) := P_nx k158_253 rfl
set_option maxRecDepth 20000 in
theorem k158_255 : mjCode 158 255 = some (.invokevirtual 228, 3, 160, 5) := by decide +kernel
theorem p158_255 {s0 s1 s2 s3 s4 : Int} {q0 q1 q2 q3 q4 q5 q6 q7 : MV} {ds : Ds} {m : Mm} {Q : Ds → Mm → List MV → Prop} : WP 158 255 [q0, q1, q2, q3, q4, q5, q6, q7] [(0, s0), (0, s1), (0, s2), (0, s3), (2, s4)] ds m Q = ((dk ds s4 = 7 ∧ WP 159 0 [(2, s4), (0, s3), (0, s2), (0, s1), (0, s0)] [] ds m (fun d2 m2 r2 => WP 158 258 [q0, q1, q2, q3, q4, q5, q6, q7] (r2 ++ []) d2 m2 Q))) := P_cv k158_255 mx159 mo159 rfl rfl rfl rfl rfl rfl rfl rfl
set_option maxRecDepth 20000 in
theorem k158_258 : mjCode 158 258 = some (.goto 16, 3, 274, 0) := by decide +kernel
theorem p158_258 {q0 q1 q2 q3 q4 q5 q6 q7 : MV} {ds : Ds} {m : Mm} {Q : Ds → Mm → List MV → Prop} : WP 158 258 [q0, q1, q2, q3, q4, q5, q6, q7] [] ds m Q = (WP 158 274 [q0, q1, q2, q3, q4, q5, q6, q7] [] ds m Q) := P_nx k158_258 rfl
set_option maxRecDepth 20000 in
theorem k158_261 : mjCode 158 261 = some (.iload 7, 2, 0, 0) := by decide +kernel
theorem p158_261 {l7 : Int} {q0 q1 q2 q3 q4 q5 q6 : MV} {ds : Ds} {m : Mm} {Q : Ds → Mm → List MV → Prop} : WP 158 261 [q0, q1, q2, q3, q4, q5, q6, (0, l7)] [] ds m Q = (WP 158 263 [q0, q1, q2, q3, q4, q5, q6, (0, l7)] [(0, l7)] ds m Q) := P_nx k158_261 rfl
set_option maxRecDepth 20000 in
theorem k158_263 : mjCode 158 263 = some (.ifCond .ne 11, 3, 274, 0) := by decide +kernel
theorem p158_263 {s0 : Int} {q0 q1 q2 q3 q4 q5 q6 q7 : MV} {ds : Ds} {m : Mm} {Q : Ds → Mm → List MV → Prop} : WP 158 263 [q0, q1, q2, q3, q4, q5, q6, q7] [(0, s0)] ds m Q = (if s0 = 0 then WP 158 266 [q0, q1, q2, q3, q4, q5, q6, q7] [] ds m Q else WP 158 274 [q0, q1, q2, q3, q4, q5, q6, q7] [] ds m Q) := P_if k158_263 rfl
set_option maxRecDepth 20000 in
theorem k158_266 : mjCode 158 266 = some (.aload_n 0, 1, 0, 0) := by decide +kernel
theorem p158_266 {l0 : Int} {q1 q2 q3 q4 q5 q6 q7 : MV} {ds : Ds} {m : Mm} {Q : Ds → Mm → List MV → Prop} : WP 158 266 [(2, l0), q1, q2, q3, q4, q5, q6, q7] [] ds m Q = (WP 158 267 [(2, l0), q1, q2, q3, q4, q5, q6, q7] [(2, l0)] ds m Q) := P_nx k158_266 rfl
set_option maxRecDepth 20000 in
theorem k158_267 : mjCode 158 267 = some (.iload_n 1, 1, 0, 0) := by decide +kernel
theorem p158_267 {l1 s0 : Int} {q0 q2 q3 q4 q5 q6 q7 : MV} {ds : Ds} {m : Mm} {Q : Ds → Mm → List MV → Prop} : WP 158 267 [q0, (0, l1), q2, q3, q4, q5, q6, q7] [(2, s0)] ds m Q = (WP 158 268 [q0, (0, l1), q2, q3, q4, q5, q6, q7] [(0, l1), (2, s0)] ds m Q) := P_nx k158_267 rfl
set_option maxRecDepth 20000 in
theorem k158_268 : mjCode 158 268 = some (.iload_n 2, 1, 0, 0) := by decide +kernel
theorem p158_268 {l2 s0 s1 : Int} {q0 q1 q3 q4 q5 q6 q7 : MV} {ds : Ds} {m : Mm} {Q : Ds → Mm → List MV → Prop} : WP 158 268 [q0, q1, (0, l2), q3, q4, q5, q6, q7] [(0, s0), (2, s1)] ds m Q = (WP 158 269 [q0, q1, (0, l2), q3, q4, q5, q6, q7] [(0, l2), (0, s0), (2, s1)] ds m Q) := P_nx k158_268 rfl
set_option maxRecDepth 20000 in
theorem k158_269 : mjCode 158 269 = some (.iload 5, 2, 0, 0) := by decide +kernel
theorem p158_269 {l5 s0 s1 s2 : Int} {q0 q1 q2 q3 q4 q6 q7 : MV} {ds : Ds} {m : Mm} {Q : Ds → Mm → List MV → Prop} : WP 158 269 [q0, q1, q2, q3, q4, (0, l5), q6, q7] [(0, s0), (0, s1), (2, s2)] ds m Q = (WP 158 271 [q0, q1, q2, q3, q4, (0, l5), q6, q7] [(0, l5), (0, s0), (0, s1), (2, s2)] ds m Q) := P_nx k158_269 rfl
set_option maxRecDepth 20000 in
theorem k158_271 : mjCode 158 271 = some (.invokevirtual 231, 3, 161, 4) := by decide +kernel
theorem p158_271 {s0 s1 s2 s3 : Int} {q0 q1 q2 q3 q4 q5 q6 q7 : MV} {ds : Ds} {m : Mm} {Q : Ds → Mm → List MV → Prop} : WP 158 271 [q0, q1, q2, q3, q4, q5, q6, q7] [(0, s0), (0, s1), (0, s2), (2, s3)] ds m Q = ((dk ds s3 = 7 ∧ WP 160 0 [(2, s3), (0, s2), (0, s1), (0, s0), (3, 0), (3, 0), (3, 0)] [] ds m (fun d2 m2 r2 => WP 158 274 [q0, q1, q2, q3, q4, q5, q6, q7] (r2 ++ []) d2 m2 Q))) := P_cv k158_271 mx160 mo160 rfl rfl rfl rfl rfl rfl rfl rfl
set_option maxRecDepth 20000 in
theorem k158_274 : mjCode 158 274 = some (.return_, 1, 0, 0) := by decide +kernel
theorem p158_274 {q0 q1 q2 q3 q4 q5 q6 q7 : MV} {ds : Ds} {m : Mm} {Q : Ds → Mm → List MV → Prop} : WP 158 274 [q0, q1, q2, q3, q4, q5, q6, q7] [] ds m Q = (Q ds m []) := P_rv k158_274 rk158
set_option maxRecDepth 20000 in
theorem k159_0 : mjCode 159 0 = some (.aload_n 0, 1, 0, 0) := by decide +kernel
theorem p159_0 {l0 : Int} {q1 q2 q3 q4 : MV} {ds : Ds} {m : Mm} {Q : Ds → Mm → List MV → Prop} : WP 159 0 [(2, l0), q1, q2, q3, q4] [] ds m Q = (WP 159 1 [(2, l0), q1, q2, q3, q4] [(2, l0)] ds m Q) := P_nx k159_0 rfl
set_option maxRecDepth 20000 in
theorem k159_1 : mjCode 159 1 = some (.getfield 90, 3, 7, 32) := by decide +kernel
theorem p159_1 {s0 : Int} {q0 q1 q2 q3 q4 : MV} {ds : Ds} {m : Mm} {Q : Ds → Mm → List MV → Prop} : WP 159 1 [q0, q1, q2, q3, q4] [(2, s0)] ds m Q = ((dk ds s0 = 7 ∧ WP 159 4 [q0, q1, q2, q3, q4] [(2, m s0 32)] ds m Q)) := P_gd k159_1 rfl
set_option maxRecDepth 20000 in
theorem k159_4 : mjCode 159 4 = some (.iload_n 1, 1, 0, 0) := by decide +kernel
theorem p159_4 {l1 s0 : Int} {q0 q2 q3 q4 : MV} {ds : Ds} {m : Mm} {Q : Ds → Mm → List MV → Prop} : WP 159 4 [q0, (0, l1), q2, q3, q4] [(2, s0)] ds m Q = (WP 159 5 [q0, (0, l1), q2, q3, q4] [(0, l1), (2, s0)] ds m Q) := P_nx k159_4 rfl
set_option maxRecDepth 20000 in
theorem k159_5 : mjCode 159 5 = some (.iaload, 1, 0, 0) := by decide +kernel
theorem p159_5 {s0 s1 : Int} {q0 q1 q2 q3 q4 : MV} {ds : Ds} {m : Mm} {Q : Ds → Mm → List MV → Prop} : WP 159 5 [q0, q1, q2, q3, q4] [(0, s0), (2, s1)] ds m Q = ((dk ds s1 = 10 ∧ 0 ≤ s0 ∧ s0 < dl ds s1 ∧ WP 159 6 [q0, q1, q2, q3, q4] [(0, m s1 s0)] ds m Q)) := P_g3 k159_5 rfl
set_option maxRecDepth 20000 in
theorem k159_6 : mjCode 159 6 = some (.iconst (-1), 1, 0, 0) := by decide +kernel
theorem p159_6 {s0 : Int} {q0 q1 q2 q3 q4 : MV} {ds : Ds} {m : Mm} {Q : Ds → Mm → List MV → Prop} : WP 159 6 [q0, q1, q2, q3, q4] [(0, s0)] ds m Q = (WP 159 7 [q0, q1, q2, q3, q4] [(0, (-1)), (0, s0)] ds m Q) := P_nx k159_6 rfl
set_option maxRecDepth 20000 in
theorem k159_7 : mjCode 159 7 = some (.if_icmp .ne 51, 3, 58, 0) := by decide +kernel
theorem p159_7 {s0 s1 : Int} {q0 q1 q2 q3 q4 : MV} {ds : Ds} {m : Mm} {Q : Ds → Mm → List MV → Prop} : WP 159 7 [q0, q1, q2, q3, q4] [(0, s0), (0, s1)] ds m Q = (if s1 = s0 then WP 159 10 [q0, q1, q2, q3, q4] [] ds m Q else WP 159 58 [q0, q1, q2, q3, q4] [] ds m Q) := P_if k159_7 rfl
set_option maxRecDepth 20000 in
theorem k159_10 : mjCode 159 10 = some (.aload_n 0, 1, 0, 0) := by decide +kernel
theorem p159_10 {l0 : Int} {q1 q2 q3 q4 : MV} {ds : Ds} {m : Mm} {Q : Ds → Mm → List MV → Prop} : WP 159 10 [(2, l0), q1, q2, q3, q4] [] ds m Q = (WP 159 11 [(2, l0), q1, q2, q3, q4] [(2, l0)] ds m Q) := P_nx k159_10 rfl
set_option maxRecDepth 20000 in
theorem k159_11 : mjCode 159 11 = some (.getfield 13, 3, 7, 1) := by decide +kernel
theorem p159_11 {s0 : Int} {q0 q1 q2 q3 q4 : MV} {ds : Ds} {m : Mm} {Q : Ds → Mm → List MV → Prop} : WP 159 11 [q0, q1, q2, q3, q4] [(2, s0)] ds m Q = ((dk ds s0 = 7 ∧ WP 159 14 [q0, q1, q2, q3, q4] [(2, m s0 1)] ds m Q)) := P_gd k159_11 rfl
set_option maxRecDepth 20000 in
theorem k159_14 : mjCode 159 14 = some (.iload_n 2, 1, 0, 0) := by decide +kernel
theorem p159_14 {l2 s0 : Int} {q0 q1 q3 q4 : MV} {ds : Ds} {m : Mm} {Q : Ds → Mm → List MV → Prop} : WP 159 14 [q0, q1, (0, l2), q3, q4] [(2, s0)] ds m Q = (WP 159 15 [q0, q1, (0, l2), q3, q4] [(0, l2), (2, s0)] ds m Q) := P_nx k159_14 rfl
set_option maxRecDepth 20000 in
theorem k159_15 : mjCode 159 15 = some (.iaload, 1, 0, 0) := by decide +kernel
theorem p159_15 {s0 s1 : Int} {q0 q1 q2 q3 q4 : MV} {ds : Ds} {m : Mm} {Q : Ds → Mm → List MV → Prop} : WP 159 15 [q0, q1, q2, q3, q4] [(0, s0), (2, s1)] ds m Q = ((dk ds s1 = 10 ∧ 0 ≤ s0 ∧ s0 < dl ds s1 ∧ WP 159 16 [q0, q1, q2, q3, q4] [(0, m s1 s0)] ds m Q)) := P_g3 k159_15 rfl
set_option maxRecDepth 20000 in
theorem k159_16 : mjCode 159 16 = some (.bipush 9, 2, 0, 0) := by decide +kernel
theorem p159_16 {s0 : Int} {q0 q1 q2 q3 q4 : MV} {ds : Ds} {m : Mm} {Q : Ds → Mm → List MV → Prop} : WP 159 16 [q0, q1, q2, q3, q4] [(0, s0)] ds m Q = (WP 159 18 [q0, q1, q2, q3, q4] [(0, 9), (0, s0)] ds m Q) := P_nx k159_16 rfl
set_option maxRecDepth 20000 in
theorem k159_18 : mjCode 159 18 = some (.if_icmp .ne 17, 3, 35, 0) := by decide +kernel
theorem p159_18 {s0 s1 : Int} {q0 q1 q2 q3 q4 : MV} {ds : Ds} {m : Mm} {Q : Ds → Mm → List MV → Prop} : WP 159 18 [q0, q1, q2, q3, q4] [(0, s0), (0, s1)] ds m Q = (if s1 = s0 then WP 159 21 [q0, q1, q2, q3, q4] [] ds m Q else WP 159 35 [q0, q1, q2, q3, q4] [] ds m Q) := P_if k159_18 rfl
set_option maxRecDepth 20000 in
theorem k159_21 : mjCode 159 21 = some (.aload_n 0, 1, 0, 0) := by decide +kernel
theorem p159_21 {l0 : Int} {q1 q2 q3 q4 : MV} {ds : Ds} {m : Mm} {Q : Ds → Mm → List MV → Prop} : WP 159 21 [(2, l0), q1, q2, q3, q4] [] ds m Q = (WP 159 22 [(2, l0), q1, q2, q3, q4] [(2, l0)] ds m Q) := P_nx k159_21 rfl
set_option maxRecDepth 20000 in
theorem k159_22 : mjCode 159 22 = some (.getfield 16, 3, 7, 2) := by decide +kernel
theorem p159_22 {s0 : Int} {q0 q1 q2 q3 q4 : MV} {ds : Ds} {m : Mm} {Q : Ds → Mm → List MV → Prop} : WP 159 22 [q0, q1, q2, q3, q4] [(2, s0)] ds m Q = ((dk ds s0 = 7 ∧ WP 159 25 [q0, q1, q2, q3, q4] [(2, m s0 2)] ds m Q)) := P_gd k159_22 rfl
set_option maxRecDepth 20000 in
theorem k159_25 : mjCode 159 25 = some (.iload_n 2, 1, 0, 0) := by decide +kernel
theorem p159_25 {l2 s0 : Int} {q0 q1 q3 q4 : MV} {ds : Ds} {m : Mm} {Q : Ds → Mm → List MV → Prop} : WP 159 25 [q0, q1, (0, l2), q3, q4] [(2, s0)] ds m Q = (WP 159 26 [q0, q1, (0, l2), q3, q4] [(0, l2), (2, s0)] ds m Q) := P_nx k159_25 rfl
set_option maxRecDepth 20000 in
theorem k159_26 : mjCode 159 26 = some (.iaload, 1, 0, 0) := by decide +kernel
theorem p159_26 {s0 s1 : Int} {q0 q1 q2 q3 q4 : MV} {ds : Ds} {m : Mm} {Q : Ds → Mm → List MV → Prop} : WP 159 26 [q0, q1, q2, q3, q4] [(0, s0), (2, s1)] ds m Q = ((dk ds s1 = 10 ∧ 0 ≤ s0 ∧ s0 < dl ds s1 ∧ WP 159 27 [q0, q1, q2, q3, q4] [(0, m s1 s0)] ds m Q)) := P_g3 k159_26 rfl
set_option maxRecDepth 20000 in
theorem k159_27 : mjCode 159 27 = some (.iload_n 3, 1, 0, 0) := by decide +kernel
theorem p159_27 {l3 s0 : Int} {q0 q1 q2 q4 : MV} {ds : Ds} {m : Mm} {Q : Ds → Mm → List MV → Prop} : WP 159 27 [q0, q1, q2, (0, l3), q4] [(0, s0)] ds m Q = (WP 159 28 [q0, q1, q2, (0, l3), q4] [(0, l3), (0, s0)] ds m Q) := P_nx k159_27 rfl
set_option maxRecDepth 20000 in
theorem k159_28 : mjCode 159 28 = some (.ishr, 1, 0, 0) := by decide +kernel
theorem p159_28 {s0 s1 : Int} {q0 q1 q2 q3 q4 : MV} {ds : Ds} {m : Mm} {Q : Ds → Mm → List MV → Prop} : WP 159 28 [q0, q1, q2, q3, q4] [(0, s0), (0, s1)] ds m Q = (WP 159 29 [q0, q1, q2, q3, q4] [(0, jshr s1 s0)] ds m Q) := P_nx k159_28 rfl
set_option maxRecDepth 20000 in
theorem k159_29 : mjCode 159 29 = some (.iconst 1, 1, 0, 0) := by decide +kernel
theorem p159_29 {s0 : Int} {q0 q1 q2 q3 q4 : MV} {ds : Ds} {m : Mm} {Q : Ds → Mm → List MV → Prop} : WP 159 29 [q0, q1, q2, q3, q4] [(0, s0)] ds m Q = (WP 159 30 [q0, q1, q2, q3, q4] [(0, 1), (0, s0)] ds m Q) := P_nx k159_29 rfl
set_option maxRecDepth 20000 in
theorem k159_30 : mjCode 159 30 = some (.iand, 1, 0, 0) := by decide +kernel
theorem p159_30 {s0 s1 : Int} {q0 q1 q2 q3 q4 : MV} {ds : Ds} {m : Mm} {Q : Ds → Mm → List MV → Prop} : WP 159 30 [q0, q1, q2, q3, q4] [(0, s0), (0, s1)] ds m Q = (WP 159 31 [q0, q1, q2, q3, q4] [(0, jand s1 s0)] ds m Q) := P_nx k159_30 rfl
set_option maxRecDepth 20000 in
theorem k159_31 : mjCode 159 31 = some (.iconst 1, 1, 0, 0) := by decide +kernel
theorem p159_31 {s0 : Int} {q0 q1 q2 q3 q4 : MV} {ds : Ds} {m : Mm} {Q : Ds → Mm → List MV → Prop} : WP 159 31 [q0, q1, q2, q3, q4] [(0, s0)] ds m Q = (WP 159 32 [q0, q1, q2, q3, q4] [(0, 1), (0, s0)] ds m Q) := P_nx k159_31 rfl
set_option maxRecDepth 20000 in
theorem k159_32 : mjCode 159 32 = some (.if_icmp .ne 26, 3, 58, 0) := by decide +kernel
theorem p159_32 {s0 s1 : Int} {q0 q1 q2 q3 q4 : MV} {ds : Ds} {m : Mm} {Q : Ds → Mm → List MV → Prop} : WP 159 32 [q0, q1, q2, q3, q4] [(0, s0), (0, s1)] ds m Q = (if s1 = s0 then WP 159 35 [q0, q1, q2, q3, q4] [] ds m Q else WP 159 58 [q0, q1, q2, q3, q4] [] ds m Q) := P_if k159_32 rfl
set_option maxRecDepth 20000 in
theorem k159_35 : mjCode 159 35 = some (.aload_n 0, 1, 0, 0) := by decide +kernel
theorem p159_35 {l0 : Int} {q1 q2 q3 q4 : MV} {ds : Ds} {m : Mm} {Q : Ds → Mm → List MV → Prop} : WP 159 35 [(2, l0), q1, q2, q3, q4] [] ds m Q = (WP 159 36 [(2, l0), q1, q2, q3, q4] [(2, l0)] ds m Q) := P_nx k159_35 rfl
set_option maxRecDepth 20000 in
theorem k159_36 : mjCode 159 36 = some (.getfield 90, 3, 7, 32) := by decide +kernel
theorem p159_36 {s0 : Int} {q0 q1 q2 q3 q4 : MV} {ds : Ds} {m : Mm} {Q : Ds → Mm → List MV → Prop} : WP 159 36 [q0, q1, q2, q3, q4] [(2, s0)] ds m Q = ((dk ds s0 = 7 ∧ WP 159 39 [q0, q1, q2, q3, q4] [(2, m s0 32)] ds m Q)) := P_gd k159_36 rfl
set_option maxRecDepth 20000 in
theorem k159_39 : mjCode 159 39 = some (.iload_n 1, 1, 0, 0) := by decide +kernel
theorem p159_39 {l1 s0 : Int} {q0 q2 q3 q4 : MV} {ds : Ds} {m : Mm} {Q : Ds → Mm → List MV → Prop} : WP 159 39 [q0, (0, l1), q2, q3, q4] [(2, s0)] ds m Q = (WP 159 40 [q0, (0, l1), q2, q3, q4] [(0, l1), (2, s0)] ds m Q) := P_nx k159_39 rfl
set_option maxRecDepth 20000 in
theorem k159_40 : mjCode 159 40 = some (.iload_n 3, 1, 0, 0) := by decide +kernel
theorem p159_40 {l3 s0 s1 : Int} {q0 q1 q2 q4 : MV} {ds : Ds} {m : Mm} {Q : Ds → Mm → List MV → Prop} : WP 159 40 [q0, q1, q2, (0, l3), q4] [(0, s0), (2, s1)] ds m Q = (WP 159 41 [q0, q1, q2, (0, l3), q4] [(0, l3), (0, s0), (2, s1)] ds m Q) := P_nx k159_40 rfl
set_option maxRecDepth 20000 in
theorem k159_41 : mjCode 159 41 = some (.iastore, 1, 0, 0) := by decide +kernel
theorem p159_41 {s0 s1 s2 : Int} {q0 q1 q2 q3 q4 : MV} {ds : Ds} {m : Mm} {Q : Ds → Mm → List MV → Prop} : WP 159 41 [q0, q1, q2, q3, q4] [(0, s0), (0, s1), (2, s2)] ds m Q = ((dk ds s2 = 10 ∧ 0 ≤ s1 ∧ s1 < dl ds s2 ∧ WP 159 42 [q0, q1, q2, q3, q4] [] ds (up m s2 s1 s0) Q)) := P_s3 k159_41 rfl
set_option maxRecDepth 20000 in
theorem k159_42 : mjCode 159 42 = some (.aload_n 0, 1, 0, 0) := by decide +kernel
theorem p159_42 {l0 : Int} {q1 q2 q3 q4 : MV} {ds : Ds} {m : Mm} {Q : Ds → Mm → List MV → Prop} : WP 159 42 [(2, l0), q1, q2, q3, q4] [] ds m Q = (WP 159 43 [(2, l0), q1, q2, q3, q4] [(2, l0)] ds m Q) := P_nx k159_42 rfl
set_option maxRecDepth 20000 in
theorem k159_43 : mjCode 159 43 = some (.getfield 93, 3, 7, 33) := by decide +kernel
theorem p159_43 {s0 : Int} {q0 q1 q2 q3 q4 : MV} {ds : Ds} {m : Mm} {Q : Ds → Mm → List MV → Prop} : WP 159 43 [q0, q1, q2, q3, q4] [(2, s0)] ds m Q = ((dk ds s0 = 7 ∧ WP 159 46 [q0, q1, q2, q3, q4] [(2, m s0 33)] ds m Q)) := P_gd k159_43 rfl
set_option maxRecDepth 20000 in
theorem k159_46 : mjCode 159 46 = some (.iload_n 1, 1, 0, 0) := by decide +kernel
theorem p159_46 {l1 s0 : Int} {q0 q2 q3 q4 : MV} {ds : Ds} {m : Mm} {Q : Ds → Mm → List MV → Prop} : WP 159 46 [q0, (0, l1), q2, q3, q4] [(2, s0)] ds m Q = (WP 159 47 [q0, (0, l1), q2, q3, q4] [(0, l1), (2, s0)] ds m Q) := P_nx k159_46 rfl
set_option maxRecDepth 20000 in
theorem k159_47 : mjCode 159 47 = some (.bipush 6, 2, 0, 0) := by decide +kernel
theorem p159_47 {s0 s1 : Int} {q0 q1 q2 q3 q4 : MV} {ds : Ds} {m : Mm} {Q : Ds → Mm → List MV → Prop} : WP 159 47 [q0, q1, q2, q3, q4] [(0, s0), (2, s1)] ds m Q = (WP 159 49 [q0, q1, q2, q3, q4] [(0, 6), (0, s0), (2, s1)] ds m Q) := P_nx k159_47 rfl
set_option maxRecDepth 20000 in
theorem k159_49 : mjCode 159 49 = some (.iastore, 1, 0, 0) := by decide +kernel
theorem p159_49 {s0 s1 s2 : Int} {q0 q1 q2 q3 q4 : MV} {ds : Ds} {m : Mm} {Q : Ds → Mm → List MV → Prop} : WP 159 49 [q0, q1, q2, q3, q4] [(0, s0), (0, s1), (2, s2)] ds m Q = ((dk ds s2 = 10 ∧ 0 ≤ s1 ∧ s1 < dl ds s2 ∧ WP 159 50 [q0, q1, q2, q3, q4] [] ds (up m s2 s1 s0) Q)) := P_s3 k159_49 rfl
set_option maxRecDepth 20000 in
theorem k159_50 : mjCode 159 50 = some (.aload_n 0, 1, 0, 0) := by decide +kernel
theorem p159_50 {l0 : Int} {q1 q2 q3 q4 : MV} {ds : Ds} {m : Mm} {Q : Ds → Mm → List MV → Prop} : WP 159 50 [(2, l0), q1, q2, q3, q4] [] ds m Q = (WP 159 51 [(2, l0), q1, q2, q3, q4] [(2, l0)] ds m Q) := P_nx k159_50 rfl
set_option maxRecDepth 20000 in
theorem k159_51 : mjCode 159 51 = some (.getfield 96, 3, 7, 34) := by decide +kernel
theorem p159_51 {s0 : Int} {q0 q1 q2 q3 q4 : MV} {ds : Ds} {m : Mm} {Q : Ds → Mm → List MV → Prop} : WP 159 51 [q0, q1, q2, q3, q4] [(2, s0)] ds m Q = ((dk ds s0 = 7 ∧ WP 159 54 [q0, q1, q2, q3, q4] [(2, m s0 34)] ds m Q)) := P_gd k159_51 rfl
set_option maxRecDepth 20000 in
theorem k159_54 : mjCode 159 54 = some (.iload_n 1, 1, 0, 0) := by decide +kernel
theorem p159_54 {l1 s0 : Int} {q0 q2 q3 q4 : MV} {ds : Ds} {m : Mm} {Q : Ds → Mm → List MV → Prop} : WP 159 54 [q0, (0, l1), q2, q3, q4] [(2, s0)] ds m Q = (WP 159 55 [q0, (0, l1), q2, q3, q4] [(0, l1), (2, s0)] ds m Q) := P_nx k159_54 rfl
set_option maxRecDepth 20000 in
theorem k159_55 : mjCode 159 55 = some (.iload 4, 2, 0, 0) := by decide +kernel
theorem p159_55 {l4 s0 s1 : Int} {q0 q1 q2 q3 : MV} {ds : Ds} {m : Mm} {Q : Ds → Mm → List MV → Prop} : WP 159 55 [q0, q1, q2, q3, (0, l4)] [(0, s0), (2, s1)] ds m Q = (WP 159 57 [q0, q1, q2, q3, (0, l4)] [(0, l4), (0, s0), (2, s1)] ds m Q) := P_nx k159_55 rfl
set_option maxRecDepth 20000 in
theorem k159_57 : mjCode 159 57 = some (.iastore, 1, 0, 0) := by decide +kernel
theorem p159_57 {s0 s1 s2 : Int} {q0 q1 q2 q3 q4 : MV} {ds : Ds} {m : Mm} {Q : Ds → Mm → List MV → Prop} : WP 159 57 [q0, q1, q2, q3, q4] [(0, s0), (0, s1), (2, s2)] ds m Q = ((dk ds s2 = 10 ∧ 0 ≤ s1 ∧ s1 < dl ds s2 ∧ WP 159 58 [q0, q1, q2, q3, q4] [] ds (up m s2 s1 s0) Q)) := P_s3 k159_57 rfl
set_option maxRecDepth 20000 in
theorem k159_58 : mjCode 159 58 = some (.return_, 1, 0, 0) := by decide +kernel
theorem p159_58 {q0 q1 q2 q3 q4 : MV} {ds : Ds} {m : Mm} {Q : Ds → Mm → List MV → Prop} : WP 159 58 [q0, q1, q2, q3, q4] [] ds m Q = (Q ds m []) := P_rv k159_58 rk159
set_option maxRecDepth 20000 in
theorem k160_0 : mjCode 160 0 = some (.aload_n 0, 1, 0, 0) := by decide +kernel
theorem p160_0 {l0 : Int} {q1 q2 q3 q4 q5 q6 : MV} {ds : Ds} {m : Mm} {Q : Ds → Mm → List MV → Prop} : WP 160 0 [(2, l0), q1, q2, q3, q4, q5, q6] [] ds m Q = (WP 160 1 [(2, l0), q1, q2, q3, q4, q5, q6] [(2, l0)] ds m Q) := P_nx k160_0 rfl
set_option maxRecDepth 20000 in
theorem k160_1 : mjCode 160 1 = some (.getfield 13, 3, 7, 1) := by decide +kernel
theorem p160_1 {s0 : Int} {q0 q1 q2 q3 q4 q5 q6 : MV} {ds : Ds} {m : Mm} {Q : Ds → Mm → List MV → Prop} : WP 160 1 [q0, q1, q2, q3, q4, q5, q6] [(2, s0)] ds m Q = ((dk ds s0 = 7 ∧ WP 160 4 [q0, q1, q2, q3, q4, q5, q6] [(2, m s0 1)] ds m Q)) := P_gd k160_1 rfl
set_option maxRecDepth 20000 in
theorem k160_4 : mjCode 160 4 = some (.iload_n 1, 1, 0, 0) := by decide +kernel
theorem p160_4 {l1 s0 : Int} {q0 q2 q3 q4 q5 q6 : MV} {ds : Ds} {m : Mm} {Q : Ds → Mm → List MV → Prop} : WP 160 4 [q0, (0, l1), q2, q3, q4, q5, q6] [(2, s0)] ds m Q = (WP 160 5 [q0, (0, l1), q2, q3, q4, q5, q6] [(0, l1), (2, s0)] ds m Q) := P_nx k160_4 rfl
set_option maxRecDepth 20000 in
theorem k160_5 : mjCode 160 5 = some (.iaload, 1, 0, 0) := by decide +kernel
theorem p160_5 {s0 s1 : Int} {q0 q1 q2 q3 q4 q5 q6 : MV} {ds : Ds} {m : Mm} {Q : Ds → Mm → List MV → Prop} : WP 160 5 [q0, q1, q2, q3, q4, q5, q6] [(0, s0), (2, s1)] ds m Q = ((dk ds s1 = 10 ∧ 0 ≤ s0 ∧ s0 < dl ds s1 ∧ WP 160 6 [q0, q1, q2, q3, q4, q5, q6] [(0, m s1 s0)] ds m Q)) := P_g3 k160_5 rfl
set_option maxRecDepth 20000 in
theorem k160_6 : mjCode 160 6 = some (.istore 4, 2, 0, 0) := by decide +kernel
theorem p160_6 {l3 s0 : Int} {q0 q1 q2 q4 q5 q6 : MV} {ds : Ds} {m : Mm} {Q : Ds → Mm → List MV → Prop} : WP 160 6 [q0, q1, q2, (0, l3), q4, q5, q6] [(0, s0)] ds m Q = (WP 160 8 [q0, q1, q2, (0, l3), (0, s0), q5, q6] [] ds m Q) := P_nx k160_6 rfl
set_option maxRecDepth 20000 in
theorem k160_8 : mjCode 160 8 = some (.aload_n 0, 1, 0, 0) := by decide +kernel
theorem p160_8 {l0 : Int} {q1 q2 q3 q4 q5 q6 : MV} {ds : Ds} {m : Mm} {Q : Ds → Mm → List MV → Prop} : WP 160 8 [(2, l0), q1, q2, q3, q4, q5, q6] [] ds m Q = (WP 160 9 [(2, l0), q1, q2, q3, q4, q5, q6] [(2, l0)] ds m Q) := P_nx k160_8 rfl
set_option maxRecDepth 20000 in
theorem k160_9 : mjCode 160 9 = some (.getfield 78, 3, 7, 27) := by decide +kernel
theorem p160_9 {s0 : Int} {q0 q1 q2 q3 q4 q5 q6 : MV} {ds : Ds} {m : Mm} {Q : Ds → Mm → List MV → Prop} : WP 160 9 [q0, q1, q2, q3, q4, q5, q6] [(2, s0)] ds m Q = ((dk ds s0 = 7 ∧ WP 160 12 [q0, q1, q2, q3, q4, q5, q6] [(2, m s0 27)] ds m Q)) := P_gd k160_9 rfl
set_option maxRecDepth 20000 in
theorem k160_12 : mjCode 160 12 = some (.iload_n 1, 1, 0, 0) := by decide +kernel
theorem p160_12 {l1 s0 : Int} {q0 q2 q3 q4 q5 q6 : MV} {ds : Ds} {m : Mm} {Q : Ds → Mm → List MV → Prop} : WP 160 12 [q0, (0, l1), q2, q3, q4, q5, q6] [(2, s0)] ds m Q = (WP 160 13 [q0, (0, l1), q2, q3, q4, q5, q6] [(0, l1), (2, s0)] ds m Q) := P_nx k160_12 rfl
set_option maxRecDepth 20000 in
theorem k160_13 : mjCode 160 13 = some (.dup2, 1, 0, 0) := by decide +kernel
theorem p160_13 {s0 s1 : Int} {q0 q1 q2 q3 q4 q5 q6 : MV} {ds : Ds} {m : Mm} {Q : Ds → Mm → List MV → Prop} : WP 160 13 [q0, q1, q2, q3, q4, q5, q6] [(0, s0), (2, s1)] ds m Q = (WP 160 14 [q0, q1, q2, q3, q4, q5, q6] [(0, s0), (2, s1), (0, s0), (2, s1)] ds m Q) := P_nx k160_13 rfl
set_option maxRecDepth 20000 in
theorem k160_14 : mjCode 160 14 = some (.iaload, 1, 0, 0) := by decide +kernel
theorem p160_14 {s0 s1 s2 s3 : Int} {q0 q1 q2 q3 q4 q5 q6 : MV} {ds : Ds} {m : Mm} {Q : Ds → Mm → List MV → Prop} : WP 160 14 [q0, q1, q2, q3, q4, q5, q6] [(0, s0), (2, s1), (0, s2), (2, s3)] ds m Q = ((dk ds s1 = 10 ∧ 0 ≤ s0 ∧ s0 < dl ds s1 ∧ WP 160 15 [q0, q1, q2, q3, q4, q5, q6] [(0, m s1 s0), (0, s2), (2, s3)] ds m Q)) := P_g3 k160_14 rfl
set_option maxRecDepth 20000 in
theorem k160_15 : mjCode 160 15 = some (.iconst 1, 1, 0, 0) := by decide +kernel
theorem p160_15 {s0 s1 s2 : Int} {q0 q1 q2 q3 q4 q5 q6 : MV} {ds : Ds} {m : Mm} {Q : Ds → Mm → List MV → Prop} : WP 160 15 [q0, q1, q2, q3, q4, q5, q6] [(0, s0), (0, s1), (2, s2)] ds m Q = (WP 160 16 [q0, q1, q2, q3, q4, q5, q6] [(0, 1), (0, s0), (0, s1), (2, s2)] ds m Q) := P_nx k160_15 rfl
set_option maxRecDepth 20000 in
theorem k160_16 : mjCode 160 16 = some (.iadd, 1, 0, 0) := by decide +kernel
theorem p160_16 {s0 s1 s2 s3 : Int} {q0 q1 q2 q3 q4 q5 q6 : MV} {ds : Ds} {m : Mm} {Q : Ds → Mm → List MV → Prop} : WP 160 16 [q0, q1, q2, q3, q4, q5, q6] [(0, s0), (0, s1), (0, s2), (2, s3)] ds m Q = (WP 160 17 [q0, q1, q2, q3, q4, q5, q6] [(0, w32 (s1 + s0)), (0, s2), (2, s3)] ds m Q) := P_nx k160_16 rfl
set_option maxRecDepth 20000 in
theorem k160_17 : mjCode 160 17 = some (.iastore, 1, 0, 0) := by decide +kernel
theorem p160_17 {s0 s1 s2 : Int} {q0 q1 q2 q3 q4 q5 q6 : MV} {ds : Ds} {m : Mm} {Q : Ds → Mm → List MV → Prop} : WP 160 17 [q0, q1, q2, q3, q4, q5, q6] [(0, s0), (0, s1), (2, s2)] ds m Q = ((dk ds s2 = 10 ∧ 0 ≤ s1 ∧ s1 < dl ds s2 ∧ WP 160 18 [q0, q1, q2, q3, q4, q5, q6] [] ds (up m s2 s1 s0) Q)) := P_s3 k160_17 rfl
set_option maxRecDepth 20000 in
theorem k160_18 : mjCode 160 18 = some (.aload_n 0, 1, 0, 0) := by decide +kernel
theorem p160_18 {l0 : Int} {q1 q2 q3 q4 q5 q6 : MV} {ds : Ds} {m : Mm} {Q : Ds → Mm → List MV → Prop} : WP 160 18 [(2, l0), q1, q2, q3, q4, q5, q6] [] ds m Q = (WP 160 19 [(2, l0), q1, q2, q3, q4, q5, q6] [(2, l0)] ds m Q) := P_nx k160_18 rfl
set_option maxRecDepth 20000 in
theorem k160_19 : mjCode 160 19 = some (.getfield 78, 3, 7, 27) := by decide +kernel
theorem p160_19 {s0 : Int} {q0 q1 q2 q3 q4 q5 q6 : MV} {ds : Ds} {m : Mm} {Q : Ds → Mm → List MV → Prop} : WP 160 19 [q0, q1, q2, q3, q4, q5, q6] [(2, s0)] ds m Q = ((dk ds s0 = 7 ∧ WP 160 22 [q0, q1, q2, q3, q4, q5, q6] [(2, m s0 27)] ds m Q)) := P_gd k160_19 rfl
set_option maxRecDepth 20000 in
theorem k160_22 : mjCode 160 22 = some (.iload_n 1, 1, 0, 0) := by decide +kernel
theorem p160_22 {l1 s0 : Int} {q0 q2 q3 q4 q5 q6 : MV} {ds : Ds} {m : Mm} {Q : Ds → Mm → List MV → Prop} : WP 160 22 [q0, (0, l1), q2, q3, q4, q5, q6] [(2, s0)] ds m Q = (WP 160 23 [q0, (0, l1), q2, q3, q4, q5, q6] [(0, l1), (2, s0)] ds m Q) := P_nx k160_22 rfl
set_option maxRecDepth 20000 in
theorem k160_23 : mjCode 160 23 = some (.iaload, 1, 0, 0) := by decide +kernel
theorem p160_23 {s0 s1 : Int} {q0 q1 q2 q3 q4 q5 q6 : MV} {ds : Ds} {m : Mm} {Q : Ds → Mm → List MV → Prop} : WP 160 23 [q0, q1, q2, q3, q4, q5, q6] [(0, s0), (2, s1)] ds m Q = ((dk ds s1 = 10 ∧ 0 ≤ s0 ∧ s0 < dl ds s1 ∧ WP 160 24 [q0, q1, q2, q3, q4, q5, q6] [(0, m s1 s0)] ds m Q)) := P_g3 k160_23 rfl
set_option maxRecDepth 20000 in
theorem k160_24 : mjCode 160 24 = some (.iconst 1, 1, 0, 0) := by decide +kernel
theorem p160_24 {s0 : Int} {q0 q1 q2 q3 q4 q5 q6 : MV} {ds : Ds} {m : Mm} {Q : Ds → Mm → List MV → Prop} : WP 160 24 [q0, q1, q2, q3, q4, q5, q6] [(0, s0)] ds m Q = (WP 160 25 [q0, q1, q2, q3, q4, q5, q6] [(0, 1), (0, s0)] ds m Q) := P_nx k160_24 rfl
set_option maxRecDepth 20000 in
theorem k160_25 : mjCode 160 25 = some (.if_icmp .ne 7, 3, 32, 0) := by decide +kernel
theorem p160_25 {s0 s1 : Int} {q0 q1 q2 q3 q4 q5 q6 : MV} {ds : Ds} {m : Mm} {Q : Ds → Mm → List MV → Prop} : WP 160 25 [q0, q1, q2, q3, q4, q5, q6] [(0, s0), (0, s1)] ds m Q = (if s1 = s0 then WP 160 28 [q0, q1, q2, q3, q4, q5, q6] [] ds m Q else WP 160 32 [q0, q1, q2, q3, q4, q5, q6] [] ds m Q) := P_if k160_25 rfl
set_option maxRecDepth 20000 in
theorem k160_28 : mjCode 160 28 = some (.iconst 1, 1, 0, 0) := by decide +kernel
theorem p160_28 {q0 q1 q2 q3 q4 q5 q6 : MV} {ds : Ds} {m : Mm} {Q : Ds → Mm → List MV → Prop} : WP 160 28 [q0, q1, q2, q3, q4, q5, q6] [] ds m Q = (WP 160 29 [q0, q1, q2, q3, q4, q5, q6] [(0, 1)] ds m Q) := P_nx k160_28 rfl
set_option maxRecDepth 20000 in
theorem k160_29 : mjCode 160 29 = some (.goto 4, 3, 33, 0) := by decide +kernel
theorem p160_29 {s0 : Int} {q0 q1 q2 q3 q4 q5 q6 : MV} {ds : Ds} {m : Mm} {Q : Ds → Mm → List MV → Prop} : WP 160 29 [q0, q1, q2, q3, q4, q5, q6] [(0, s0)] ds m Q = (WP 160 33 [q0, q1, q2, q3, q4, q5, q6] [(0, s0)] ds m Q) := P_nx k160_29 rfl
set_option maxRecDepth 20000 in
theorem k160_32 : mjCode 160 32 = some (.iconst 0, 1, 0, 0) := by decide +kernel
theorem p160_32 {q0 q1 q2 q3 q4 q5 q6 : MV} {ds : Ds} {m : Mm} {Q : Ds → Mm → List MV → Prop} : WP 160 32 [q0, q1, q2, q3, q4, q5, q6] [] ds m Q = (WP 160 33 [q0, q1, q2, q3, q4, q5, q6] [(0, 0)] ds m Q) := P_nx k160_32 rfl
set_option maxRecDepth 20000 in
theorem k160_33 : mjCode 160 33 = some (.istore 5, 2, 0, 0) := by decide +kernel
theorem p160_33 {l4 s0 : Int} {q0 q1 q2 q3 q5 q6 : MV} {ds : Ds} {m : Mm} {Q : Ds → Mm → List MV → Prop} : WP 160 33 [q0, q1, q2, q3, (0, l4), q5, q6] [(0, s0)] ds m Q = (WP 160 35 [q0, q1, q2, q3, (0, l4), (0, s0), q6] [] ds m Q) := P_nx k160_33 rfl
set_option maxRecDepth 20000 in
theorem k160_35 : mjCode 160 35 = some (.iload 4, 2, 0, 0) := by decide +kernel
theorem p160_35 {l4 : Int} {q0 q1 q2 q3 q5 q6 : MV} {ds : Ds} {m : Mm} {Q : Ds → Mm → List MV → Prop} : WP 160 35 [q0, q1, q2, q3, (0, l4), q5, q6] [] ds m Q = (WP 160 37 [q0, q1, q2, q3, (0, l4), q5, q6] [(0, l4)] ds m Q) := P_nx k160_35 rfl
set_option maxRecDepth 20000 in
theorem k160_37 : mjCode 160 37 = some (.iconst 1, 1, 0, 0) := by decide +kernel
theorem p160_37 {s0 : Int} {q0 q1 q2 q3 q4 q5 q6 : MV} {ds : Ds} {m : Mm} {Q : Ds → Mm → List MV → Prop} : WP 160 37 [q0, q1, q2, q3, q4, q5, q6] [(0, s0)] ds m Q = (WP 160 38 [q0, q1, q2, q3, q4, q5, q6] [(0, 1), (0, s0)] ds m Q) := P_nx k160_37 rfl
set_option maxRecDepth 20000 in
theorem k160_38 : mjCode 160 38 = some (.if_icmp .ne 56, 3, 94, 0) := by decide +kernel
theorem p160_38 {s0 s1 : Int} {q0 q1 q2 q3 q4 q5 q6 : MV} {ds : Ds} {m : Mm} {Q : Ds → Mm → List MV → Prop} : WP 160 38 [q0, q1, q2, q3, q4, q5, q6] [(0, s0), (0, s1)] ds m Q = (if s1 = s0 then WP 160 41 [q0, q1, q2, q3, q4, q5, q6] [] ds m Q else WP 160 94 [q0, q1, q2, q3, q4, q5, q6] [] ds m Q) := P_if k160_38 rfl
set_option maxRecDepth 20000 in
theorem k160_41 : mjCode 160 41 = some (.aload_n 0, 1, 0, 0) := by decide +kernel
theorem p160_41 {l0 : Int} {q1 q2 q3 q4 q5 q6 : MV} {ds : Ds} {m : Mm} {Q : Ds → Mm → List MV → Prop} : WP 160 41 [(2, l0), q1, q2, q3, q4, q5, q6] [] ds m Q = (WP 160 42 [(2, l0), q1, q2, q3, q4, q5, q6] [(2, l0)] ds m Q) := P_nx k160_41 rfl
set_option maxRecDepth 20000 in
theorem k160_42 : mjCode 160 42 = some (.getfield 81, 3, 7, 28) := by decide +kernel
theorem p160_42 {s0 : Int} {q0 q1 q2 q3 q4 q5 q6 : MV} {ds : Ds} {m : Mm} {Q : Ds → Mm → List MV → Prop} : WP 160 42 [q0, q1, q2, q3, q4, q5, q6] [(2, s0)] ds m Q = ((dk ds s0 = 7 ∧ WP 160 45 [q0, q1, q2, q3, q4, q5, q6] [(2, m s0 28)] ds m Q)) := P_gd k160_42 rfl
set_option maxRecDepth 20000 in
theorem k160_45 : mjCode 160 45 = some (.iload_n 1, 1, 0, 0) := by decide +kernel
theorem p160_45 {l1 s0 : Int} {q0 q2 q3 q4 q5 q6 : MV} {ds : Ds} {m : Mm} {Q : Ds → Mm → List MV → Prop} : WP 160 45 [q0, (0, l1), q2, q3, q4, q5, q6] [(2, s0)] ds m Q = (WP 160 46 [q0, (0, l1), q2, q3, q4, q5, q6] [(0, l1), (2, s0)] ds m Q) := P_nx k160_45 rfl
set_option maxRecDepth 20000 in
theorem k160_46 : mjCode 160 46 = some (.baload, 1, 0, 0) := by decide +kernel
theorem p160_46 {s0 s1 : Int} {q0 q1 q2 q3 q4 q5 q6 : MV} {ds : Ds} {m : Mm} {Q : Ds → Mm → List MV → Prop} : WP 160 46 [q0, q1, q2, q3, q4, q5, q6] [(0, s0), (2, s1)] ds m Q = ((dk ds s1 = 11 ∧ 0 ≤ s0 ∧ s0 < dl ds s1 ∧ WP 160 47 [q0, q1, q2, q3, q4, q5, q6] [(0, m s1 s0)] ds m Q)) := P_g3 k160_46 rfl
set_option maxRecDepth 20000 in
theorem k160_47 : mjCode 160 47 = some (.ifCond .ne 47, 3, 94, 0) := by decide +kernel
theorem p160_47 {s0 : Int} {q0 q1 q2 q3 q4 q5 q6 : MV} {ds : Ds} {m : Mm} {Q : Ds → Mm → List MV → Prop} : WP 160 47 [q0, q1, q2, q3, q4, q5, q6] [(0, s0)] ds m Q = (if s0 = 0 then WP 160 50 [q0, q1, q2, q3, q4, q5, q6] [] ds m Q else WP 160 94 [q0, q1, q2, q3, q4, q5, q6] [] ds m Q) := P_if k160_47 rfl
set_option maxRecDepth 20000 in
theorem k160_50 : mjCode 160 50 = some (.iload_n 2, 1, 0, 0) := by decide +kernel
theorem p160_50 {l2 : Int} {q0 q1 q3 q4 q5 q6 : MV} {ds : Ds} {m : Mm} {Q : Ds → Mm → List MV → Prop} : WP 160 50 [q0, q1, (0, l2), q3, q4, q5, q6] [] ds m Q = (WP 160 51 [q0, q1, (0, l2), q3, q4, q5, q6] [(0, l2)] ds m Q) := P_nx k160_50 rfl
set_option maxRecDepth 20000 in
theorem k160_51 : mjCode 160 51 = some (.iconst 2, 1, 0, 0) := by decide +kernel
theorem p160_51 {s0 : Int} {q0 q1 q2 q3 q4 q5 q6 : MV} {ds : Ds} {m : Mm} {Q : Ds → Mm → List MV → Prop} : WP 160 51 [q0, q1, q2, q3, q4, q5, q6] [(0, s0)] ds m Q = (WP 160 52 [q0, q1, q2, q3, q4, q5, q6] [(0, 2), (0, s0)] ds m Q) := P_nx k160_51 rfl
set_option maxRecDepth 20000 in
theorem k160_52 : mjCode 160 52 = some (.irem, 1, 0, 0) := by decide +kernel
theorem p160_52 {s0 s1 : Int} {q0 q1 q2 q3 q4 q5 q6 : MV} {ds : Ds} {m : Mm} {Q : Ds → Mm → List MV → Prop} : WP 160 52 [q0, q1, q2, q3, q4, q5, q6] [(0, s0), (0, s1)] ds m Q = ((¬ s0 = 0 ∧ WP 160 53 [q0, q1, q2, q3, q4, q5, q6] [(0, jrem s1 s0)] ds m Q)) := P_dv k160_52 rfl
set_option maxRecDepth 20000 in
theorem k160_53 : mjCode 160 53 = some (.aload_n 0, 1, 0, 0) := by decide +kernel
theorem p160_53 {l0 s0 : Int} {q1 q2 q3 q4 q5 q6 : MV} {ds : Ds} {m : Mm} {Q : Ds → Mm → List MV → Prop} : WP 160 53 [(2, l0), q1, q2, q3, q4, q5, q6] [(0, s0)] ds m Q = (WP 160 54 [(2, l0), q1, q2, q3, q4, q5, q6] [(2, l0), (0, s0)] ds m Q) := P_nx k160_53 rfl
set_option maxRecDepth 20000 in
theorem k160_54 : mjCode 160 54 = some (.getfield 16, 3, 7, 2) := by decide +kernel
theorem p160_54 {s0 s1 : Int} {q0 q1 q2 q3 q4 q5 q6 : MV} {ds : Ds} {m : Mm} {Q : Ds → Mm → List MV → Prop} : WP 160 54 [q0, q1, q2, q3, q4, q5, q6] [(2, s0), (0, s1)] ds m Q = ((dk ds s0 = 7 ∧ WP 160 57 [q0, q1, q2, q3, q4, q5, q6] [(2, m s0 2), (0, s1)] ds m Q)) := P_gd k160_54 rfl
set_option maxRecDepth 20000 in
theorem k160_57 : mjCode 160 57 = some (.iload_n 1, 1, 0, 0) := by decide +kernel
theorem p160_57 {l1 s0 s1 : Int} {q0 q2 q3 q4 q5 q6 : MV} {ds : Ds} {m : Mm} {Q : Ds → Mm → List MV → Prop} : WP 160 57 [q0, (0, l1), q2, q3, q4, q5, q6] [(2, s0), (0, s1)] ds m Q = (WP 160 58 [q0, (0, l1), q2, q3, q4, q5, q6] [(0, l1), (2, s0), (0, s1)] ds m Q) := P_nx k160_57 rfl
set_option maxRecDepth 20000 in
theorem k160_58 : mjCode 160 58 = some (.iaload, 1, 0, 0) := by decide +kernel
theorem p160_58 {s0 s1 s2 : Int} {q0 q1 q2 q3 q4 q5 q6 : MV} {ds : Ds} {m : Mm} {Q : Ds → Mm → List MV → Prop} : WP 160 58 [q0, q1, q2, q3, q4, q5, q6] [(0, s0), (2, s1), (0, s2)] ds m Q = ((dk ds s1 = 10 ∧ 0 ≤ s0 ∧ s0 < dl ds s1 ∧ WP 160 59 [q0, q1, q2, q3, q4, q5, q6] [(0, m s1 s0), (0, s2)] ds m Q)) := P_g3 k160_58 rfl
set_option maxRecDepth 20000 in
theorem k160_59 : mjCode 160 59 = some (.if_icmp .ne 35, 3, 94, 0) := by decide +kernel
theorem p160_59 {s0 s1 : Int} {q0 q1 q2 q3 q4 q5 q6 : MV} {ds : Ds} {m : Mm} {Q : Ds → Mm → List MV → Prop} : WP 160 59 [q0, q1, q2, q3, q4, q5, q6] [(0, s0), (0, s1)] ds m Q = (if s1 = s0 then WP 160 62 [q0, q1, q2, q3, q4, q5, q6] [] ds m Q else WP 160 94 [q0, q1, q2, q3, q4, q5, q6] [] ds m Q) := P_if k160_59 rfl
set_option maxRecDepth 20000 in
theorem k160_62 : mjCode 160 62 = some (.aload_n 0, 1, 0, 0) := by decide +kernel
theorem p160_62 {l0 : Int} {q1 q2 q3 q4 q5 q6 : MV} {ds : Ds} {m : Mm} {Q : Ds → Mm → List MV → Prop} : WP 160 62 [(2, l0), q1, q2, q3, q4, q5, q6] [] ds m Q = (WP 160 63 [(2, l0), q1, q2, q3, q4, q5, q6] [(2, l0)] ds m Q) := P_nx k160_62 rfl
set_option maxRecDepth 20000 in
theorem k160_63 : mjCode 160 63 = some (.getfield 81, 3, 7, 28) := by decide +kernel
theorem p160_63 {s0 : Int} {q0 q1 q2 q3 q4 q5 q6 : MV} {ds : Ds} {m : Mm} {Q : Ds → Mm → List MV → Prop} : WP 160 63 [q0, q1, q2, q3, q4, q5, q6] [(2, s0)] ds m Q = ((dk ds s0 = 7 ∧ WP 160 66 [q0, q1, q2, q3, q4, q5, q6] [(2, m s0 28)] ds m Q)) := P_gd k160_63 rfl
set_option maxRecDepth 20000 in
theorem k160_66 : mjCode 160 66 = some (.iload_n 1, 1, 0, 0) := by decide +kernel
theorem p160_66 {l1 s0 : Int} {q0 q2 q3 q4 q5 q6 : MV} {ds : Ds} {m : Mm} {Q : Ds → Mm → List MV → Prop} : WP 160 66 [q0, (0, l1), q2, q3, q4, q5, q6] [(2, s0)] ds m Q = (WP 160 67 [q0, (0, l1), q2, q3, q4, q5, q6] [(0, l1), (2, s0)] ds m Q) := P_nx k160_66 rfl
set_option maxRecDepth 20000 in
theorem k160_67 : mjCode 160 67 = some (.iconst 1, 1, 0, 0) := by decide +kernel
theorem p160_67 {s0 s1 : Int} {q0 q1 q2 q3 q4 q5 q6 : MV} {ds : Ds} {m : Mm} {Q : Ds → Mm → List MV → Prop} : WP 160 67 [q0, q1, q2, q3, q4, q5, q6] [(0, s0), (2, s1)] ds m Q = (WP 160 68 [q0, q1, q2, q3, q4, q5, q6] [(0, 1), (0, s0), (2, s1)] ds m Q) := P_nx k160_67 rfl
set_option maxRecDepth 20000 in
theorem k160_68 : mjCode 160 68 = some (.bastore, 1, 0, 0) := by decide +kernel
theorem p160_68 {s0 s1 s2 : Int} {q0 q1 q2 q3 q4 q5 q6 : MV} {ds : Ds} {m : Mm} {Q : Ds → Mm → List MV → Prop} : WP 160 68 [q0, q1, q2, q3, q4, q5, q6] [(0, s0), (0, s1), (2, s2)] ds m Q = (((s0 = 0 ∨ s0 = 1) ∧ dk ds s2 = 11 ∧ 0 ≤ s1 ∧ s1 < dl ds s2 ∧ WP 160 69 [q0, q1, q2, q3, q4, q5, q6] [] ds (up m s2 s1 s0) Q)) := P_s4 k160_68 rfl
set_option maxRecDepth 20000 in
theorem k160_69 : mjCode 160 69 = some (.aload_n 0, 1, 0, 0) := by decide +kernel
theorem p160_69 {l0 : Int} {q1 q2 q3 q4 q5 q6 : MV} {ds : Ds} {m : Mm} {Q : Ds → Mm → List MV → Prop} : WP 160 69 [(2, l0), q1, q2, q3, q4, q5, q6] [] ds m Q = (WP 160 70 [(2, l0), q1, q2, q3, q4, q5, q6] [(2, l0)] ds m Q) := P_nx k160_69 rfl
set_option maxRecDepth 20000 in
theorem k160_70 : mjCode 160 70 = some (.aload_n 0, 1, 0, 0) := by decide +kernel
theorem p160_70 {l0 s0 : Int} {q1 q2 q3 q4 q5 q6 : MV} {ds : Ds} {m : Mm} {Q : Ds → Mm → List MV → Prop} : WP 160 70 [(2, l0), q1, q2, q3, q4, q5, q6] [(2, s0)] ds m Q = (WP 160 71 [(2, l0), q1, q2, q3, q4, q5, q6] [(2, l0), (2, s0)] ds m Q) := P_nx k160_70 rfl
set_option maxRecDepth 20000 in
theorem k160_71 : mjCode 160 71 = some (.getfield 213, 3, 7, 26) := by decide +kernel
theorem p160_71 {s0 s1 : Int} {q0 q1 q2 q3 q4 q5 q6 : MV} {ds : Ds} {m : Mm} {Q : Ds → Mm → List MV → Prop} : WP 160 71 [q0, q1, q2, q3, q4, q5, q6] [(2, s0), (2, s1)] ds m Q = ((dk ds s0 = 7 ∧ WP 160 74 [q0, q1, q2, q3, q4, q5, q6] [(0, m s0 26), (2, s1)] ds m Q)) := P_gd k160_71 rfl
set_option maxRecDepth 20000 in
theorem k160_74 : mjCode 160 74 = some (.iconst 2, 1, 0, 0) := by decide +kernel
theorem p160_74 {s0 s1 : Int} {q0 q1 q2 q3 q4 q5 q6 : MV} {ds : Ds} {m : Mm} {Q : Ds → Mm → List MV → Prop} : WP 160 74 [q0, q1, q2, q3, q4, q5, q6] [(0, s0), (2, s1)] ds m Q = (WP 160 75 [q0, q1, q2, q3, q4, q5, q6] [(0, 2), (0, s0), (2, s1)] ds m Q) := P_nx k160_74 rfl
set_option maxRecDepth 20000 in
theorem k160_75 : mjCode 160 75 = some (.iadd, 1, 0, 0) := by decide +kernel
theorem p160_75 {s0 s1 s2 : Int} {q0 q1 q2 q3 q4 q5 q6 : MV} {ds : Ds} {m : Mm} {Q : Ds → Mm → List MV → Prop} : WP 160 75 [q0, q1, q2, q3, q4, q5, q6] [(0, s0), (0, s1), (2, s2)] ds m Q = (WP 160 76 [q0, q1, q2, q3, q4, q5, q6] [(0, w32 (s1 + s0)), (2, s2)] ds m Q) := P_nx k160_75 rfl
set_option maxRecDepth 20000 in
theorem k160_76 : mjCode 160 76 = some (.iload_n 1, 1, 0, 0) := by decide +kernel
theorem p160_76 {l1 s0 s1 : Int} {q0 q2 q3 q4 q5 q6 : MV} {ds : Ds} {m : Mm} {Q : Ds → Mm → List MV → Prop} : WP 160 76 [q0, (0, l1), q2, q3, q4, q5, q6] [(0, s0), (2, s1)] ds m Q = (WP 160 77 [q0, (0, l1), q2, q3, q4, q5, q6] [(0, l1), (0, s0), (2, s1)] ds m Q) := P_nx k160_76 rfl
set_option maxRecDepth 20000 in
theorem k160_77 : mjCode 160 77 = some (.iload_n 2, 1, 0, 0) := by decide +kernel
theorem p160_77 {l2 s0 s1 s2 : Int} {q0 q1 q3 q4 q5 q6 : MV} {ds : Ds} {m : Mm} {Q : Ds → Mm → List MV → Prop} : WP 160 77 [q0, q1, (0, l2), q3, q4, q5, q6] [(0, s0), (0, s1), (2, s2)] ds m Q = (WP 160 78 [q0, q1, (0, l2), q3, q4, q5, q6] [(0, l2), (0, s0), (0, s1), (2, s2)] ds m Q) := P_nx k160_77 rfl
set_option maxRecDepth 20000 in
theorem k160_78 : mjCode 160 78 = some (.iconst 2, 1, 0, 0) := by decide +kernel
theorem p160_78 {s0 s1 s2 s3 : Int} {q0 q1 q2 q3 q4 q5 q6 : MV} {ds : Ds} {m : Mm} {Q : Ds → Mm → List MV → Prop} : WP 160 78 [q0, q1, q2, q3, q4, q5, q6] [(0, s0), (0, s1), (0, s2), (2, s3)] ds m Q = (WP 160 79 [q0, q1, q2, q3, q4, q5, q6] [(0, 2), (0, s0), (0, s1), (0, s2), (2, s3)] ds m Q) := P_nx k160_78 rfl
set_option maxRecDepth 20000 in
theorem k160_79 : mjCode 160 79 = some (.iadd, 1, 0, 0) := by decide +kernel
theorem p160_79 {s0 s1 s2 s3 s4 : Int} {q0 q1 q2 q3 q4 q5 q6 : MV} {ds : Ds} {m : Mm} {Q : Ds → Mm → List MV → Prop} : WP 160 79 [q0, q1, q2, q3, q4, q5, q6] [(0, s0), (0, s1), (0, s2), (0, s3), (2, s4)] ds m Q = (WP 160 80 [q0, q1, q2, q3, q4, q5, q6] [(0, w32 (s1 + s0)), (0, s2), (0, s3), (2, s4)] ds m Q) := P_nx k160_79 rfl
set_option maxRecDepth 20000 in
theorem k160_80 : mjCode 160 80 = some (.iconst 4, 1, 0, 0) := by decide +kernel
theorem p160_80 {s0 s1 s2 s3 : Int} {q0 q1 q2 q3 q4 q5 q6 : MV} {ds : Ds} {m : Mm} {Q : Ds → Mm → List MV → Prop} : WP 160 80 [q0, q1, q2, q3, q4, q5, q6] [(0, s0), (0, s1), (0, s2), (2, s3)] ds m Q = (WP 160 81 [q0, q1, q2, q3, q4, q5, q6] [(0, 4), (0, s0), (0, s1), (0, s2), (2, s3)] ds m Q) := P_nx k160_80 rfl
set_option maxRecDepth 20000 in
theorem k160_81 : mjCode 160 81 = some (.irem, 1, 0, 0) := by decide +kernel
theorem p160_81 {s0 s1 s2 s3 s4 : Int} {q0 q1 q2 q3 q4 q5 q6 : MV} {ds : Ds} {m : Mm} {Q : Ds → Mm → List MV → Prop} : WP 160 81 [q0, q1, q2, q3, q4, q5, q6] [(0, s0), (0, s1), (0, s2), (0, s3), (2, s4)] ds m Q = ((¬ s0 = 0 ∧ WP 160 82 [q0, q1, q2, q3, q4, q5, q6] [(0, jrem s1 s0), (0, s2), (0, s3), (2, s4)] ds m Q)) := P_dv k160_81 rfl
set_option maxRecDepth 20000 in
theorem k160_82 : mjCode 160 82 = some (.invokestatic 216, 3, 124, 2) := by decide +kernel
theorem p160_82 {s0 s1 s2 s3 : Int} {q0 q1 q2 q3 q4 q5 q6 : MV} {ds : Ds} {m : Mm} {Q : Ds → Mm → List MV → Prop} : WP 160 82 [q0, q1, q2, q3, q4, q5, q6] [(0, s0), (0, s1), (0, s2), (2, s3)] ds m Q = (WP 123 0 [(0, s1), (0, s0), (3, 0), (3, 0)] [] ds m (fun d2 m2 r2 => WP 160 85 [q0, q1, q2, q3, q4, q5, q6] (r2 ++ [(0, s2), (2, s3)]) d2 m2 Q)) := P_cs k160_82 mx123 rfl rfl rfl rfl rfl rfl rfl
set_option maxRecDepth 20000 in
theorem k160_85 : mjCode 160 85 = some (.iload_n 2, 1, 0, 0) := by decide +kernel
theorem p160_85 {l2 s0 s1 s2 : Int} {q0 q1 q3 q4 q5 q6 : MV} {ds : Ds} {m : Mm} {Q : Ds → Mm → List MV → Prop} : WP 160 85 [q0, q1, (0, l2), q3, q4, q5, q6] [(0, s0), (0, s1), (2, s2)] ds m Q = (WP 160 86 [q0, q1, (0, l2), q3, q4, q5, q6] [(0, l2), (0, s0), (0, s1), (2, s2)] ds m Q) := P_nx k160_85 rfl
set_option maxRecDepth 20000 in
theorem k160_86 : mjCode 160 86 = some (.iload_n 3, 1, 0, 0) := by decide +kernel
theorem p160_86 {l3 s0 s1 s2 s3 : Int} {q0 q1 q2 q4 q5 q6 : MV} {ds : Ds} {m : Mm} {Q : Ds → Mm → List MV → Prop} : WP 160 86 [q0, q1, q2, (0, l3), q4, q5, q6] [(0, s0), (0, s1), (0, s2), (2, s3)] ds m Q = (WP 160 87 [q0, q1, q2, (0, l3), q4, q5, q6] [(0, l3), (0, s0), (0, s1), (0, s2), (2, s3)] ds m Q) := P_nx k160_86 rfl
set_option maxRecDepth 20000 in
theorem k160_87 : mjCode 160 87 = some (.iconst 1, 1, 0, 0) := by decide +kernel
theorem p160_87 {s0 s1 s2 s3 s4 : Int} {q0 q1 q2 q3 q4 q5 q6 : MV} {ds : Ds} {m : Mm} {Q : Ds → Mm → List MV → Prop} : WP 160 87 [q0, q1, q2, q3, q4, q5, q6] [(0, s0), (0, s1), (0, s2), (0, s3), (2, s4)] ds m Q = (WP 160 88 [q0, q1, q2, q3, q4, q5, q6] [(0, 1), (0, s0), (0, s1), (0, s2), (0, s3), (2, s4)] ds m Q) := P_nx k160_87 rfl
set_option maxRecDepth 20000 in
theorem k160_88 : mjCode 160 88 = some (.invokevirtual 219, 3, 156, 6) := by decide +kernel
theorem p160_88 {s0 s1 s2 s3 s4 s5 : Int} {q0 q1 q2 q3 q4 q5 q6 : MV} {ds : Ds} {m : Mm} {Q : Ds → Mm → List MV → Prop} : WP 160 88 [q0, q1, q2, q3, q4, q5, q6] [(0, s0), (0, s1), (0, s2), (0, s3), (0, s4), (2, s5)] ds m Q = ((dk ds s5 = 7 ∧ WP 155 0 [(2, s5), (0, s4), (0, s3), (0, s2), (0, s1), (0, s0)] [] ds m (fun d2 m2 r2 => WP 160 91 [q0, q1, q2, q3, q4, q5, q6] (r2 ++ []) d2 m2 Q))) := P_cv k160_88 mx155 mo155 rfl rfl rfl rfl rfl rfl rfl rfl
set_option maxRecDepth 20000 in
theorem k160_91 : mjCode 160 91 = some (.goto 279, 3, 370, 0) := by decide +kernel
theorem p160_91 {q0 q1 q2 q3 q4 q5 q6 : MV} {ds : Ds} {m : Mm} {Q : Ds → Mm → List MV → Prop} : WP 160 91 [q0, q1, q2, q3, q4, q5, q6] [] ds m Q = (WP 160 370 [q0, q1, q2, q3, q4, q5, q6] [] ds m Q) := P_nx k160_91 rfl
set_option maxRecDepth 20000 in
theorem k160_94 : mjCode 160 94 = some (.iload 4, 2, 0, 0) := by decide +kernel
theorem p160_94 {l4 : Int} {q0 q1 q2 q3 q5 q6 : MV} {ds : Ds} {m : Mm} {Q : Ds → Mm → List MV → Prop} : WP 160 94 [q0, q1, q2, q3, (0, l4), q5, q6] [] ds m Q = (WP 160 96 [q0, q1, q2, q3, (0, l4), q5, q6] [(0, l4)] ds m Q) := P_nx k160_94 rfl
set_option maxRecDepth 20000 in
theorem k160_96 : mjCode 160 96 = some (.iconst 2, 1, 0, 0) := by decide +kernel
theorem p160_96 {s0 : Int} {q0 q1 q2 q3 q4 q5 q6 : MV} {ds : Ds} {m : Mm} {Q : Ds → Mm → List MV → Prop} : WP 160 96 [q0, q1, q2, q3, q4, q5, q6] [(0, s0)] ds m Q = (WP 160 97 [q0, q1, q2, q3, q4, q5, q6] [(0, 2), (0, s0)] ds m Q) := P_nx k160_96 rfl
set_option maxRecDepth 20000 in
theorem k160_97 : mjCode 160 97 = some (.if_icmp .ne 23, 3, 120, 0) := by decide +kernel
theorem p160_97 {s0 s1 : Int} {q0 q1 q2 q3 q4 q5 q6 : MV} {ds : Ds} {m : Mm} {Q : Ds → Mm → List MV → Prop} : WP 160 97 [q0, q1, q2, q3, q4, q5, q6] [(0, s0), (0, s1)] ds m Q = (if s1 = s0 then WP 160 100 [q0, q1, q2, q3, q4, q5, q6] [] ds m Q else WP 160 120 [q0, q1, q2, q3, q4, q5, q6] [] ds m Q) := P_if k160_97 rfl
set_option maxRecDepth 20000 in
theorem k160_100 : mjCode 160 100 = some (.iload_n 2, 1, 0, 0) := by decide +kernel
theorem p160_100 {l2 : Int} {q0 q1 q3 q4 q5 q6 : MV} {ds : Ds} {m : Mm} {Q : Ds → Mm → List MV → Prop} : WP 160 100 [q0, q1, (0, l2), q3, q4, q5, q6] [] ds m Q = (WP 160 101 [q0, q1, (0, l2), q3, q4, q5, q6] [(0, l2)] ds m Q) := P_nx k160_100 rfl
set_option maxRecDepth 20000 in
theorem k160_101 : mjCode 160 101 = some (.aload_n 0, 1, 0, 0) := by decide +kernel
theorem p160_101 {l0 s0 : Int} {q1 q2 q3 q4 q5 q6 : MV} {ds : Ds} {m : Mm} {Q : Ds → Mm → List MV → Prop} : WP 160 101 [(2, l0), q1, q2, q3, q4, q5, q6] [(0, s0)] ds m Q = (WP 160 102 [(2, l0), q1, q2, q3, q4, q5, q6] [(2, l0), (0, s0)] ds m Q) := P_nx k160_101 rfl
set_option maxRecDepth 20000 in
theorem k160_102 : mjCode 160 102 = some (.getfield 16, 3, 7, 2) := by decide +kernel
theorem p160_102 {s0 s1 : Int} {q0 q1 q2 q3 q4 q5 q6 : MV} {ds : Ds} {m : Mm} {Q : Ds → Mm → List MV → Prop} : WP 160 102 [q0, q1, q2, q3, q4, q5, q6] [(2, s0), (0, s1)] ds m Q = ((dk ds s0 = 7 ∧ WP 160 105 [q0, q1, q2, q3, q4, q5, q6] [(2, m s0 2), (0, s1)] ds m Q)) := P_gd k160_102 rfl
set_option maxRecDepth 20000 in
theorem k160_105 : mjCode 160 105 = some (.iload_n 1, 1, 0, 0) := by decide +kernel
theorem p160_105 {l1 s0 s1 : Int} {q0 q2 q3 q4 q5 q6 : MV} {ds : Ds} {m : Mm} {Q : Ds → Mm → List MV → Prop} : WP 160 105 [q0, (0, l1), q2, q3, q4, q5, q6] [(2, s0), (0, s1)] ds m Q = (WP 160 106 [q0, (0, l1), q2, q3, q4, q5, q6] [(0, l1), (2, s0), (0, s1)] ds m Q) := P_nx k160_105 rfl
set_option maxRecDepth 20000 in
theorem k160_106 : mjCode 160 106 = some (.iaload, 1, 0, 0) := by decide +kernel
theorem p160_106 {s0 s1 s2 : Int} {q0 q1 q2 q3 q4 q5 q6 : MV} {ds : Ds} {m : Mm} {Q : Ds → Mm → List MV → Prop} : WP 160 106 [q0, q1, q2, q3, q4, q5, q6] [(0, s0), (2, s1), (0, s2)] ds m Q = ((dk ds s1 = 10 ∧ 0 ≤ s0 ∧ s0 < dl ds s1 ∧ WP 160 107 [q0, q1, q2, q3, q4, q5, q6] [(0, m s1 s0), (0, s2)] ds m Q)) := P_g3 k160_106 rfl
set_option maxRecDepth 20000 in
theorem k160_107 : mjCode 160 107 = some (.if_icmp .eq 13, 3, 120, 0) := by decide +kernel
theorem p160_107 {s0 s1 : Int} {q0 q1 q2 q3 q4 q5 q6 : MV} {ds : Ds} {m : Mm} {Q : Ds → Mm → List MV → Prop} : WP 160 107 [q0, q1, q2, q3, q4, q5, q6] [(0, s0), (0, s1)] ds m Q = (if s1 = s0 then WP 160 120 [q0, q1, q2, q3, q4, q5, q6] [] ds m Q else WP 160 110 [q0, q1, q2, q3, q4, q5, q6] [] ds m Q) := P_if k160_107 rfl
set_option maxRecDepth 20000 in
theorem k160_110 : mjCode 160 110 = some (.aload_n 0, 1, 0, 0) := by decide +kernel
theorem p160_110 {l0 : Int} {q1 q2 q3 q4 q5 q6 : MV} {ds : Ds} {m : Mm} {Q : Ds → Mm → List MV → Prop} : WP 160 110 [(2, l0), q1, q2, q3, q4, q5, q6] [] ds m Q = (WP 160 111 [(2, l0), q1, q2, q3, q4, q5, q6] [(2, l0)] ds m Q) := P_nx k160_110 rfl
set_option maxRecDepth 20000 in
theorem k160_111 : mjCode 160 111 = some (.iload_n 1, 1, 0, 0) := by decide +kernel
theorem p160_111 {l1 s0 : Int} {q0 q2 q3 q4 q5 q6 : MV} {ds : Ds} {m : Mm} {Q : Ds → Mm → List MV → Prop} : WP 160 111 [q0, (0, l1), q2, q3, q4, q5, q6] [(2, s0)] ds m Q = (WP 160 112 [q0, (0, l1), q2, q3, q4, q5, q6] [(0, l1), (2, s0)] ds m Q) := P_nx k160_111 rfl
set_option maxRecDepth 20000 in
theorem k160_112 : mjCode 160 112 = some (.iconst 1, 1, 0, 0) := by decide +kernel
theorem p160_112 {s0 s1 : Int} {q0 q1 q2 q3 q4 q5 q6 : MV} {ds : Ds} {m : Mm} {Q : Ds → Mm → List MV → Prop} : WP 160 112 [q0, q1, q2, q3, q4, q5, q6] [(0, s0), (2, s1)] ds m Q = (WP 160 113 [q0, q1, q2, q3, q4, q5, q6] [(0, 1), (0, s0), (2, s1)] ds m Q) := P_nx k160_112 rfl
set_option maxRecDepth 20000 in
theorem k160_113 : mjCode 160 113 = some (.iload_n 3, 1, 0, 0) := by decide +kernel
theorem p160_113 {l3 s0 s1 s2 : Int} {q0 q1 q2 q4 q5 q6 : MV} {ds : Ds} {m : Mm} {Q : Ds → Mm → List MV → Prop} : WP 160 113 [q0, q1, q2, (0, l3), q4, q5, q6] [(0, s0), (0, s1), (2, s2)] ds m Q = (WP 160 114 [q0, q1, q2, (0, l3), q4, q5, q6] [(0, l3), (0, s0), (0, s1), (2, s2)] ds m Q) := P_nx k160_113 rfl
set_option maxRecDepth 20000 in
theorem k160_114 : mjCode 160 114 = some (.invokevirtual 235, 3, 158, 4) := by decide +kernel
theorem p160_114 {s0 s1 s2 s3 : Int} {q0 q1 q2 q3 q4 q5 q6 : MV} {ds : Ds} {m : Mm} {Q : Ds → Mm → List MV → Prop} : WP 160 114 [q0, q1, q2, q3, q4, q5, q6] [(0, s0), (0, s1), (0, s2), (2, s3)] ds m Q = ((dk ds s3 = 7 ∧ WP 157 0 [(2, s3), (0, s2), (0, s1), (0, s0)] [] ds m (fun d2 m2 r2 => WP 160 117 [q0, q1, q2, q3, q4, q5, q6] (r2 ++ []) d2 m2 Q))) := P_cv k160_114 mx157 mo157 rfl rfl rfl rfl rfl rfl rfl rfl
set_option maxRecDepth 20000 in
theorem k160_117 : mjCode 160 117 = some (.goto 253, 3, 370, 0) := by decide +kernel
theorem p160_117 {q0 q1 q2 q3 q4 q5 q6 : MV} {ds : Ds} {m : Mm} {Q : Ds → Mm → List MV → Prop} : WP 160 117 [q0, q1, q2, q3, q4, q5, q6] [] ds m Q = (WP 160 370 [q0, q1, q2, q3, q4, q5, q6] [] ds m Q) := P_nx k160_117 rfl
set_option maxRecDepth 20000 in
theorem k160_120 : mjCode 160 120 = some (.iload 4, 2, 0, 0) := by decide +kernel
theorem p160_120 {l4 : Int} {q0 q1 q2 q3 q5 q6 : MV} {ds : Ds} {m : Mm} {Q : Ds → Mm → List MV → Prop} : WP 160 120 [q0, q1, q2, q3, (0, l4), q5, q6] [] ds m Q = (WP 160 122 [q0, q1, q2, q3, (0, l4), q5, q6] [(0, l4)] ds m Q) := P_nx k160_120 rfl
set_option maxRecDepth 20000 in
theorem k160_122 : mjCode 160 122 = some (.iconst 3, 1, 0, 0) := by decide +kernel
theorem p160_122 {s0 : Int} {q0 q1 q2 q3 q4 q5 q6 : MV} {ds : Ds} {m : Mm} {Q : Ds → Mm → List MV → Prop} : WP 160 122 [q0, q1, q2, q3, q4, q5, q6] [(0, s0)] ds m Q = (WP 160 123 [q0, q1, q2, q3, q4, q5, q6] [(0, 3), (0, s0)] ds m Q) := P_nx k160_122 rfl
set_option maxRecDepth 20000 in
theorem k160_123 : mjCode 160 123 = some (.if_icmp .ne 37, 3, 160, 0) := by decide +kernel
theorem p160_123 {s0 s1 : Int} {q0 q1 q2 q3 q4 q5 q6 : MV} {ds : Ds} {m : Mm} {Q : Ds → Mm → List MV → Prop} : WP 160 123 [q0, q1, q2, q3, q4, q5, q6] [(0, s0), (0, s1)] ds m Q = (if s1 = s0 then WP 160 126 [q0, q1, q2, q3, q4, q5, q6] [] ds m Q else WP 160 160 [q0, q1, q2, q3, q4, q5, q6] [] ds m Q) := P_if k160_123 rfl
set_option maxRecDepth 20000 in
theorem k160_126 : mjCode 160 126 = some (.iload 5, 2, 0, 0) := by decide +kernel
theorem p160_126 {l5 : Int} {q0 q1 q2 q3 q4 q6 : MV} {ds : Ds} {m : Mm} {Q : Ds → Mm → List MV → Prop} : WP 160 126 [q0, q1, q2, q3, q4, (0, l5), q6] [] ds m Q = (WP 160 128 [q0, q1, q2, q3, q4, (0, l5), q6] [(0, l5)] ds m Q) := P_nx k160_126 rfl
set_option maxRecDepth 20000 in
theorem k160_128 : mjCode 160 128 = some (.ifCond .eq 32, 3, 160, 0) := by decide +kernel
theorem p160_128 {s0 : Int} {q0 q1 q2 q3 q4 q5 q6 : MV} {ds : Ds} {m : Mm} {Q : Ds → Mm → List MV → Prop} : WP 160 128 [q0, q1, q2, q3, q4, q5, q6] [(0, s0)] ds m Q = (if s0 = 0 then WP 160 160 [q0, q1, q2, q3, q4, q5, q6] [] ds m Q else WP 160 131 [q0, q1, q2, q3, q4, q5, q6] [] ds m Q) := P_if k160_128 rfl
set_option maxRecDepth 20000 in
theorem k160_131 : mjCode 160 131 = some (.aload_n 0, 1, 0, 0) := by decide +kernel
theorem p160_131 {l0 : Int} {q1 q2 q3 q4 q5 q6 : MV} {ds : Ds} {m : Mm} {Q : Ds → Mm → List MV → Prop} : WP 160 131 [(2, l0), q1, q2, q3, q4, q5, q6] [] ds m Q = (WP 160 132 [(2, l0), q1, q2, q3, q4, q5, q6] [(2, l0)] ds m Q) := P_nx k160_131 rfl
set_option maxRecDepth 20000 in
theorem k160_132 : mjCode 160 132 = some (.getfield 78, 3, 7, 27) := by decide +kernel
theorem p160_132 {s0 : Int} {q0 q1 q2 q3 q4 q5 q6 : MV} {ds : Ds} {m : Mm} {Q : Ds → Mm → List MV → Prop} : WP 160 132 [q0, q1, q2, q3, q4, q5, q6] [(2, s0)] ds m Q = ((dk ds s0 = 7 ∧ WP 160 135 [q0, q1, q2, q3, q4, q5, q6] [(2, m s0 27)] ds m Q)) := P_gd k160_132 rfl
set_option maxRecDepth 20000 in
theorem k160_135 : mjCode 160 135 = some (.aload_n 0, 1, 0, 0) := by decide +kernel
theorem p160_135 {l0 s0 : Int} {q1 q2 q3 q4 q5 q6 : MV} {ds : Ds} {m : Mm} {Q : Ds → Mm → List MV → Prop} : WP 160 135 [(2, l0), q1, q2, q3, q4, q5, q6] [(2, s0)] ds m Q = (WP 160 136 [(2, l0), q1, q2, q3, q4, q5, q6] [(2, l0), (2, s0)] ds m Q) := P_nx k160_135 rfl
set_option maxRecDepth 20000 in
theorem k160_136 : mjCode 160 136 = some (.getfield 22, 3, 7, 4) := by decide +kernel
theorem p160_136 {s0 s1 : Int} {q0 q1 q2 q3 q4 q5 q6 : MV} {ds : Ds} {m : Mm} {Q : Ds → Mm → List MV → Prop} : WP 160 136 [q0, q1, q2, q3, q4, q5, q6] [(2, s0), (2, s1)] ds m Q = ((dk ds s0 = 7 ∧ WP 160 139 [q0, q1, q2, q3, q4, q5, q6] [(2, m s0 4), (2, s1)] ds m Q)) := P_gd k160_136 rfl
set_option maxRecDepth 20000 in
theorem k160_139 : mjCode 160 139 = some (.iload_n 1, 1, 0, 0) := by decide +kernel
theorem p160_139 {l1 s0 s1 : Int} {q0 q2 q3 q4 q5 q6 : MV} {ds : Ds} {m : Mm} {Q : Ds → Mm → List MV → Prop} : WP 160 139 [q0, (0, l1), q2, q3, q4, q5, q6] [(2, s0), (2, s1)] ds m Q = (WP 160 140 [q0, (0, l1), q2, q3, q4, q5, q6] [(0, l1), (2, s0), (2, s1)] ds m Q) := P_nx k160_139 rfl
set_option maxRecDepth 20000 in
theorem k160_140 : mjCode 160 140 = some (.iaload, 1, 0, 0) := by decide +kernel
theorem p160_140 {s0 s1 s2 : Int} {q0 q1 q2 q3 q4 q5 q6 : MV} {ds : Ds} {m : Mm} {Q : Ds → Mm → List MV → Prop} : WP 160 140 [q0, q1, q2, q3, q4, q5, q6] [(0, s0), (2, s1), (2, s2)] ds m Q = ((dk ds s1 = 10 ∧ 0 ≤ s0 ∧ s0 < dl ds s1 ∧ WP 160 141 [q0, q1, q2, q3, q4, q5, q6] [(0, m s1 s0), (2, s2)] ds m Q)) := P_g3 k160_140 rfl
set_option maxRecDepth 20000 in
theorem k160_141 : mjCode 160 141 = some (.iaload, 1, 0, 0) := by decide +kernel
theorem p160_141 {s0 s1 : Int} {q0 q1 q2 q3 q4 q5 q6 : MV} {ds : Ds} {m : Mm} {Q : Ds → Mm → List MV → Prop} : WP 160 141 [q0, q1, q2, q3, q4, q5, q6] [(0, s0), (2, s1)] ds m Q = ((dk ds s1 = 10 ∧ 0 ≤ s0 ∧ s0 < dl ds s1 ∧ WP 160 142 [q0, q1, q2, q3, q4, q5, q6] [(0, m s1 s0)] ds m Q)) := P_g3 k160_141 rfl
set_option maxRecDepth 20000 in
theorem k160_142 : mjCode 160 142 = some (.ifCond .ne 18, 3, 160, 0) := by decide +kernel
theorem p160_142 {s0 : Int} {q0 q1 q2 q3 q4 q5 q6 : MV} {ds : Ds} {m : Mm} {Q : Ds → Mm → List MV → Prop} : WP 160 142 [q0, q1, q2, q3, q4, q5, q6] [(0, s0)] ds m Q = (if s0 = 0 then WP 160 145 [q0, q1, q2, q3, q4, q5, q6] [] ds m Q else WP 160 160 [q0, q1, q2, q3, q4, q5, q6] [] ds m Q) := P_if k160_142 rfl
set_option maxRecDepth 20000 in
theorem k160_145 : mjCode 160 145 = some (.aload_n 0, 1, 0, 0) := by decide +kernel
theorem p160_145 {l0 : Int} {q1 q2 q3 q4 q5 q6 : MV} {ds : Ds} {m : Mm} {Q : Ds → Mm → List MV → Prop} : WP 160 145 [(2, l0), q1, q2, q3, q4, q5, q6] [] ds m Q = (WP 160 146 [(2, l0), q1, q2, q3, q4, q5, q6] [(2, l0)] ds m Q) := P_nx k160_145 rfl
set_option maxRecDepth 20000 in
theorem k160_146 : mjCode 160 146 = some (.aload_n 0, 1, 0, 0) := by decide +kernel
theorem p160_146 {l0 s0 : Int} {q1 q2 q3 q4 q5 q6 : MV} {ds : Ds} {m : Mm} {Q : Ds → Mm → List MV → Prop} : WP 160 146 [(2, l0), q1, q2, q3, q4, q5, q6] [(2, s0)] ds m Q = (WP 160 147 [(2, l0), q1, q2, q3, q4, q5, q6] [(2, l0), (2, s0)] ds m Q) := P_nx k160_146 rfl
set_option maxRecDepth 20000 in
theorem k160_147 : mjCode 160 147 = some (.getfield 22, 3, 7, 4) := by decide +kernel
theorem p160_147 {s0 s1 : Int} {q0 q1 q2 q3 q4 q5 q6 : MV} {ds : Ds} {m : Mm} {Q : Ds → Mm → List MV → Prop} : WP 160 147 [q0, q1, q2, q3, q4, q5, q6] [(2, s0), (2, s1)] ds m Q = ((dk ds s0 = 7 ∧ WP 160 150 [q0, q1, q2, q3, q4, q5, q6] [(2, m s0 4), (2, s1)] ds m Q)) := P_gd k160_147 rfl
set_option maxRecDepth 20000 in
theorem k160_150 : mjCode 160 150 = some (.iload_n 1, 1, 0, 0) := by decide +kernel
theorem p160_150 {l1 s0 s1 : Int} {q0 q2 q3 q4 q5 q6 : MV} {ds : Ds} {m : Mm} {Q : Ds → Mm → List MV → Prop} : WP 160 150 [q0, (0, l1), q2, q3, q4, q5, q6] [(2, s0), (2, s1)] ds m Q = (WP 160 151 [q0, (0, l1), q2, q3, q4, q5, q6] [(0, l1), (2, s0), (2, s1)] ds m Q) := P_nx k160_150 rfl
set_option maxRecDepth 20000 in
theorem k160_151 : mjCode 160 151 = some (.iaload, 1, 0, 0) := by decide +kernel
theorem p160_151 {s0 s1 s2 : Int} {q0 q1 q2 q3 q4 q5 q6 : MV} {ds : Ds} {m : Mm} {Q : Ds → Mm → List MV → Prop} : WP 160 151 [q0, q1, q2, q3, q4, q5, q6] [(0, s0), (2, s1), (2, s2)] ds m Q = ((dk ds s1 = 10 ∧ 0 ≤ s0 ∧ s0 < dl ds s1 ∧ WP 160 152 [q0, q1, q2, q3, q4, q5, q6] [(0, m s1 s0), (2, s2)] ds m Q)) := P_g3 k160_151 rfl
set_option maxRecDepth 20000 in
theorem k160_152 : mjCode 160 152 = some (.iconst 1, 1, 0, 0) := by decide +kernel
theorem p160_152 {s0 s1 : Int} {q0 q1 q2 q3 q4 q5 q6 : MV} {ds : Ds} {m : Mm} {Q : Ds → Mm → List MV → Prop} : WP 160 152 [q0, q1, q2, q3, q4, q5, q6] [(0, s0), (2, s1)] ds m Q = (WP 160 153 [q0, q1, q2, q3, q4, q5, q6] [(0, 1), (0, s0), (2, s1)] ds m Q) := P_nx k160_152 rfl
set_option maxRecDepth 20000 in
theorem k160_153 : mjCode 160 153 = some (.iload_n 3, 1, 0, 0) := by decide +kernel
theorem p160_153 {l3 s0 s1 s2 : Int} {q0 q1 q2 q4 q5 q6 : MV} {ds : Ds} {m : Mm} {Q : Ds → Mm → List MV → Prop} : WP 160 153 [q0, q1, q2, (0, l3), q4, q5, q6] [(0, s0), (0, s1), (2, s2)] ds m Q = (WP 160 154 [q0, q1, q2, (0, l3), q4, q5, q6] [(0, l3), (0, s0), (0, s1), (2, s2)] ds m Q) := P_nx k160_153 rfl
set_option maxRecDepth 20000 in
theorem k160_154 : mjCode 160 154 = some (.invokevirtual 235, 3, 158, 4) := by decide +kernel
theorem p160_154 {s0 s1 s2 s3 : Int} {q0 q1 q2 q3 q4 q5 q6 : MV} {ds : Ds} {m : Mm} {Q : Ds → Mm → List MV → Prop} : WP 160 154 [q0, q1, q2, q3, q4, q5, q6] [(0, s0), (0, s1), (0, s2), (2, s3)] ds m Q = ((dk ds s3 = 7 ∧ WP 157 0 [(2, s3), (0, s2), (0, s1), (0, s0)] [] ds m (fun d2 m2 r2 => WP 160 157 [q0, q1, q2, q3, q4, q5, q6] (r2 ++ []) d2 m2 Q))) := P_cv k160_154 mx157 mo157 rfl rfl rfl rfl rfl rfl rfl rfl
set_option maxRecDepth 20000 in
theorem k160_157 : mjCode 160 157 = some (.goto 213, 3, 370, 0) := by decide +kernel
theorem p160_157 {q0 q1 q2 q3 q4 q5 q6 : MV} {ds : Ds} {m : Mm} {Q : Ds → Mm → List MV → Prop} : WP 160 157 [q0, q1, q2, q3, q4, q5, q6] [] ds m Q = (WP 160 370 [q0, q1, q2, q3, q4, q5, q6] [] ds m Q) := P_nx k160_157 rfl
set_option maxRecDepth 20000 in
theorem k160_160 : mjCode 160 160 = some (.iload 4, 2, 0, 0) := by decide +kernel
theorem p160_160 {l4 : Int} {q0 q1 q2 q3 q5 q6 : MV} {ds : Ds} {m : Mm} {Q : Ds → Mm → List MV → Prop} : WP 160 160 [q0, q1, q2, q3, (0, l4), q5, q6] [] ds m Q = (WP 160 162 [q0, q1, q2, q3, (0, l4), q5, q6] [(0, l4)] ds m Q) := P_nx k160_160 rfl
set_option maxRecDepth 20000 in
theorem k160_162 : mjCode 160 162 = some (.iconst 4, 1, 0, 0) := by decide +kernel
theorem p160_162 {s0 : Int} {q0 q1 q2 q3 q4 q5 q6 : MV} {ds : Ds} {m : Mm} {Q : Ds → Mm → List MV → Prop} : WP 160 162 [q0, q1, q2, q3, q4, q5, q6] [(0, s0)] ds m Q = (WP 160 163 [q0, q1, q2, q3, q4, q5, q6] [(0, 4), (0, s0)] ds m Q) := P_nx k160_162 rfl
set_option maxRecDepth 20000 in
theorem k160_163 : mjCode 160 163 = some (.if_icmp .ne 23, 3, 186, 0) := by decide +kernel
theorem p160_163 {s0 s1 : Int} {q0 q1 q2 q3 q4 q5 q6 : MV} {ds : Ds} {m : Mm} {Q : Ds → Mm → List MV → Prop} : WP 160 163 [q0, q1, q2, q3, q4, q5, q6] [(0, s0), (0, s1)] ds m Q = (if s1 = s0 then WP 160 166 [q0, q1, q2, q3, q4, q5, q6] [] ds m Q else WP 160 186 [q0, q1, q2, q3, q4, q5, q6] [] ds m Q) := P_if k160_163 rfl
set_option maxRecDepth 20000 in
theorem k160_166 : mjCode 160 166 = some (.iload 5, 2, 0, 0) := by decide +kernel
theorem p160_166 {l5 : Int} {q0 q1 q2 q3 q4 q6 : MV} {ds : Ds} {m : Mm} {Q : Ds → Mm → List MV → Prop} : WP 160 166 [q0, q1, q2, q3, q4, (0, l5), q6] [] ds m Q = (WP 160 168 [q0, q1, q2, q3, q4, (0, l5), q6] [(0, l5)] ds m Q) := P_nx k160_166 rfl
set_option maxRecDepth 20000 in
theorem k160_168 : mjCode 160 168 = some (.ifCond .eq 18, 3, 186, 0) := by decide +kernel
theorem p160_168 {s0 : Int} {q0 q1 q2 q3 q4 q5 q6 : MV} {ds : Ds} {m : Mm} {Q : Ds → Mm → List MV → Prop} : WP 160 168 [q0, q1, q2, q3, q4, q5, q6] [(0, s0)] ds m Q = (if s0 = 0 then WP 160 186 [q0, q1, q2, q3, q4, q5, q6] [] ds m Q else WP 160 171 [q0, q1, q2, q3, q4, q5, q6] [] ds m Q) := P_if k160_168 rfl
set_option maxRecDepth 20000 in
theorem k160_171 : mjCode 160 171 = some (.aload_n 0, 1, 0, 0) := by decide +kernel
theorem p160_171 {l0 : Int} {q1 q2 q3 q4 q5 q6 : MV} {ds : Ds} {m : Mm} {Q : Ds → Mm → List MV → Prop} : WP 160 171 [(2, l0), q1, q2, q3, q4, q5, q6] [] ds m Q = (WP 160 172 [(2, l0), q1, q2, q3, q4, q5, q6] [(2, l0)] ds m Q) := P_nx k160_171 rfl
set_option maxRecDepth 20000 in
theorem k160_172 : mjCode 160 172 = some (.iload_n 1, 1, 0, 0) := by decide +kernel
theorem p160_172 {l1 s0 : Int} {q0 q2 q3 q4 q5 q6 : MV} {ds : Ds} {m : Mm} {Q : Ds → Mm → List MV → Prop} : WP 160 172 [q0, (0, l1), q2, q3, q4, q5, q6] [(2, s0)] ds m Q = (WP 160 173 [q0, (0, l1), q2, q3, q4, q5, q6] [(0, l1), (2, s0)] ds m Q) := P_nx k160_172 rfl
set_option maxRecDepth 20000 in
theorem k160_173 : mjCode 160 173 = some (.aload_n 0, 1, 0, 0) := by decide +kernel
theorem p160_173 {l0 s0 s1 : Int} {q1 q2 q3 q4 q5 q6 : MV} {ds : Ds} {m : Mm} {Q : Ds → Mm → List MV → Prop} : WP 160 173 [(2, l0), q1, q2, q3, q4, q5, q6] [(0, s0), (2, s1)] ds m Q = (WP 160 174 [(2, l0), q1, q2, q3, q4, q5, q6] [(2, l0), (0, s0), (2, s1)] ds m Q) := P_nx k160_173 rfl
set_option maxRecDepth 20000 in
theorem k160_174 : mjCode 160 174 = some (.getfield 19, 3, 7, 3) := by decide +kernel
theorem p160_174 {s0 s1 s2 : Int} {q0 q1 q2 q3 q4 q5 q6 : MV} {ds : Ds} {m : Mm} {Q : Ds → Mm → List MV → Prop} : WP 160 174 [q0, q1, q2, q3, q4, q5, q6] [(2, s0), (0, s1), (2, s2)] ds m Q = ((dk ds s0 = 7 ∧ WP 160 177 [q0, q1, q2, q3, q4, q5, q6] [(2, m s0 3), (0, s1), (2, s2)] ds m Q)) := P_gd k160_174 rfl
set_option maxRecDepth 20000 in
theorem k160_177 : mjCode 160 177 = some (.iload_n 1, 1, 0, 0) := by decide +kernel
theorem p160_177 {l1 s0 s1 s2 : Int} {q0 q2 q3 q4 q5 q6 : MV} {ds : Ds} {m : Mm} {Q : Ds → Mm → List MV → Prop} : WP 160 177 [q0, (0, l1), q2, q3, q4, q5, q6] [(2, s0), (0, s1), (2, s2)] ds m Q = (WP 160 178 [q0, (0, l1), q2, q3, q4, q5, q6] [(0, l1), (2, s0), (0, s1), (2, s2)] ds m Q) := P_nx k160_177 rfl
set_option maxRecDepth 20000 in
theorem k160_178 : mjCode 160 178 = some (.iaload, 1, 0, 0) := by decide +kernel
theorem p160_178 {s0 s1 s2 s3 : Int} {q0 q1 q2 q3 q4 q5 q6 : MV} {ds : Ds} {m : Mm} {Q : Ds → Mm → List MV → Prop} : WP 160 178 [q0, q1, q2, q3, q4, q5, q6] [(0, s0), (2, s1), (0, s2), (2, s3)] ds m Q = ((dk ds s1 = 10 ∧ 0 ≤ s0 ∧ s0 < dl ds s1 ∧ WP 160 179 [q0, q1, q2, q3, q4, q5, q6] [(0, m s1 s0), (0, s2), (2, s3)] ds m Q)) := P_g3 k160_178 rfl
set_option maxRecDepth 20000 in
theorem k160_179 : mjCode 160 179 = some (.iload_n 3, 1, 0, 0) := by decide +kernel
theorem p160_179 {l3 s0 s1 s2 : Int} {q0 q1 q2 q4 q5 q6 : MV} {ds : Ds} {m : Mm} {Q : Ds → Mm → List MV → Prop} : WP 160 179 [q0, q1, q2, (0, l3), q4, q5, q6] [(0, s0), (0, s1), (2, s2)] ds m Q = (WP 160 180 [q0, q1, q2, (0, l3), q4, q5, q6] [(0, l3), (0, s0), (0, s1), (2, s2)] ds m Q) := P_nx k160_179 rfl
set_option maxRecDepth 20000 in
theorem k160_180 : mjCode 160 180 = some (.invokevirtual 235, 3, 158, 4) := by decide +kernel
theorem p160_180 {s0 s1 s2 s3 : Int} {q0 q1 q2 q3 q4 q5 q6 : MV} {ds : Ds} {m : Mm} {Q : Ds → Mm → List MV → Prop} : WP 160 180 [q0, q1, q2, q3, q4, q5, q6] [(0, s0), (0, s1), (0, s2), (2, s3)] ds m Q = ((dk ds s3 = 7 ∧ WP 157 0 [(2, s3), (0, s2), (0, s1), (0, s0)] [] ds m (fun d2 m2 r2 => WP 160 183 [q0, q1, q2, q3, q4, q5, q6] (r2 ++ []) d2 m2 Q))) := P_cv k160_180 mx157 mo157 rfl rfl rfl rfl rfl rfl rfl rfl
set_option maxRecDepth 20000 in
theorem k160_183 : mjCode 160 183 = some (.goto 187, 3, 370, 0) := by decide +kernel
theorem p160_183 {q0 q1 q2 q3 q4 q5 q6 : MV} {ds : Ds} {m : Mm} {Q : Ds → Mm → List MV → Prop} : WP 160 183 [q0, q1, q2, q3, q4, q5, q6] [] ds m Q = (WP 160 370 [q0, q1, q2, q3, q4, q5, q6] [] ds m Q) := P_nx k160_183 rfl
set_option maxRecDepth 20000 in
theorem k160_186 : mjCode 160 186 = some (.iload 4, 2, 0, 0) := by decide +kernel
theorem p160_186 {l4 : Int} {q0 q1 q2 q3 q5 q6 : MV} {ds : Ds} {m : Mm} {Q : Ds → Mm → List MV → Prop} : WP 160 186 [q0, q1, q2, q3, (0, l4), q5, q6] [] ds m Q = (WP 160 188 [q0, q1, q2, q3, (0, l4), q5, q6] [(0, l4)] ds m Q) := P_nx k160_186 rfl
set_option maxRecDepth 20000 in
theorem k160_188 : mjCode 160 188 = some (.iconst 5, 1, 0, 0) := by decide +kernel
theorem p160_188 {s0 : Int} {q0 q1 q2 q3 q4 q5 q6 : MV} {ds : Ds} {m : Mm} {Q : Ds → Mm → List MV → Prop} : WP 160 188 [q0, q1, q2, q3, q4, q5, q6] [(0, s0)] ds m Q = (WP 160 189 [q0, q1, q2, q3, q4, q5, q6] [(0, 5), (0, s0)] ds m Q) := P_nx k160_188 rfl
set_option maxRecDepth 20000 in
theorem k160_189 : mjCode 160 189 = some (.if_icmp .ne 56, 3, 245, 0) := by decide +kernel
theorem p160_189 {s0 s1 : Int} {q0 q1 q2 q3 q4 q5 q6 : MV} {ds : Ds} {m : Mm} {Q : Ds → Mm → List MV → Prop} : WP 160 189 [q0, q1, q2, q3, q4, q5, q6] [(0, s0), (0, s1)] ds m Q = (if s1 = s0 then WP 160 192 [q0, q1, q2, q3, q4, q5, q6] [] ds m Q else WP 160 245 [q0, q1, q2, q3, q4, q5, q6] [] ds m Q) := P_if k160_189 rfl
set_option maxRecDepth 20000 in
theorem k160_192 : mjCode 160 192 = some (.iload 5, 2, 0, 0) := by decide +kernel
theorem p160_192 {l5 : Int} {q0 q1 q2 q3 q4 q6 : MV} {ds : Ds} {m : Mm} {Q : Ds → Mm → List MV → Prop} : WP 160 192 [q0, q1, q2, q3, q4, (0, l5), q6] [] ds m Q = (WP 160 194 [q0, q1, q2, q3, q4, (0, l5), q6] [(0, l5)] ds m Q) := P_nx k160_192 rfl
set_option maxRecDepth 20000 in
theorem k160_194 : mjCode 160 194 = some (.ifCond .eq 51, 3, 245, 0) := by decide +kernel
theorem p160_194 {s0 : Int} {q0 q1 q2 q3 q4 q5 q6 : MV} {ds : Ds} {m : Mm} {Q : Ds → Mm → List MV → Prop} : WP 160 194 [q0, q1, q2, q3, q4, q5, q6] [(0, s0)] ds m Q = (if s0 = 0 then WP 160 245 [q0, q1, q2, q3, q4, q5, q6] [] ds m Q else WP 160 197 [q0, q1, q2, q3, q4, q5, q6] [] ds m Q) := P_if k160_194 rfl
set_option maxRecDepth 20000 in
theorem k160_197 : mjCode 160 197 = some (.iconst 0, 1, 0, 0) := by decide +kernel
theorem p160_197 {q0 q1 q2 q3 q4 q5 q6 : MV} {ds : Ds} {m : Mm} {Q : Ds → Mm → List MV → Prop} : WP 160 197 [q0, q1, q2, q3, q4, q5, q6] [] ds m Q = (WP 160 198 [q0, q1, q2, q3, q4, q5, q6] [(0, 0)] ds m Q) := P_nx k160_197 rfl
set_option maxRecDepth 20000 in
theorem k160_198 : mjCode 160 198 = some (.istore 6, 2, 0, 0) := by decide +kernel
theorem p160_198 {l5 s0 : Int} {q0 q1 q2 q3 q4 q6 : MV} {ds : Ds} {m : Mm} {Q : Ds → Mm → List MV → Prop} : WP 160 198 [q0, q1, q2, q3, q4, (0, l5), q6] [(0, s0)] ds m Q = (WP 160 200 [q0, q1, q2, q3, q4, (0, l5), (0, s0)] [] ds m Q) := P_nx k160_198 rfl
set_option maxRecDepth 20000 in
theorem k160_200 : mjCode 160 200 = some (.iload 6, 2, 0, 0) := by decide +kernel
theorem p160_200 {l6 : Int} {q0 q1 q2 q3 q4 q5 : MV} {ds : Ds} {m : Mm} {Q : Ds → Mm → List MV → Prop} : WP 160 200 [q0, q1, q2, q3, q4, q5, (0, l6)] [] ds m Q = (WP 160 202 [q0, q1, q2, q3, q4, q5, (0, l6)] [(0, l6)] ds m Q) := P_nx k160_200 rfl
set_option maxRecDepth 20000 in
theorem k160_202 : mjCode 160 202 = some (.iconst 4, 1, 0, 0) := by decide +kernel
theorem p160_202 {s0 : Int} {q0 q1 q2 q3 q4 q5 q6 : MV} {ds : Ds} {m : Mm} {Q : Ds → Mm → List MV → Prop} : WP 160 202 [q0, q1, q2, q3, q4, q5, q6] [(0, s0)] ds m Q = (WP 160 203 [q0, q1, q2, q3, q4, q5, q6] [(0, 4), (0, s0)] ds m Q) := P_nx k160_202 rfl
set_option maxRecDepth 20000 in
theorem k160_203 : mjCode 160 203 = some (.if_icmp .ge 39, 3, 242, 0) := by decide +kernel
theorem p160_203 {s0 s1 : Int} {q0 q1 q2 q3 q4 q5 q6 : MV} {ds : Ds} {m : Mm} {Q : Ds → Mm → List MV → Prop} : WP 160 203 [q0, q1, q2, q3, q4, q5, q6] [(0, s0), (0, s1)] ds m Q = (if s1 < s0 then WP 160 206 [q0, q1, q2, q3, q4, q5, q6] [] ds m Q else WP 160 242 [q0, q1, q2, q3, q4, q5, q6] [] ds m Q) := P_if k160_203 rfl
set_option maxRecDepth 20000 in
theorem k160_206 : mjCode 160 206 = some (.iload 6, 2, 0, 0) := by decide +kernel
theorem p160_206 {l6 : Int} {q0 q1 q2 q3 q4 q5 : MV} {ds : Ds} {m : Mm} {Q : Ds → Mm → List MV → Prop} : WP 160 206 [q0, q1, q2, q3, q4, q5, (0, l6)] [] ds m Q = (WP 160 208 [q0, q1, q2, q3, q4, q5, (0, l6)] [(0, l6)] ds m Q) := P_nx k160_206 rfl
set_option maxRecDepth 20000 in
theorem k160_208 : mjCode 160 208 = some (.iload_n 2, 1, 0, 0) := by decide +kernel
theorem p160_208 {l2 s0 : Int} {q0 q1 q3 q4 q5 q6 : MV} {ds : Ds} {m : Mm} {Q : Ds → Mm → List MV → Prop} : WP 160 208 [q0, q1, (0, l2), q3, q4, q5, q6] [(0, s0)] ds m Q = (WP 160 209 [q0, q1, (0, l2), q3, q4, q5, q6] [(0, l2), (0, s0)] ds m Q) := P_nx k160_208 rfl
set_option maxRecDepth 20000 in
theorem k160_209 : mjCode 160 209 = some (.if_icmp .eq 27, 3, 236, 0) := by decide +kernel
theorem p160_209 {s0 s1 : Int} {q0 q1 q2 q3 q4 q5 q6 : MV} {ds : Ds} {m : Mm} {Q : Ds → Mm → List MV → Prop} : WP 160 209 [q0, q1, q2, q3, q4, q5, q6] [(0, s0), (0, s1)] ds m Q = (if s1 = s0 then WP 160 236 [q0, q1, q2, q3, q4, q5, q6] [] ds m Q else WP 160 212 [q0, q1, q2, q3, q4, q5, q6] [] ds m Q) := P_if k160_209 rfl
set_option maxRecDepth 20000 in
theorem k160_212 : mjCode 160 212 = some (.aload_n 0, 1, 0, 0) := by decide +kernel
theorem p160_212 {l0 : Int} {q1 q2 q3 q4 q5 q6 : MV} {ds : Ds} {m : Mm} {Q : Ds → Mm → List MV → Prop} : WP 160 212 [(2, l0), q1, q2, q3, q4, q5, q6] [] ds m Q = (WP 160 213 [(2, l0), q1, q2, q3, q4, q5, q6] [(2, l0)] ds m Q) := P_nx k160_212 rfl
set_option maxRecDepth 20000 in
theorem k160_213 : mjCode 160 213 = some (.aload_n 0, 1, 0, 0) := by decide +kernel
theorem p160_213 {l0 s0 : Int} {q1 q2 q3 q4 q5 q6 : MV} {ds : Ds} {m : Mm} {Q : Ds → Mm → List MV → Prop} : WP 160 213 [(2, l0), q1, q2, q3, q4, q5, q6] [(2, s0)] ds m Q = (WP 160 214 [(2, l0), q1, q2, q3, q4, q5, q6] [(2, l0), (2, s0)] ds m Q) := P_nx k160_213 rfl
set_option maxRecDepth 20000 in
theorem k160_214 : mjCode 160 214 = some (.getfield 213, 3, 7, 26) := by decide +kernel
theorem p160_214 {s0 s1 : Int} {q0 q1 q2 q3 q4 q5 q6 : MV} {ds : Ds} {m : Mm} {Q : Ds → Mm → List MV → Prop} : WP 160 214 [q0, q1, q2, q3, q4, q5, q6] [(2, s0), (2, s1)] ds m Q = ((dk ds s0 = 7 ∧ WP 160 217 [q0, q1, q2, q3, q4, q5, q6] [(0, m s0 26), (2, s1)] ds m Q)) := P_gd k160_214 rfl
set_option maxRecDepth 20000 in
theorem k160_217 : mjCode 160 217 = some (.iconst 1, 1, 0, 0) := by decide +kernel
theorem p160_217 {s0 s1 : Int} {q0 q1 q2 q3 q4 q5 q6 : MV} {ds : Ds} {m : Mm} {Q : Ds → Mm → List MV → Prop} : WP 160 217 [q0, q1, q2, q3, q4, q5, q6] [(0, s0), (2, s1)] ds m Q = (WP 160 218 [q0, q1, q2, q3, q4, q5, q6] [(0, 1), (0, s0), (2, s1)] ds m Q) := P_nx k160_217 rfl
set_option maxRecDepth 20000 in
theorem k160_218 : mjCode 160 218 = some (.iadd, 1, 0, 0) := by decide +kernel
theorem p160_218 {s0 s1 s2 : Int} {q0 q1 q2 q3 q4 q5 q6 : MV} {ds : Ds} {m : Mm} {Q : Ds → Mm → List MV → Prop} : WP 160 218 [q0, q1, q2, q3, q4, q5, q6] [(0, s0), (0, s1), (2, s2)] ds m Q = (WP 160 219 [q0, q1, q2, q3, q4, q5, q6] [(0, w32 (s1 + s0)), (2, s2)] ds m Q) := P_nx k160_218 rfl
set_option maxRecDepth 20000 in
theorem k160_219 : mjCode 160 219 = some (.iload_n 1, 1, 0, 0) := by decide +kernel
theorem p160_219 {l1 s0 s1 : Int} {q0 q2 q3 q4 q5 q6 : MV} {ds : Ds} {m : Mm} {Q : Ds → Mm → List MV → Prop} : WP 160 219 [q0, (0, l1), q2, q3, q4, q5, q6] [(0, s0), (2, s1)] ds m Q = (WP 160 220 [q0, (0, l1), q2, q3, q4, q5, q6] [(0, l1), (0, s0), (2, s1)] ds m Q) := P_nx k160_219 rfl
set_option maxRecDepth 20000 in
theorem k160_220 : mjCode 160 220 = some (.iload 6, 2, 0, 0) := by decide +kernel
theorem p160_220 {l6 s0 s1 s2 : Int} {q0 q1 q2 q3 q4 q5 : MV} {ds : Ds} {m : Mm} {Q : Ds → Mm → List MV → Prop} : WP 160 220 [q0, q1, q2, q3, q4, q5, (0, l6)] [(0, s0), (0, s1), (2, s2)] ds m Q = (WP 160 222 [q0, q1, q2, q3, q4, q5, (0, l6)] [(0, l6), (0, s0), (0, s1), (2, s2)] ds m Q) := P_nx k160_220 rfl
set_option maxRecDepth 20000 in
theorem k160_222 : mjCode 160 222 = some (.invokestatic 216, 3, 124, 2) := by decide +kernel
theorem p160_222 {s0 s1 s2 s3 : Int} {q0 q1 q2 q3 q4 q5 q6 : MV} {ds : Ds} {m : Mm} {Q : Ds → Mm → List MV → Prop} : WP 160 222 [q0, q1, q2, q3, q4, q5, q6] [(0, s0), (0, s1), (0, s2), (2, s3)] ds m Q = (WP 123 0 [(0, s1), (0, s0), (3, 0), (3, 0)] [] ds m (fun d2 m2 r2 => WP 160 225 [q0, q1, q2, q3, q4, q5, q6] (r2 ++ [(0, s2), (2, s3)]) d2 m2 Q)) := P_cs k160_222 mx123 rfl rfl rfl rfl rfl rfl rfl
set_option maxRecDepth 20000 in
theorem k160_225 : mjCode 160 225 = some (.iload 6, 2, 0, 0) := by decide +kernel
theorem p160_225 {l6 s0 s1 s2 : Int} {q0 q1 q2 q3 q4 q5 : MV} {ds : Ds} {m : Mm} {Q : Ds → Mm → List MV → Prop} : WP 160 225 [q0, q1, q2, q3, q4, q5, (0, l6)] [(0, s0), (0, s1), (2, s2)] ds m Q = (WP 160 227 [q0, q1, q2, q3, q4, q5, (0, l6)] [(0, l6), (0, s0), (0, s1), (2, s2)] ds m Q) := P_nx k160_225 rfl
set_option maxRecDepth 20000 in
theorem k160_227 : mjCode 160 227 = some (.iconst 2, 1, 0, 0) := by decide +kernel
theorem p160_227 {s0 s1 s2 s3 : Int} {q0 q1 q2 q3 q4 q5 q6 : MV} {ds : Ds} {m : Mm} {Q : Ds → Mm → List MV → Prop} : WP 160 227 [q0, q1, q2, q3, q4, q5, q6] [(0, s0), (0, s1), (0, s2), (2, s3)] ds m Q = (WP 160 228 [q0, q1, q2, q3, q4, q5, q6] [(0, 2), (0, s0), (0, s1), (0, s2), (2, s3)] ds m Q) := P_nx k160_227 rfl
set_option maxRecDepth 20000 in
theorem k160_228 : mjCode 160 228 = some (.iadd, 1, 0, 0) := by decide +kernel
theorem p160_228 {s0 s1 s2 s3 s4 : Int} {q0 q1 q2 q3 q4 q5 q6 : MV} {ds : Ds} {m : Mm} {Q : Ds → Mm → List MV → Prop} : WP 160 228 [q0, q1, q2, q3, q4, q5, q6] [(0, s0), (0, s1), (0, s2), (0, s3), (2, s4)] ds m Q = (WP 160 229 [q0, q1, q2, q3, q4, q5, q6] [(0, w32 (s1 + s0)), (0, s2), (0, s3), (2, s4)] ds m Q) := P_nx k160_228 rfl
set_option maxRecDepth 20000 in
theorem k160_229 : mjCode 160 229 = some (.iconst 4, 1, 0, 0) := by decide +kernel
theorem p160_229 {s0 s1 s2 s3 : Int} {q0 q1 q2 q3 q4 q5 q6 : MV} {ds : Ds} {m : Mm} {Q : Ds → Mm → List MV → Prop} : WP 160 229 [q0, q1, q2, q3, q4, q5, q6] [(0, s0), (0, s1), (0, s2), (2, s3)] ds m Q = (WP 160 230 [q0, q1, q2, q3, q4, q5, q6] [(0, 4), (0, s0), (0, s1), (0, s2), (2, s3)] ds m Q) := P_nx k160_229 rfl
set_option maxRecDepth 20000 in
theorem k160_230 : mjCode 160 230 = some (.irem, 1, 0, 0) := by decide +kernel
theorem p160_230 {s0 s1 s2 s3 s4 : Int} {q0 q1 q2 q3 q4 q5 q6 : MV} {ds : Ds} {m : Mm} {Q : Ds → Mm → List MV → Prop} : WP 160 230 [q0, q1, q2, q3, q4, q5, q6] [(0, s0), (0, s1), (0, s2), (0, s3), (2, s4)] ds m Q = ((¬ s0 = 0 ∧ WP 160 231 [q0, q1, q2, q3, q4, q5, q6] [(0, jrem s1 s0), (0, s2), (0, s3), (2, s4)] ds m Q)) := P_dv k160_230 rfl
set_option maxRecDepth 20000 in
theorem k160_231 : mjCode 160 231 = some (.iload_n 3, 1, 0, 0) := by decide +kernel
theorem p160_231 {l3 s0 s1 s2 s3 : Int} {q0 q1 q2 q4 q5 q6 : MV} {ds : Ds} {m : Mm} {Q : Ds → Mm → List MV → Prop} : WP 160 231 [q0, q1, q2, (0, l3), q4, q5, q6] [(0, s0), (0, s1), (0, s2), (2, s3)] ds m Q = (WP 160 232 [q0, q1, q2, (0, l3), q4, q5, q6] [(0, l3), (0, s0), (0, s1), (0, s2), (2, s3)] ds m Q) := P_nx k160_231 rfl
set_option maxRecDepth 20000 in
theorem k160_232 : mjCode 160 232 = some (.iconst 0, 1, 0, 0) := by decide +kernel
theorem p160_232 {s0 s1 s2 s3 s4 : Int} {q0 q1 q2 q3 q4 q5 q6 : MV} {ds : Ds} {m : Mm} {Q : Ds → Mm → List MV → Prop} : WP 160 232 [q0, q1, q2, q3, q4, q5, q6] [(0, s0), (0, s1), (0, s2), (0, s3), (2, s4)] ds m Q = (WP 160 233 [q0, q1, q2, q3, q4, q5, q6] [(0, 0), (0, s0), (0, s1), (0, s2), (0, s3), (2, s4)] ds m Q) := P_nx k160_232 rfl
set_option maxRecDepth 20000 in
theorem k160_233 : mjCode 160 233 = some (.invokevirtual 219, 3, 156, 6) := by decide +kernel
theorem p160_233 {s0 s1 s2 s3 s4 s5 : Int} {q0 q1 q2 q3 q4 q5 q6 : MV} {ds : Ds} {m : Mm} {Q : Ds → Mm → List MV → Prop} : WP 160 233 [q0, q1, q2, q3, q4, q5, q6] [(0, s0), (0, s1), (0, s2), (0, s3), (0, s4), (2, s5)] ds m Q = ((dk ds s5 = 7 ∧ WP 155 0 [(2, s5), (0, s4), (0, s3), (0, s2), (0, s1), (0, s0)] [] ds m (fun d2 m2 r2 => WP 160 236 [q0, q1, q2, q3, q4, q5, q6] (r2 ++ []) d2 m2 Q))) := P_cv k160_233 mx155 mo155 rfl rfl rfl rfl rfl rfl rfl rfl
set_option maxRecDepth 20000 in
theorem k160_236 : mjCode 160 236 = some (.iinc 6 1, 3, 0, 0) := by decide +kernel
theorem p160_236 {l6 : Int} {q0 q1 q2 q3 q4 q5 : MV} {ds : Ds} {m : Mm} {Q : Ds → Mm → List MV → Prop} : WP 160 236 [q0, q1, q2, q3, q4, q5, (0, l6)] [] ds m Q = (WP 160 239 [q0, q1, q2, q3, q4, q5, (0, w32 (l6 + 1))] [] ds m Q) := P_nx k160_236 rfl
set_option maxRecDepth 20000 in
theorem k160_239 : mjCode 160 239 = some (.goto (-39), 3, 200, 0) := by decide +kernel
theorem p160_239 {q0 q1 q2 q3 q4 q5 q6 : MV} {ds : Ds} {m : Mm} {Q : Ds → Mm → List MV → Prop} : WP 160 239 [q0, q1, q2, q3, q4, q5, q6] [] ds m Q = (WP 160 200 [q0, q1, q2, q3, q4, q5, q6] [] ds m Q) := P_nx k160_239 rfl
set_option maxRecDepth 20000 in
theorem k160_242 : mjCode 160 242 = some (.goto 128, 3, 370, 0) := by decide +kernel
theorem p160_242 {q0 q1 q2 q3 q4 q5 q6 : MV} {ds : Ds} {m : Mm} {Q : Ds → Mm → List MV → Prop} : WP 160 242 [q0, q1, q2, q3, q4, q5, q6] [] ds m Q = (WP 160 370 [q0, q1, q2, q3, q4, q5, q6] [] ds m Q) := P_nx k160_242 rfl
set_option maxRecDepth 20000 in
theorem k160_245 : mjCode 160 245 = some (.iload 4, 2, 0, 0) := by decide +kernel
theorem p160_245 {l4 : Int} {q0 q1 q2 q3 q5 q6 : MV} {ds : Ds} {m : Mm} {Q : Ds → Mm → List MV → Prop} : WP 160 245 [q0, q1, q2, q3, (0, l4), q5, q6] [] ds m Q = (WP 160 247 [q0, q1, q2, q3, (0, l4), q5, q6] [(0, l4)] ds m Q) := P_nx k160_245 rfl
set_option maxRecDepth 20000 in
theorem k160_247 : mjCode 160 247 = some (.bipush 6, 2, 0, 0) := by decide +kernel
theorem p160_247 {s0 : Int} {q0 q1 q2 q3 q4 q5 q6 : MV} {ds : Ds} {m : Mm} {Q : Ds → Mm → List MV → Prop} : WP 160 247 [q0, q1, q2, q3, q4, q5, q6] [(0, s0)] ds m Q = (WP 160 249 [q0, q1, q2, q3, q4, q5, q6] [(0, 6), (0, s0)] ds m Q) := P_nx k160_247 rfl
set_option maxRecDepth 20000 in
theorem k160_249 : mjCode 160 249 = some (.if_icmp .ne 28, 3, 277, 0) := by decide +kernel
theorem p160_249 {s0 s1 : Int} {q0 q1 q2 q3 q4 q5 q6 : MV} {ds : Ds} {m : Mm} {Q : Ds → Mm → List MV → Prop} : WP 160 249 [q0, q1, q2, q3, q4, q5, q6] [(0, s0), (0, s1)] ds m Q = (if s1 = s0 then WP 160 252 [q0, q1, q2, q3, q4, q5, q6] [] ds m Q else WP 160 277 [q0, q1, q2, q3, q4, q5, q6] [] ds m Q) := P_if k160_249 rfl
set_option maxRecDepth 20000 in
theorem k160_252 : mjCode 160 252 = some (.aload_n 0, 1, 0, 0) := by decide +kernel
theorem p160_252 {l0 : Int} {q1 q2 q3 q4 q5 q6 : MV} {ds : Ds} {m : Mm} {Q : Ds → Mm → List MV → Prop} : WP 160 252 [(2, l0), q1, q2, q3, q4, q5, q6] [] ds m Q = (WP 160 253 [(2, l0), q1, q2, q3, q4, q5, q6] [(2, l0)] ds m Q) := P_nx k160_252 rfl
set_option maxRecDepth 20000 in
theorem k160_253 : mjCode 160 253 = some (.getfield 78, 3, 7, 27) := by decide +kernel
theorem p160_253 {s0 : Int} {q0 q1 q2 q3 q4 q5 q6 : MV} {ds : Ds} {m : Mm} {Q : Ds → Mm → List MV → Prop} : WP 160 253 [q0, q1, q2, q3, q4, q5, q6] [(2, s0)] ds m Q = ((dk ds s0 = 7 ∧ WP 160 256 [q0, q1, q2, q3, q4, q5, q6] [(2, m s0 27)] ds m Q)) := P_gd k160_253 rfl
set_option maxRecDepth 20000 in
theorem k160_256 : mjCode 160 256 = some (.iload_n 1, 1, 0, 0) := by decide +kernel
theorem p160_256 {l1 s0 : Int} {q0 q2 q3 q4 q5 q6 : MV} {ds : Ds} {m : Mm} {Q : Ds → Mm → List MV → Prop} : WP 160 256 [q0, (0, l1), q2, q3, q4, q5, q6] [(2, s0)] ds m Q = (WP 160 257 [q0, (0, l1), q2, q3, q4, q5, q6] [(0, l1), (2, s0)] ds m Q) := P_nx k160_256 rfl
set_option maxRecDepth 20000 in
theorem k160_257 : mjCode 160 257 = some (.iaload, 1, 0, 0) := by decide +kernel
theorem p160_257 {s0 s1 : Int} {q0 q1 q2 q3 q4 q5 q6 : MV} {ds : Ds} {m : Mm} {Q : Ds → Mm → List MV → Prop} : WP 160 257 [q0, q1, q2, q3, q4, q5, q6] [(0, s0), (2, s1)] ds m Q = ((dk ds s1 = 10 ∧ 0 ≤ s0 ∧ s0 < dl ds s1 ∧ WP 160 258 [q0, q1, q2, q3, q4, q5, q6] [(0, m s1 s0)] ds m Q)) := P_g3 k160_257 rfl
set_option maxRecDepth 20000 in
theorem k160_258 : mjCode 160 258 = some (.aload_n 0, 1, 0, 0) := by decide +kernel
theorem p160_258 {l0 s0 : Int} {q1 q2 q3 q4 q5 q6 : MV} {ds : Ds} {m : Mm} {Q : Ds → Mm → List MV → Prop} : WP 160 258 [(2, l0), q1, q2, q3, q4, q5, q6] [(0, s0)] ds m Q = (WP 160 259 [(2, l0), q1, q2, q3, q4, q5, q6] [(2, l0), (0, s0)] ds m Q) := P_nx k160_258 rfl
set_option maxRecDepth 20000 in
theorem k160_259 : mjCode 160 259 = some (.getfield 19, 3, 7, 3) := by decide +kernel
theorem p160_259 {s0 s1 : Int} {q0 q1 q2 q3 q4 q5 q6 : MV} {ds : Ds} {m : Mm} {Q : Ds → Mm → List MV → Prop} : WP 160 259 [q0, q1, q2, q3, q4, q5, q6] [(2, s0), (0, s1)] ds m Q = ((dk ds s0 = 7 ∧ WP 160 262 [q0, q1, q2, q3, q4, q5, q6] [(2, m s0 3), (0, s1)] ds m Q)) := P_gd k160_259 rfl
set_option maxRecDepth 20000 in
theorem k160_262 : mjCode 160 262 = some (.iload_n 1, 1, 0, 0) := by decide +kernel
theorem p160_262 {l1 s0 s1 : Int} {q0 q2 q3 q4 q5 q6 : MV} {ds : Ds} {m : Mm} {Q : Ds → Mm → List MV → Prop} : WP 160 262 [q0, (0, l1), q2, q3, q4, q5, q6] [(2, s0), (0, s1)] ds m Q = (WP 160 263 [q0, (0, l1), q2, q3, q4, q5, q6] [(0, l1), (2, s0), (0, s1)] ds m Q) := P_nx k160_262 rfl
set_option maxRecDepth 20000 in
theorem k160_263 : mjCode 160 263 = some (.iaload, 1, 0, 0) := by decide +kernel
theorem p160_263 {s0 s1 s2 : Int} {q0 q1 q2 q3 q4 q5 q6 : MV} {ds : Ds} {m : Mm} {Q : Ds → Mm → List MV → Prop} : WP 160 263 [q0, q1, q2, q3, q4, q5, q6] [(0, s0), (2, s1), (0, s2)] ds m Q = ((dk ds s1 = 10 ∧ 0 ≤ s0 ∧ s0 < dl ds s1 ∧ WP 160 264 [q0, q1, q2, q3, q4, q5, q6] [(0, m s1 s0), (0, s2)] ds m Q)) := P_g3 k160_263 rfl
set_option maxRecDepth 20000 in
theorem k160_264 : mjCode 160 264 = some (.if_icmp .ne 13, 3, 277, 0) := by decide +kernel
theorem p160_264 {s0 s1 : Int} {q0 q1 q2 q3 q4 q5 q6 : MV} {ds : Ds} {m : Mm} {Q : Ds → Mm → List MV → Prop} : WP 160 264 [q0, q1, q2, q3, q4, q5, q6] [(0, s0), (0, s1)] ds m Q = (if s1 = s0 then WP 160 267 [q0, q1, q2, q3, q4, q5, q6] [] ds m Q else WP 160 277 [q0, q1, q2, q3, q4, q5, q6] [] ds m Q) := P_if k160_264 rfl
set_option maxRecDepth 20000 in
theorem k160_267 : mjCode 160 267 = some (.aload_n 0, 1, 0, 0) := by decide +kernel
theorem p160_267 {l0 : Int} {q1 q2 q3 q4 q5 q6 : MV} {ds : Ds} {m : Mm} {Q : Ds → Mm → List MV → Prop} : WP 160 267 [(2, l0), q1, q2, q3, q4, q5, q6] [] ds m Q = (WP 160 268 [(2, l0), q1, q2, q3, q4, q5, q6] [(2, l0)] ds m Q) := P_nx k160_267 rfl
set_option maxRecDepth 20000 in
theorem k160_268 : mjCode 160 268 = some (.iload_n 1, 1, 0, 0) := by decide +kernel
theorem p160_268 {l1 s0 : Int} {q0 q2 q3 q4 q5 q6 : MV} {ds : Ds} {m : Mm} {Q : Ds → Mm → List MV → Prop} : WP 160 268 [q0, (0, l1), q2, q3, q4, q5, q6] [(2, s0)] ds m Q = (WP 160 269 [q0, (0, l1), q2, q3, q4, q5, q6] [(0, l1), (2, s0)] ds m Q) := P_nx k160_268 rfl
set_option maxRecDepth 20000 in
theorem k160_269 : mjCode 160 269 = some (.iconst 1, 1, 0, 0) := by decide +kernel
theorem p160_269 {s0 s1 : Int} {q0 q1 q2 q3 q4 q5 q6 : MV} {ds : Ds} {m : Mm} {Q : Ds → Mm → List MV → Prop} : WP 160 269 [q0, q1, q2, q3, q4, q5, q6] [(0, s0), (2, s1)] ds m Q = (WP 160 270 [q0, q1, q2, q3, q4, q5, q6] [(0, 1), (0, s0), (2, s1)] ds m Q) := P_nx k160_269 rfl
set_option maxRecDepth 20000 in
theorem k160_270 : mjCode 160 270 = some (.iload_n 3, 1, 0, 0) := by decide +kernel
theorem p160_270 {l3 s0 s1 s2 : Int} {q0 q1 q2 q4 q5 q6 : MV} {ds : Ds} {m : Mm} {Q : Ds → Mm → List MV → Prop} : WP 160 270 [q0, q1, q2, (0, l3), q4, q5, q6] [(0, s0), (0, s1), (2, s2)] ds m Q = (WP 160 271 [q0, q1, q2, (0, l3), q4, q5, q6] [(0, l3), (0, s0), (0, s1), (2, s2)] ds m Q) := P_nx k160_270 rfl
set_option maxRecDepth 20000 in
theorem k160_271 : mjCode 160 271 = some (.invokevirtual 235, 3, 158, 4) := by decide +kernel
theorem p160_271 {s0 s1 s2 s3 : Int} {q0 q1 q2 q3 q4 q5 q6 : MV} {ds : Ds} {m : Mm} {Q : Ds → Mm → List MV → Prop} : WP 160 271 [q0, q1, q2, q3, q4, q5, q6] [(0, s0), (0, s1), (0, s2), (2, s3)] ds m Q = ((dk ds s3 = 7 ∧ WP 157 0 [(2, s3), (0, s2), (0, s1), (0, s0)] [] ds m (fun d2 m2 r2 => WP 160 274 [q0, q1, q2, q3, q4, q5, q6] (r2 ++ []) d2 m2 Q))) := P_cv k160_271 mx157 mo157 rfl rfl rfl rfl rfl rfl rfl rfl
set_option maxRecDepth 20000 in
theorem k160_274 : mjCode 160 274 = some (.goto 96, 3, 370, 0) := by decide +kernel
theorem p160_274 {q0 q1 q2 q3 q4 q5 q6 : MV} {ds : Ds} {m : Mm} {Q : Ds → Mm → List MV → Prop} : WP 160 274 [q0, q1, q2, q3, q4, q5, q6] [] ds m Q = (WP 160 370 [q0, q1, q2, q3, q4, q5, q6] [] ds m Q) := P_nx k160_274 rfl
set_option maxRecDepth 20000 in
theorem k160_277 : mjCode 160 277 = some (.iload 4, 2, 0, 0) := by decide +kernel
theorem p160_277 {l4 : Int} {q0 q1 q2 q3 q5 q6 : MV} {ds : Ds} {m : Mm} {Q : Ds → Mm → List MV → Prop} : WP 160 277 [q0, q1, q2, q3, (0, l4), q5, q6] [] ds m Q = (WP 160 279 [q0, q1, q2, q3, (0, l4), q5, q6] [(0, l4)] ds m Q) := P_nx k160_277 rfl
set_option maxRecDepth 20000 in
theorem k160_279 : mjCode 160 279 = some (.bipush 7, 2, 0, 0) := by decide +kernel
theorem p160_279 {s0 : Int} {q0 q1 q2 q3 q4 q5 q6 : MV} {ds : Ds} {m : Mm} {Q : Ds → Mm → List MV → Prop} : WP 160 279 [q0, q1, q2, q3, q4, q5, q6] [(0, s0)] ds m Q = (WP 160 281 [q0, q1, q2, q3, q4, q5, q6] [(0, 7), (0, s0)] ds m Q) := P_nx k160_279 rfl
set_option maxRecDepth 20000 in
theorem k160_281 : mjCode 160 281 = some (.if_icmp .ne 13, 3, 294, 0) := by decide +kernel
theorem p160_281 {s0 s1 : Int} {q0 q1 q2 q3 q4 q5 q6 : MV} {ds : Ds} {m : Mm} {Q : Ds → Mm → List MV → Prop} : WP 160 281 [q0, q1, q2, q3, q4, q5, q6] [(0, s0), (0, s1)] ds m Q = (if s1 = s0 then WP 160 284 [q0, q1, q2, q3, q4, q5, q6] [] ds m Q else WP 160 294 [q0, q1, q2, q3, q4, q5, q6] [] ds m Q) := P_if k160_281 rfl
set_option maxRecDepth 20000 in
theorem k160_284 : mjCode 160 284 = some (.aload_n 0, 1, 0, 0) := by decide +kernel
theorem p160_284 {l0 : Int} {q1 q2 q3 q4 q5 q6 : MV} {ds : Ds} {m : Mm} {Q : Ds → Mm → List MV → Prop} : WP 160 284 [(2, l0), q1, q2, q3, q4, q5, q6] [] ds m Q = (WP 160 285 [(2, l0), q1, q2, q3, q4, q5, q6] [(2, l0)] ds m Q) := P_nx k160_284 rfl
set_option maxRecDepth 20000 in
theorem k160_285 : mjCode 160 285 = some (.getfield 81, 3, 7, 28) := by decide +kernel
theorem p160_285 {s0 : Int} {q0 q1 q2 q3 q4 q5 q6 : MV} {ds : Ds} {m : Mm} {Q : Ds → Mm → List MV → Prop} : WP 160 285 [q0, q1, q2, q3, q4, q5, q6] [(2, s0)] ds m Q = ((dk ds s0 = 7 ∧ WP 160 288 [q0, q1, q2, q3, q4, q5, q6] [(2, m s0 28)] ds m Q)) := P_gd k160_285 rfl
set_option maxRecDepth 20000 in
theorem k160_288 : mjCode 160 288 = some (.iload_n 1, 1, 0, 0) := by decide +kernel
theorem p160_288 {l1 s0 : Int} {q0 q2 q3 q4 q5 q6 : MV} {ds : Ds} {m : Mm} {Q : Ds → Mm → List MV → Prop} : WP 160 288 [q0, (0, l1), q2, q3, q4, q5, q6] [(2, s0)] ds m Q = (WP 160 289 [q0, (0, l1), q2, q3, q4, q5, q6] [(0, l1), (2, s0)] ds m Q) := P_nx k160_288 rfl
set_option maxRecDepth 20000 in
theorem k160_289 : mjCode 160 289 = some (.iconst 1, 1, 0, 0) := by decide +kernel
theorem p160_289 {s0 s1 : Int} {q0 q1 q2 q3 q4 q5 q6 : MV} {ds : Ds} {m : Mm} {Q : Ds → Mm → List MV → Prop} : WP 160 289 [q0, q1, q2, q3, q4, q5, q6] [(0, s0), (2, s1)] ds m Q = (WP 160 290 [q0, q1, q2, q3, q4, q5, q6] [(0, 1), (0, s0), (2, s1)] ds m Q) := P_nx k160_289 rfl
set_option maxRecDepth 20000 in
theorem k160_290 : mjCode 160 290 = some (.bastore, 1, 0, 0) := by decide +kernel
theorem p160_290 {s0 s1 s2 : Int} {q0 q1 q2 q3 q4 q5 q6 : MV} {ds : Ds} {m : Mm} {Q : Ds → Mm → List MV → Prop} : WP 160 290 [q0, q1, q2, q3, q4, q5, q6] [(0, s0), (0, s1), (2, s2)] ds m Q = (((s0 = 0 ∨ s0 = 1) ∧ dk ds s2 = 11 ∧ 0 ≤ s1 ∧ s1 < dl ds s2 ∧ WP 160 291 [q0, q1, q2, q3, q4, q5, q6] [] ds (up m s2 s1 s0) Q)) := P_s4 k160_290 rfl
set_option maxRecDepth 20000 in
theorem k160_291 : mjCode 160 291 = some (.goto 79, 3, 370, 0) := by decide +kernel
theorem p160_291 {q0 q1 q2 q3 q4 q5 q6 : MV} {ds : Ds} {m : Mm} {Q : Ds → Mm → List MV → Prop} : WP 160 291 [q0, q1, q2, q3, q4, q5, q6] [] ds m Q = (WP 160 370 [q0, q1, q2, q3, q4, q5, q6] [] ds m Q) := P_nx k160_291 rfl
set_option maxRecDepth 20000 in
theorem k160_294 : mjCode 160 294 = some (.iload 4, 2, 0, 0) := by decide +kernel
theorem p160_294 {l4 : Int} {q0 q1 q2 q3 q5 q6 : MV} {ds : Ds} {m : Mm} {Q : Ds → Mm → List MV → Prop} : WP 160 294 [q0, q1, q2, q3, (0, l4), q5, q6] [] ds m Q = (WP 160 296 [q0, q1, q2, q3, (0, l4), q5, q6] [(0, l4)] ds m Q) := P_nx k160_294 rfl
set_option maxRecDepth 20000 in
theorem k160_296 : mjCode 160 296 = some (.bipush 8, 2, 0, 0) := by decide +kernel
theorem p160_296 {s0 : Int} {q0 q1 q2 q3 q4 q5 q6 : MV} {ds : Ds} {m : Mm} {Q : Ds → Mm → List MV → Prop} : WP 160 296 [q0, q1, q2, q3, q4, q5, q6] [(0, s0)] ds m Q = (WP 160 298 [q0, q1, q2, q3, q4, q5, q6] [(0, 8), (0, s0)] ds m Q) := P_nx k160_296 rfl
set_option maxRecDepth 20000 in
theorem k160_298 : mjCode 160 298 = some (.if_icmp .ne 72, 3, 370, 0) := by decide +kernel
theorem p160_298 {s0 s1 : Int} {q0 q1 q2 q3 q4 q5 q6 : MV} {ds : Ds} {m : Mm} {Q : Ds → Mm → List MV → Prop} : WP 160 298 [q0, q1, q2, q3, q4, q5, q6] [(0, s0), (0, s1)] ds m Q = (if s1 = s0 then WP 160 301 [q0, q1, q2, q3, q4, q5, q6] [] ds m Q else WP 160 370 [q0, q1, q2, q3, q4, q5, q6] [] ds m Q) := P_if k160_298 rfl
set_option maxRecDepth 20000 in
theorem k160_301 : mjCode 160 301 = some (.bipush 96, 2, 0, 0) := by decide +kernel
theorem p160_301 {q0 q1 q2 q3 q4 q5 q6 : MV} {ds : Ds} {m : Mm} {Q : Ds → Mm → List MV → Prop} : WP 160 301 [q0, q1, q2, q3, q4, q5, q6] [] ds m Q = (WP 160 303 [q0, q1, q2, q3, q4, q5, q6] [(0, 96)] ds m Q) := P_nx k160_301 rfl
set_option maxRecDepth 20000 in
theorem k160_303 : mjCode 160 303 = some (.aload_n 0, 1, 0, 0) := by decide +kernel
theorem p160_303 {l0 s0 : Int} {q1 q2 q3 q4 q5 q6 : MV} {ds : Ds} {m : Mm} {Q : Ds → Mm → List MV → Prop} : WP 160 303 [(2, l0), q1, q2, q3, q4, q5, q6] [(0, s0)] ds m Q = (WP 160 304 [(2, l0), q1, q2, q3, q4, q5, q6] [(2, l0), (0, s0)] ds m Q) := P_nx k160_303 rfl
set_option maxRecDepth 20000 in
theorem k160_304 : mjCode 160 304 = some (.getfield 222, 3, 7, 45) := by decide +kernel
theorem p160_304 {s0 s1 : Int} {q0 q1 q2 q3 q4 q5 q6 : MV} {ds : Ds} {m : Mm} {Q : Ds → Mm → List MV → Prop} : WP 160 304 [q0, q1, q2, q3, q4, q5, q6] [(2, s0), (0, s1)] ds m Q = ((dk ds s0 = 7 ∧ WP 160 307 [q0, q1, q2, q3, q4, q5, q6] [(0, m s0 45), (0, s1)] ds m Q)) := P_gd k160_304 rfl
set_option maxRecDepth 20000 in
theorem k160_307 : mjCode 160 307 = some (.imul, 1, 0, 0) := by decide +kernel
theorem p160_307 {s0 s1 : Int} {q0 q1 q2 q3 q4 q5 q6 : MV} {ds : Ds} {m : Mm} {Q : Ds → Mm → List MV → Prop} : WP 160 307 [q0, q1, q2, q3, q4, q5, q6] [(0, s0), (0, s1)] ds m Q = (WP 160 308 [q0, q1, q2, q3, q4, q5, q6] [(0, w32 (s1 * s0))] ds m Q) := P_nx k160_307 rfl
set_option maxRecDepth 20000 in
theorem k160_308 : mjCode 160 308 = some (.iload_n 1, 1, 0, 0) := by decide +kernel
theorem p160_308 {l1 s0 : Int} {q0 q2 q3 q4 q5 q6 : MV} {ds : Ds} {m : Mm} {Q : Ds → Mm → List MV → Prop} : WP 160 308 [q0, (0, l1), q2, q3, q4, q5, q6] [(0, s0)] ds m Q = (WP 160 309 [q0, (0, l1), q2, q3, q4, q5, q6] [(0, l1), (0, s0)] ds m Q) := P_nx k160_308 rfl
set_option maxRecDepth 20000 in
theorem k160_309 : mjCode 160 309 = some (.iadd, 1, 0, 0) := by decide +kernel
theorem p160_309 {s0 s1 : Int} {q0 q1 q2 q3 q4 q5 q6 : MV} {ds : Ds} {m : Mm} {Q : Ds → Mm → List MV → Prop} : WP 160 309 [q0, q1, q2, q3, q4, q5, q6] [(0, s0), (0, s1)] ds m Q = (WP 160 310 [q0, q1, q2, q3, q4, q5, q6] [(0, w32 (s1 + s0))] ds m Q) := P_nx k160_309 rfl
set_option maxRecDepth 20000 in
theorem k160_310 : mjCode 160 310 = some (.istore 6, 2, 0, 0) := by decide +kernel
theorem p160_310 {l5 s0 : Int} {q0 q1 q2 q3 q4 q6 : MV} {ds : Ds} {m : Mm} {Q : Ds → Mm → List MV → Prop} : WP 160 310 [q0, q1, q2, q3, q4, (0, l5), q6] [(0, s0)] ds m Q = (WP 160 312 [q0, q1, q2, q3, q4, (0, l5), (0, s0)] [] ds m Q) := P_nx k160_310 rfl
set_option maxRecDepth 20000 in
theorem k160_312 : mjCode 160 312 = some (.aload_n 0, 1, 0, 0) := by decide +kernel
theorem p160_312 {l0 : Int} {q1 q2 q3 q4 q5 q6 : MV} {ds : Ds} {m : Mm} {Q : Ds → Mm → List MV → Prop} : WP 160 312 [(2, l0), q1, q2, q3, q4, q5, q6] [] ds m Q = (WP 160 313 [(2, l0), q1, q2, q3, q4, q5, q6] [(2, l0)] ds m Q) := P_nx k160_312 rfl
set_option maxRecDepth 20000 in
theorem k160_313 : mjCode 160 313 = some (.getfield 114, 3, 7, 40) := by decide +kernel
theorem p160_313 {s0 : Int} {q0 q1 q2 q3 q4 q5 q6 : MV} {ds : Ds} {m : Mm} {Q : Ds → Mm → List MV → Prop} : WP 160 313 [q0, q1, q2, q3, q4, q5, q6] [(2, s0)] ds m Q = ((dk ds s0 = 7 ∧ WP 160 316 [q0, q1, q2, q3, q4, q5, q6] [(2, m s0 40)] ds m Q)) := P_gd k160_313 rfl
set_option maxRecDepth 20000 in
theorem k160_316 : mjCode 160 316 = some (.iload 6, 2, 0, 0) := by decide +kernel
theorem p160_316 {l6 s0 : Int} {q0 q1 q2 q3 q4 q5 : MV} {ds : Ds} {m : Mm} {Q : Ds → Mm → List MV → Prop} : WP 160 316 [q0, q1, q2, q3, q4, q5, (0, l6)] [(2, s0)] ds m Q = (WP 160 318 [q0, q1, q2, q3, q4, q5, (0, l6)] [(0, l6), (2, s0)] ds m Q) := P_nx k160_316 rfl
set_option maxRecDepth 20000 in
theorem k160_318 : mjCode 160 318 = some (.iaload, 1, 0, 0) := by decide +kernel
theorem p160_318 {s0 s1 : Int} {q0 q1 q2 q3 q4 q5 q6 : MV} {ds : Ds} {m : Mm} {Q : Ds → Mm → List MV → Prop} : WP 160 318 [q0, q1, q2, q3, q4, q5, q6] [(0, s0), (2, s1)] ds m Q = ((dk ds s1 = 10 ∧ 0 ≤ s0 ∧ s0 < dl ds s1 ∧ WP 160 319 [q0, q1, q2, q3, q4, q5, q6] [(0, m s1 s0)] ds m Q)) := P_g3 k160_318 rfl
set_option maxRecDepth 20000 in
theorem k160_319 : mjCode 160 319 = some (.ifCond .ne 22, 3, 341, 0) := by decide +kernel
theorem p160_319 {s0 : Int} {q0 q1 q2 q3 q4 q5 q6 : MV} {ds : Ds} {m : Mm} {Q : Ds → Mm → List MV → Prop} : WP 160 319 [q0, q1, q2, q3, q4, q5, q6] [(0, s0)] ds m Q = (if s0 = 0 then WP 160 322 [q0, q1, q2, q3, q4, q5, q6] [] ds m Q else WP 160 341 [q0, q1, q2, q3, q4, q5, q6] [] ds m Q) := P_if k160_319 rfl
set_option maxRecDepth 20000 in
theorem k160_322 : mjCode 160 322 = some (.aload_n 0, 1, 0, 0) := by decide +kernel
theorem p160_322 {l0 : Int} {q1 q2 q3 q4 q5 q6 : MV} {ds : Ds} {m : Mm} {Q : Ds → Mm → List MV → Prop} : WP 160 322 [(2, l0), q1, q2, q3, q4, q5, q6] [] ds m Q = (WP 160 323 [(2, l0), q1, q2, q3, q4, q5, q6] [(2, l0)] ds m Q) := P_nx k160_322 rfl
set_option maxRecDepth 20000 in
theorem k160_323 : mjCode 160 323 = some (.getfield 108, 3, 7, 38) := by decide +kernel
theorem p160_323 {s0 : Int} {q0 q1 q2 q3 q4 q5 q6 : MV} {ds : Ds} {m : Mm} {Q : Ds → Mm → List MV → Prop} : WP 160 323 [q0, q1, q2, q3, q4, q5, q6] [(2, s0)] ds m Q = ((dk ds s0 = 7 ∧ WP 160 326 [q0, q1, q2, q3, q4, q5, q6] [(2, m s0 38)] ds m Q)) := P_gd k160_323 rfl
set_option maxRecDepth 20000 in
theorem k160_326 : mjCode 160 326 = some (.iload 6, 2, 0, 0) := by decide +kernel
theorem p160_326 {l6 s0 : Int} {q0 q1 q2 q3 q4 q5 : MV} {ds : Ds} {m : Mm} {Q : Ds → Mm → List MV → Prop} : WP 160 326 [q0, q1, q2, q3, q4, q5, (0, l6)] [(2, s0)] ds m Q = (WP 160 328 [q0, q1, q2, q3, q4, q5, (0, l6)] [(0, l6), (2, s0)] ds m Q) := P_nx k160_326 rfl
set_option maxRecDepth 20000 in
theorem k160_328 : mjCode 160 328 = some (.aload_n 0, 1, 0, 0) := by decide +kernel
theorem p160_328 {l0 s0 s1 : Int} {q1 q2 q3 q4 q5 q6 : MV} {ds : Ds} {m : Mm} {Q : Ds → Mm → List MV → Prop} : WP 160 328 [(2, l0), q1, q2, q3, q4, q5, q6] [(0, s0), (2, s1)] ds m Q = (WP 160 329 [(2, l0), q1, q2, q3, q4, q5, q6] [(2, l0), (0, s0), (2, s1)] ds m Q) := P_nx k160_328 rfl
set_option maxRecDepth 20000 in
theorem k160_329 : mjCode 160 329 = some (.getfield 213, 3, 7, 26) := by decide +kernel
theorem p160_329 {s0 s1 s2 : Int} {q0 q1 q2 q3 q4 q5 q6 : MV} {ds : Ds} {m : Mm} {Q : Ds → Mm → List MV → Prop} : WP 160 329 [q0, q1, q2, q3, q4, q5, q6] [(2, s0), (0, s1), (2, s2)] ds m Q = ((dk ds s0 = 7 ∧ WP 160 332 [q0, q1, q2, q3, q4, q5, q6] [(0, m s0 26), (0, s1), (2, s2)] ds m Q)) := P_gd k160_329 rfl
set_option maxRecDepth 20000 in
theorem k160_332 : mjCode 160 332 = some (.iastore, 1, 0, 0) := by decide +kernel
theorem p160_332 {s0 s1 s2 : Int} {q0 q1 q2 q3 q4 q5 q6 : MV} {ds : Ds} {m : Mm} {Q : Ds → Mm → List MV → Prop} : WP 160 332 [q0, q1, q2, q3, q4, q5, q6] [(0, s0), (0, s1), (2, s2)] ds m Q = ((dk ds s2 = 10 ∧ 0 ≤ s1 ∧ s1 < dl ds s2 ∧ WP 160 333 [q0, q1, q2, q3, q4, q5, q6] [] ds (up m s2 s1 s0) Q)) := P_s3 k160_332 rfl
set_option maxRecDepth 20000 in
theorem k160_333 : mjCode 160 333 = some (.aload_n 0, 1, 0, 0) := by decide +kernel
theorem p160_333 {l0 : Int} {q1 q2 q3 q4 q5 q6 : MV} {ds : Ds} {m : Mm} {Q : Ds → Mm → List MV → Prop} : WP 160 333 [(2, l0), q1, q2, q3, q4, q5, q6] [] ds m Q = (WP 160 334 [(2, l0), q1, q2, q3, q4, q5, q6] [(2, l0)] ds m Q) := P_nx k160_333 rfl
set_option maxRecDepth 20000 in
theorem k160_334 : mjCode 160 334 = some (.getfield 111, 3, 7, 39) := by decide +kernel
theorem p160_334 {s0 : Int} {q0 q1 q2 q3 q4 q5 q6 : MV} {ds : Ds} {m : Mm} {Q : Ds → Mm → List MV → Prop} : WP 160 334 [q0, q1, q2, q3, q4, q5, q6] [(2, s0)] ds m Q = ((dk ds s0 = 7 ∧ WP 160 337 [q0, q1, q2, q3, q4, q5, q6] [(2, m s0 39)] ds m Q)) := P_gd k160_334 rfl
set_option maxRecDepth 20000 in
theorem k160_337 : mjCode 160 337 = some (.iload 6, 2, 0, 0) := by decide +kernel
theorem p160_337 {l6 s0 : Int} {q0 q1 q2 q3 q4 q5 : MV} {ds : Ds} {m : Mm} {Q : Ds → Mm → List MV → Prop} : WP 160 337 [q0, q1, q2, q3, q4, q5, (0, l6)] [(2, s0)] ds m Q = (WP 160 339 [q0, q1, q2, q3, q4, q5, (0, l6)] [(0, l6), (2, s0)] ds m Q) := P_nx k160_337 rfl
set_option maxRecDepth 20000 in
theorem k160_339 : mjCode 160 339 = some (.iload_n 3, 1, 0, 0) := by decide +kernel
theorem p160_339 {l3 s0 s1 : Int} {q0 q1 q2 q4 q5 q6 : MV} {ds : Ds} {m : Mm} {Q : Ds → Mm → List MV → Prop} : WP 160 339 [q0, q1, q2, (0, l3), q4, q5, q6] [(0, s0), (2, s1)] ds m Q = (WP 160 340 [q0, q1, q2, (0, l3), q4, q5, q6] [(0, l3), (0, s0), (2, s1)] ds m Q) := P_nx k160_339 rfl
set_option maxRecDepth 20000 in
theorem k160_340 : mjCode 160 340 = some (.iastore, 1, 0, 0) := by decide +kernel
theorem p160_340 {s0 s1 s2 : Int} {q0 q1 q2 q3 q4 q5 q6 : MV} {ds : Ds} {m : Mm} {Q : Ds → Mm → List MV → Prop} : WP 160 340 [q0, q1, q2, q3, q4, q5, q6] [(0, s0), (0, s1), (2, s2)] ds m Q = ((dk ds s2 = 10 ∧ 0 ≤ s1 ∧ s1 < dl ds s2 ∧ WP 160 341 [q0, q1, q2, q3, q4, q5, q6] [] ds (up m s2 s1 s0) Q)) := P_s3 k160_340 rfl
set_option maxRecDepth 20000 in
theorem k160_341 : mjCode 160 341 = some (.aload_n 0, 1, 0, 0) := by decide +kernel
theorem p160_341 {l0 : Int} {q1 q2 q3 q4 q5 q6 : MV} {ds : Ds} {m : Mm} {Q : Ds → Mm → List MV → Prop} : WP 160 341 [(2, l0), q1, q2, q3, q4, q5, q6] [] ds m Q = (WP 160 342 [(2, l0), q1, q2, q3, q4, q5, q6] [(2, l0)] ds m Q) := P_nx k160_341 rfl
set_option maxRecDepth 20000 in
theorem k160_342 : mjCode 160 342 = some (.getfield 114, 3, 7, 40) := by decide +kernel
theorem p160_342 {s0 : Int} {q0 q1 q2 q3 q4 q5 q6 : MV} {ds : Ds} {m : Mm} {Q : Ds → Mm → List MV → Prop} : WP 160 342 [q0, q1, q2, q3, q4, q5, q6] [(2, s0)] ds m Q = ((dk ds s0 = 7 ∧ WP 160 345 [q0, q1, q2, q3, q4, q5, q6] [(2, m s0 40)] ds m Q)) := P_gd k160_342 rfl
set_option maxRecDepth 20000 in
theorem k160_345 : mjCode 160 345 = some (.iload 6, 2, 0, 0) := by decide +kernel
theorem p160_345 {l6 s0 : Int} {q0 q1 q2 q3 q4 q5 : MV} {ds : Ds} {m : Mm} {Q : Ds → Mm → List MV → Prop} : WP 160 345 [q0, q1, q2, q3, q4, q5, (0, l6)] [(2, s0)] ds m Q = (WP 160 347 [q0, q1, q2, q3, q4, q5, (0, l6)] [(0, l6), (2, s0)] ds m Q) := P_nx k160_345 rfl
set_option maxRecDepth 20000 in
theorem k160_347 : mjCode 160 347 = some (.dup2, 1, 0, 0) := by decide +kernel
theorem p160_347 {s0 s1 : Int} {q0 q1 q2 q3 q4 q5 q6 : MV} {ds : Ds} {m : Mm} {Q : Ds → Mm → List MV → Prop} : WP 160 347 [q0, q1, q2, q3, q4, q5, q6] [(0, s0), (2, s1)] ds m Q = (WP 160 348 [q0, q1, q2, q3, q4, q5, q6] [(0, s0), (2, s1), (0, s0), (2, s1)] ds m Q) := P_nx k160_347 rfl
set_option maxRecDepth 20000 in
theorem k160_348 : mjCode 160 348 = some (.iaload, 1, 0, 0) := by decide +kernel
theorem p160_348 {s0 s1 s2 s3 : Int} {q0 q1 q2 q3 q4 q5 q6 : MV} {ds : Ds} {m : Mm} {Q : Ds → Mm → List MV → Prop} : WP 160 348 [q0, q1, q2, q3, q4, q5, q6] [(0, s0), (2, s1), (0, s2), (2, s3)] ds m Q = ((dk ds s1 = 10 ∧ 0 ≤ s0 ∧ s0 < dl ds s1 ∧ WP 160 349 [q0, q1, q2, q3, q4, q5, q6] [(0, m s1 s0), (0, s2), (2, s3)] ds m Q)) := P_g3 k160_348 rfl
set_option maxRecDepth 20000 in
theorem k160_349 : mjCode 160 349 = some (.iconst 1, 1, 0, 0) := by decide +kernel
theorem p160_349 {s0 s1 s2 : Int} {q0 q1 q2 q3 q4 q5 q6 : MV} {ds : Ds} {m : Mm} {Q : Ds → Mm → List MV → Prop} : WP 160 349 [q0, q1, q2, q3, q4, q5, q6] [(0, s0), (0, s1), (2, s2)] ds m Q = (WP 160 350 [q0, q1, q2, q3, q4, q5, q6] [(0, 1), (0, s0), (0, s1), (2, s2)] ds m Q) := P_nx k160_349 rfl
set_option maxRecDepth 20000 in
theorem k160_350 : mjCode 160 350 = some (.iadd, 1, 0, 0) := by decide +kernel
theorem p160_350 {s0 s1 s2 s3 : Int} {q0 q1 q2 q3 q4 q5 q6 : MV} {ds : Ds} {m : Mm} {Q : Ds → Mm → List MV → Prop} : WP 160 350 [q0, q1, q2, q3, q4, q5, q6] [(0, s0), (0, s1), (0, s2), (2, s3)] ds m Q = (WP 160 351 [q0, q1, q2, q3, q4, q5, q6] [(0, w32 (s1 + s0)), (0, s2), (2, s3)] ds m Q) := P_nx k160_350 rfl
set_option maxRecDepth 20000 in
theorem k160_351 : mjCode 160 351 = some (.iastore, 1, 0, 0) := by decide +kernel
theorem p160_351 {s0 s1 s2 : Int} {q0 q1 q2 q3 q4 q5 q6 : MV} {ds : Ds} {m : Mm} {Q : Ds → Mm → List MV → Prop} : WP 160 351 [q0, q1, q2, q3, q4, q5, q6] [(0, s0), (0, s1), (2, s2)] ds m Q = ((dk ds s2 = 10 ∧ 0 ≤ s1 ∧ s1 < dl ds s2 ∧ WP 160 352 [q0, q1, q2, q3, q4, q5, q6] [] ds (up m s2 s1 s0) Q)) := P_s3 k160_351 rfl
set_option maxRecDepth 20000 in
theorem k160_352 : mjCode 160 352 = some (.aload_n 0, 1, 0, 0) := by decide +kernel
theorem p160_352 {l0 : Int} {q1 q2 q3 q4 q5 q6 : MV} {ds : Ds} {m : Mm} {Q : Ds → Mm → List MV → Prop} : WP 160 352 [(2, l0), q1, q2, q3, q4, q5, q6] [] ds m Q = (WP 160 353 [(2, l0), q1, q2, q3, q4, q5, q6] [(2, l0)] ds m Q) := P_nx k160_352 rfl
set_option maxRecDepth 20000 in
theorem k160_353 : mjCode 160 353 = some (.getfield 102, 3, 7, 36) := by decide +kernel
theorem p160_353 {s0 : Int} {q0 q1 q2 q3 q4 q5 q6 : MV} {ds : Ds} {m : Mm} {Q : Ds → Mm → List MV → Prop} : WP 160 353 [q0, q1, q2, q3, q4, q5, q6] [(2, s0)] ds m Q = ((dk ds s0 = 7 ∧ WP 160 356 [q0, q1, q2, q3, q4, q5, q6] [(2, m s0 36)] ds m Q)) := P_gd k160_353 rfl
set_option maxRecDepth 20000 in
theorem k160_356 : mjCode 160 356 = some (.bipush 6, 2, 0, 0) := by decide +kernel
theorem p160_356 {s0 : Int} {q0 q1 q2 q3 q4 q5 q6 : MV} {ds : Ds} {m : Mm} {Q : Ds → Mm → List MV → Prop} : WP 160 356 [q0, q1, q2, q3, q4, q5, q6] [(2, s0)] ds m Q = (WP 160 358 [q0, q1, q2, q3, q4, q5, q6] [(0, 6), (2, s0)] ds m Q) := P_nx k160_356 rfl
set_option maxRecDepth 20000 in
theorem k160_358 : mjCode 160 358 = some (.aload_n 0, 1, 0, 0) := by decide +kernel
theorem p160_358 {l0 s0 s1 : Int} {q1 q2 q3 q4 q5 q6 : MV} {ds : Ds} {m : Mm} {Q : Ds → Mm → List MV → Prop} : WP 160 358 [(2, l0), q1, q2, q3, q4, q5, q6] [(0, s0), (2, s1)] ds m Q = (WP 160 359 [(2, l0), q1, q2, q3, q4, q5, q6] [(2, l0), (0, s0), (2, s1)] ds m Q) := P_nx k160_358 rfl
set_option maxRecDepth 20000 in
theorem k160_359 : mjCode 160 359 = some (.getfield 222, 3, 7, 45) := by decide +kernel
theorem p160_359 {s0 s1 s2 : Int} {q0 q1 q2 q3 q4 q5 q6 : MV} {ds : Ds} {m : Mm} {Q : Ds → Mm → List MV → Prop} : WP 160 359 [q0, q1, q2, q3, q4, q5, q6] [(2, s0), (0, s1), (2, s2)] ds m Q = ((dk ds s0 = 7 ∧ WP 160 362 [q0, q1, q2, q3, q4, q5, q6] [(0, m s0 45), (0, s1), (2, s2)] ds m Q)) := P_gd k160_359 rfl
set_option maxRecDepth 20000 in
theorem k160_362 : mjCode 160 362 = some (.imul, 1, 0, 0) := by decide +kernel
theorem p160_362 {s0 s1 s2 : Int} {q0 q1 q2 q3 q4 q5 q6 : MV} {ds : Ds} {m : Mm} {Q : Ds → Mm → List MV → Prop} : WP 160 362 [q0, q1, q2, q3, q4, q5, q6] [(0, s0), (0, s1), (2, s2)] ds m Q = (WP 160 363 [q0, q1, q2, q3, q4, q5, q6] [(0, w32 (s1 * s0)), (2, s2)] ds m Q) := P_nx k160_362 rfl
set_option maxRecDepth 20000 in
theorem k160_363 : mjCode 160 363 = some (.iconst 4, 1, 0, 0) := by decide +kernel
theorem p160_363 {s0 s1 : Int} {q0 q1 q2 q3 q4 q5 q6 : MV} {ds : Ds} {m : Mm} {Q : Ds → Mm → List MV → Prop} : WP 160 363 [q0, q1, q2, q3, q4, q5, q6] [(0, s0), (2, s1)] ds m Q = (WP 160 364 [q0, q1, q2, q3, q4, q5, q6] [(0, 4), (0, s0), (2, s1)] ds m Q) := P_nx k160_363 rfl
set_option maxRecDepth 20000 in
theorem k160_364 : mjCode 160 364 = some (.iadd, 1, 0, 0) := by decide +kernel
theorem p160_364 {s0 s1 s2 : Int} {q0 q1 q2 q3 q4 q5 q6 : MV} {ds : Ds} {m : Mm} {Q : Ds → Mm → List MV → Prop} : WP 160 364 [q0, q1, q2, q3, q4, q5, q6] [(0, s0), (0, s1), (2, s2)] ds m Q = (WP 160 365 [q0, q1, q2, q3, q4, q5, q6] [(0, w32 (s1 + s0)), (2, s2)] ds m Q) := P_nx k160_364 rfl
set_option maxRecDepth 20000 in
theorem k160_365 : mjCode 160 365 = some (.dup2, 1, 0, 0) := by decide +kernel
theorem p160_365 {s0 s1 : Int} {q0 q1 q2 q3 q4 q5 q6 : MV} {ds : Ds} {m : Mm} {Q : Ds → Mm → List MV → Prop} : WP 160 365 [q0, q1, q2, q3, q4, q5, q6] [(0, s0), (2, s1)] ds m Q = (WP 160 366 [q0, q1, q2, q3, q4, q5, q6] [(0, s0), (2, s1), (0, s0), (2, s1)] ds m Q) := P_nx k160_365 rfl
set_option maxRecDepth 20000 in
theorem k160_366 : mjCode 160 366 = some (.iaload, 1, 0, 0) := by decide +kernel
theorem p160_366 {s0 s1 s2 s3 : Int} {q0 q1 q2 q3 q4 q5 q6 : MV} {ds : Ds} {m : Mm} {Q : Ds → Mm → List MV → Prop} : WP 160 366 [q0, q1, q2, q3, q4, q5, q6] [(0, s0), (2, s1), (0, s2), (2, s3)] ds m Q = ((dk ds s1 = 10 ∧ 0 ≤ s0 ∧ s0 < dl ds s1 ∧ WP 160 367 [q0, q1, q2, q3, q4, q5, q6] [(0, m s1 s0), (0, s2), (2, s3)] ds m Q)) := P_g3 k160_366 rfl
set_option maxRecDepth 20000 in
theorem k160_367 : mjCode 160 367 = some (.iconst 1, 1, 0, 0) := by decide +kernel
theorem p160_367 {s0 s1 s2 : Int} {q0 q1 q2 q3 q4 q5 q6 : MV} {ds : Ds} {m : Mm} {Q : Ds → Mm → List MV → Prop} : WP 160 367 [q0, q1, q2, q3, q4, q5, q6] [(0, s0), (0, s1), (2, s2)] ds m Q = (WP 160 368 [q0, q1, q2, q3, q4, q5, q6] [(0, 1), (0, s0), (0, s1), (2, s2)] ds m Q) := P_nx k160_367 rfl
set_option maxRecDepth 20000 in
theorem k160_368 : mjCode 160 368 = some (.iadd, 1, 0, 0) := by decide +kernel
theorem p160_368 {s0 s1 s2 s3 : Int} {q0 q1 q2 q3 q4 q5 q6 : MV} {ds : Ds} {m : Mm} {Q : Ds → Mm → List MV → Prop} : WP 160 368 [q0, q1, q2, q3, q4, q5, q6] [(0, s0), (0, s1), (0, s2), (2, s3)] ds m Q = (WP 160 369 [q0, q1, q2, q3, q4, q5, q6] [(0, w32 (s1 + s0)), (0, s2), (2, s3)] ds m Q) := P_nx k160_368 rfl
set_option maxRecDepth 20000 in
theorem k160_369 : mjCode 160 369 = some (.iastore, 1, 0, 0) := by decide +kernel
theorem p160_369 {s0 s1 s2 : Int} {q0 q1 q2 q3 q4 q5 q6 : MV} {ds : Ds} {m : Mm} {Q : Ds → Mm → List MV → Prop} : WP 160 369 [q0, q1, q2, q3, q4, q5, q6] [(0, s0), (0, s1), (2, s2)] ds m Q = ((dk ds s2 = 10 ∧ 0 ≤ s1 ∧ s1 < dl ds s2 ∧ WP 160 370 [q0, q1, q2, q3, q4, q5, q6] [] ds (up m s2 s1 s0) Q)) := P_s3 k160_369 rfl
set_option maxRecDepth 20000 in
theorem k160_370 : mjCode 160 370 = some (.return_, 1, 0, 0) := by decide +kernel
theorem p160_370 {q0 q1 q2 q3 q4 q5 q6 : MV} {ds : Ds} {m : Mm} {Q : Ds → Mm → List MV → Prop} : WP 160 370 [q0, q1, q2, q3, q4, q5, q6] [] ds m Q = (Q ds m []) := P_rv k160_370 rk160
set_option maxRecDepth 20000 in
theorem k161_0 : mjCode 161 0 = some (.aload_n 0, 1, 0, 0) := by decide +kernel
theorem p161_0 {l0 : Int} {q1 q2 q3 q4 q5 q6 : MV} {ds : Ds} {m : Mm} {Q : Ds → Mm → List MV → Prop} : WP 161 0 [(2, l0), q1, q2, q3, q4, q5, q6] [] ds m Q = (WP 161 1 [(2, l0), q1, q2, q3, q4, q5, q6] [(2, l0)] ds m Q) := P_nx k161_0 rfl
set_option maxRecDepth 20000 in
theorem k161_1 : mjCode 161 1 = some (.getfield 87, 3, 7, 31) := by decide +kernel
theorem p161_1 {s0 : Int} {q0 q1 q2 q3 q4 q5 q6 : MV} {ds : Ds} {m : Mm} {Q : Ds → Mm → List MV → Prop} : WP 161 1 [q0, q1, q2, q3, q4, q5, q6] [(2, s0)] ds m Q = ((dk ds s0 = 7 ∧ WP 161 4 [q0, q1, q2, q3, q4, q5, q6] [(2, m s0 31)] ds m Q)) := P_gd k161_1 rfl
set_option maxRecDepth 20000 in
theorem k161_4 : mjCode 161 4 = some (.iload_n 1, 1, 0, 0) := by decide +kernel
theorem p161_4 {l1 s0 : Int} {q0 q2 q3 q4 q5 q6 : MV} {ds : Ds} {m : Mm} {Q : Ds → Mm → List MV → Prop} : WP 161 4 [q0, (0, l1), q2, q3, q4, q5, q6] [(2, s0)] ds m Q = (WP 161 5 [q0, (0, l1), q2, q3, q4, q5, q6] [(0, l1), (2, s0)] ds m Q) := P_nx k161_4 rfl
set_option maxRecDepth 20000 in
theorem k161_5 : mjCode 161 5 = some (.iaload, 1, 0, 0) := by decide +kernel
theorem p161_5 {s0 s1 : Int} {q0 q1 q2 q3 q4 q5 q6 : MV} {ds : Ds} {m : Mm} {Q : Ds → Mm → List MV → Prop} : WP 161 5 [q0, q1, q2, q3, q4, q5, q6] [(0, s0), (2, s1)] ds m Q = ((dk ds s1 = 10 ∧ 0 ≤ s0 ∧ s0 < dl ds s1 ∧ WP 161 6 [q0, q1, q2, q3, q4, q5, q6] [(0, m s1 s0)] ds m Q)) := P_g3 k161_5 rfl
set_option maxRecDepth 20000 in
theorem k161_6 : mjCode 161 6 = some (.istore_n 2, 1, 0, 0) := by decide +kernel
theorem p161_6 {l1 s0 : Int} {q0 q2 q3 q4 q5 q6 : MV} {ds : Ds} {m : Mm} {Q : Ds → Mm → List MV → Prop} : WP 161 6 [q0, (0, l1), q2, q3, q4, q5, q6] [(0, s0)] ds m Q = (WP 161 7 [q0, (0, l1), (0, s0), q3, q4, q5, q6] [] ds m Q) := P_nx k161_6 rfl
set_option maxRecDepth 20000 in
theorem k161_7 : mjCode 161 7 = some (.aload_n 0, 1, 0, 0) := by decide +kernel
theorem p161_7 {l0 : Int} {q1 q2 q3 q4 q5 q6 : MV} {ds : Ds} {m : Mm} {Q : Ds → Mm → List MV → Prop} : WP 161 7 [(2, l0), q1, q2, q3, q4, q5, q6] [] ds m Q = (WP 161 8 [(2, l0), q1, q2, q3, q4, q5, q6] [(2, l0)] ds m Q) := P_nx k161_7 rfl
set_option maxRecDepth 20000 in
theorem k161_8 : mjCode 161 8 = some (.getfield 90, 3, 7, 32) := by decide +kernel
theorem p161_8 {s0 : Int} {q0 q1 q2 q3 q4 q5 q6 : MV} {ds : Ds} {m : Mm} {Q : Ds → Mm → List MV → Prop} : WP 161 8 [q0, q1, q2, q3, q4, q5, q6] [(2, s0)] ds m Q = ((dk ds s0 = 7 ∧ WP 161 11 [q0, q1, q2, q3, q4, q5, q6] [(2, m s0 32)] ds m Q)) := P_gd k161_8 rfl
set_option maxRecDepth 20000 in
theorem k161_11 : mjCode 161 11 = some (.iload_n 1, 1, 0, 0) := by decide +kernel
theorem p161_11 {l1 s0 : Int} {q0 q2 q3 q4 q5 q6 : MV} {ds : Ds} {m : Mm} {Q : Ds → Mm → List MV → Prop} : WP 161 11 [q0, (0, l1), q2, q3, q4, q5, q6] [(2, s0)] ds m Q = (WP 161 12 [q0, (0, l1), q2, q3, q4, q5, q6] [(0, l1), (2, s0)] ds m Q) := P_nx k161_11 rfl
set_option maxRecDepth 20000 in
theorem k161_12 : mjCode 161 12 = some (.iaload, 1, 0, 0) := by decide +kernel
theorem p161_12 {s0 s1 : Int} {q0 q1 q2 q3 q4 q5 q6 : MV} {ds : Ds} {m : Mm} {Q : Ds → Mm → List MV → Prop} : WP 161 12 [q0, q1, q2, q3, q4, q5, q6] [(0, s0), (2, s1)] ds m Q = ((dk ds s1 = 10 ∧ 0 ≤ s0 ∧ s0 < dl ds s1 ∧ WP 161 13 [q0, q1, q2, q3, q4, q5, q6] [(0, m s1 s0)] ds m Q)) := P_g3 k161_12 rfl
set_option maxRecDepth 20000 in
theorem k161_13 : mjCode 161 13 = some (.istore_n 3, 1, 0, 0) := by decide +kernel
theorem p161_13 {l2 s0 : Int} {q0 q1 q3 q4 q5 q6 : MV} {ds : Ds} {m : Mm} {Q : Ds → Mm → List MV → Prop} : WP 161 13 [q0, q1, (0, l2), q3, q4, q5, q6] [(0, s0)] ds m Q = (WP 161 14 [q0, q1, (0, l2), (0, s0), q4, q5, q6] [] ds m Q) := P_nx k161_13 rfl
set_option maxRecDepth 20000 in
theorem k161_14 : mjCode 161 14 = some (.iload_n 2, 1, 0, 0) := by decide +kernel
theorem p161_14 {l2 : Int} {q0 q1 q3 q4 q5 q6 : MV} {ds : Ds} {m : Mm} {Q : Ds → Mm → List MV → Prop} : WP 161 14 [q0, q1, (0, l2), q3, q4, q5, q6] [] ds m Q = (WP 161 15 [q0, q1, (0, l2), q3, q4, q5, q6] [(0, l2)] ds m Q) := P_nx k161_14 rfl
set_option maxRecDepth 20000 in
theorem k161_15 : mjCode 161 15 = some (.iload_n 3, 1, 0, 0) := by decide +kernel
theorem p161_15 {l3 s0 : Int} {q0 q1 q2 q4 q5 q6 : MV} {ds : Ds} {m : Mm} {Q : Ds → Mm → List MV → Prop} : WP 161 15 [q0, q1, q2, (0, l3), q4, q5, q6] [(0, s0)] ds m Q = (WP 161 16 [q0, q1, q2, (0, l3), q4, q5, q6] [(0, l3), (0, s0)] ds m Q) := P_nx k161_15 rfl
set_option maxRecDepth 20000 in
theorem k161_16 : mjCode 161 16 = some (.invokestatic 216, 3, 124, 2) := by decide +kernel
theorem p161_16 {s0 s1 : Int} {q0 q1 q2 q3 q4 q5 q6 : MV} {ds : Ds} {m : Mm} {Q : Ds → Mm → List MV → Prop} : WP 161 16 [q0, q1, q2, q3, q4, q5, q6] [(0, s0), (0, s1)] ds m Q = (WP 123 0 [(0, s1), (0, s0), (3, 0), (3, 0)] [] ds m (fun d2 m2 r2 => WP 161 19 [q0, q1, q2, q3, q4, q5, q6] (r2 ++ []) d2 m2 Q)) := P_cs k161_16 mx123 rfl rfl rfl rfl rfl rfl rfl
set_option maxRecDepth 20000 in
theorem k161_19 : mjCode 161 19 = some (.istore 4, 2, 0, 0) := by decide +kernel
theorem p161_19 {l3 s0 : Int} {q0 q1 q2 q4 q5 q6 : MV} {ds : Ds} {m : Mm} {Q : Ds → Mm → List MV → Prop} : WP 161 19 [q0, q1, q2, (0, l3), q4, q5, q6] [(0, s0)] ds m Q = (WP 161 21 [q0, q1, q2, (0, l3), (0, s0), q5, q6] [] ds m Q) := P_nx k161_19 rfl
set_option maxRecDepth 20000 in
theorem k161_21 : mjCode 161 21 = some (.iload_n 3, 1, 0, 0) := by decide +kernel
theorem p161_21 {l3 : Int} {q0 q1 q2 q4 q5 q6 : MV} {ds : Ds} {m : Mm} {Q : Ds → Mm → List MV → Prop} : WP 161 21 [q0, q1, q2, (0, l3), q4, q5, q6] [] ds m Q = (WP 161 22 [q0, q1, q2, (0, l3), q4, q5, q6] [(0, l3)] ds m Q) := P_nx k161_21 rfl
set_option maxRecDepth 20000 in
theorem k161_22 : mjCode 161 22 = some (.iconst 2, 1, 0, 0) := by decide +kernel
theorem p161_22 {s0 : Int} {q0 q1 q2 q3 q4 q5 q6 : MV} {ds : Ds} {m : Mm} {Q : Ds → Mm → List MV → Prop} : WP 161 22 [q0, q1, q2, q3, q4, q5, q6] [(0, s0)] ds m Q = (WP 161 23 [q0, q1, q2, q3, q4, q5, q6] [(0, 2), (0, s0)] ds m Q) := P_nx k161_22 rfl
set_option maxRecDepth 20000 in
theorem k161_23 : mjCode 161 23 = some (.iadd, 1, 0, 0) := by decide +kernel
theorem p161_23 {s0 s1 : Int} {q0 q1 q2 q3 q4 q5 q6 : MV} {ds : Ds} {m : Mm} {Q : Ds → Mm → List MV → Prop} : WP 161 23 [q0, q1, q2, q3, q4, q5, q6] [(0, s0), (0, s1)] ds m Q = (WP 161 24 [q0, q1, q2, q3, q4, q5, q6] [(0, w32 (s1 + s0))] ds m Q) := P_nx k161_23 rfl
set_option maxRecDepth 20000 in
theorem k161_24 : mjCode 161 24 = some (.iconst 4, 1, 0, 0) := by decide +kernel
theorem p161_24 {s0 : Int} {q0 q1 q2 q3 q4 q5 q6 : MV} {ds : Ds} {m : Mm} {Q : Ds → Mm → List MV → Prop} : WP 161 24 [q0, q1, q2, q3, q4, q5, q6] [(0, s0)] ds m Q = (WP 161 25 [q0, q1, q2, q3, q4, q5, q6] [(0, 4), (0, s0)] ds m Q) := P_nx k161_24 rfl
set_option maxRecDepth 20000 in
theorem k161_25 : mjCode 161 25 = some (.irem, 1, 0, 0) := by decide +kernel
theorem p161_25 {s0 s1 : Int} {q0 q1 q2 q3 q4 q5 q6 : MV} {ds : Ds} {m : Mm} {Q : Ds → Mm → List MV → Prop} : WP 161 25 [q0, q1, q2, q3, q4, q5, q6] [(0, s0), (0, s1)] ds m Q = ((¬ s0 = 0 ∧ WP 161 26 [q0, q1, q2, q3, q4, q5, q6] [(0, jrem s1 s0)] ds m Q)) := P_dv k161_25 rfl
set_option maxRecDepth 20000 in
theorem k161_26 : mjCode 161 26 = some (.istore 5, 2, 0, 0) := by decide +kernel
theorem p161_26 {l4 s0 : Int} {q0 q1 q2 q3 q5 q6 : MV} {ds : Ds} {m : Mm} {Q : Ds → Mm → List MV → Prop} : WP 161 26 [q0, q1, q2, q3, (0, l4), q5, q6] [(0, s0)] ds m Q = (WP 161 28 [q0, q1, q2, q3, (0, l4), (0, s0), q6] [] ds m Q) := P_nx k161_26 rfl
set_option maxRecDepth 20000 in
theorem k161_28 : mjCode 161 28 = some (.iload 4, 2, 0, 0) := by decide +kernel
theorem p161_28 {l4 : Int} {q0 q1 q2 q3 q5 q6 : MV} {ds : Ds} {m : Mm} {Q : Ds → Mm → List MV → Prop} : WP 161 28 [q0, q1, q2, q3, (0, l4), q5, q6] [] ds m Q = (WP 161 30 [q0, q1, q2, q3, (0, l4), q5, q6] [(0, l4)] ds m Q) := P_nx k161_28 rfl
set_option maxRecDepth 20000 in
theorem k161_30 : mjCode 161 30 = some (.iconst (-1), 1, 0, 0) := by decide +kernel
theorem p161_30 {s0 : Int} {q0 q1 q2 q3 q4 q5 q6 : MV} {ds : Ds} {m : Mm} {Q : Ds → Mm → List MV → Prop} : WP 161 30 [q0, q1, q2, q3, q4, q5, q6] [(0, s0)] ds m Q = (WP 161 31 [q0, q1, q2, q3, q4, q5, q6] [(0, (-1)), (0, s0)] ds m Q) := P_nx k161_30 rfl
set_option maxRecDepth 20000 in
theorem k161_31 : mjCode 161 31 = some (.if_icmp .ne 36, 3, 67, 0) := by decide +kernel
theorem p161_31 {s0 s1 : Int} {q0 q1 q2 q3 q4 q5 q6 : MV} {ds : Ds} {m : Mm} {Q : Ds → Mm → List MV → Prop} : WP 161 31 [q0, q1, q2, q3, q4, q5, q6] [(0, s0), (0, s1)] ds m Q = (if s1 = s0 then WP 161 34 [q0, q1, q2, q3, q4, q5, q6] [] ds m Q else WP 161 67 [q0, q1, q2, q3, q4, q5, q6] [] ds m Q) := P_if k161_31 rfl
set_option maxRecDepth 20000 in
theorem k161_34 : mjCode 161 34 = some (.aload_n 0, 1, 0, 0) := by decide +kernel
theorem p161_34 {l0 : Int} {q1 q2 q3 q4 q5 q6 : MV} {ds : Ds} {m : Mm} {Q : Ds → Mm → List MV → Prop} : WP 161 34 [(2, l0), q1, q2, q3, q4, q5, q6] [] ds m Q = (WP 161 35 [(2, l0), q1, q2, q3, q4, q5, q6] [(2, l0)] ds m Q) := P_nx k161_34 rfl
set_option maxRecDepth 20000 in
theorem k161_35 : mjCode 161 35 = some (.getfield 84, 3, 7, 29) := by decide +kernel
theorem p161_35 {s0 : Int} {q0 q1 q2 q3 q4 q5 q6 : MV} {ds : Ds} {m : Mm} {Q : Ds → Mm → List MV → Prop} : WP 161 35 [q0, q1, q2, q3, q4, q5, q6] [(2, s0)] ds m Q = ((dk ds s0 = 7 ∧ WP 161 38 [q0, q1, q2, q3, q4, q5, q6] [(2, m s0 29)] ds m Q)) := P_gd k161_35 rfl
set_option maxRecDepth 20000 in
theorem k161_38 : mjCode 161 38 = some (.iload_n 2, 1, 0, 0) := by decide +kernel
theorem p161_38 {l2 s0 : Int} {q0 q1 q3 q4 q5 q6 : MV} {ds : Ds} {m : Mm} {Q : Ds → Mm → List MV → Prop} : WP 161 38 [q0, q1, (0, l2), q3, q4, q5, q6] [(2, s0)] ds m Q = (WP 161 39 [q0, q1, (0, l2), q3, q4, q5, q6] [(0, l2), (2, s0)] ds m Q) := P_nx k161_38 rfl
set_option maxRecDepth 20000 in
theorem k161_39 : mjCode 161 39 = some (.iconst (-1), 1, 0, 0) := by decide +kernel
theorem p161_39 {s0 s1 : Int} {q0 q1 q2 q3 q4 q5 q6 : MV} {ds : Ds} {m : Mm} {Q : Ds → Mm → List MV → Prop} : WP 161 39 [q0, q1, q2, q3, q4, q5, q6] [(0, s0), (2, s1)] ds m Q = (WP 161 40 [q0, q1, q2, q3, q4, q5, q6] [(0, (-1)), (0, s0), (2, s1)] ds m Q) := P_nx k161_39 rfl
set_option maxRecDepth 20000 in
theorem k161_40 : mjCode 161 40 = some (.iastore, 1, 0, 0) := by decide +kernel
theorem p161_40 {s0 s1 s2 : Int} {q0 q1 q2 q3 q4 q5 q6 : MV} {ds : Ds} {m : Mm} {Q : Ds → Mm → List MV → Prop} : WP 161 40 [q0, q1, q2, q3, q4, q5, q6] [(0, s0), (0, s1), (2, s2)] ds m Q = ((dk ds s2 = 10 ∧ 0 ≤ s1 ∧ s1 < dl ds s2 ∧ WP 161 41 [q0, q1, q2, q3, q4, q5, q6] [] ds (up m s2 s1 s0) Q)) := P_s3 k161_40 rfl
set_option maxRecDepth 20000 in
theorem k161_41 : mjCode 161 41 = some (.aload_n 0, 1, 0, 0) := by decide +kernel
theorem p161_41 {l0 : Int} {q1 q2 q3 q4 q5 q6 : MV} {ds : Ds} {m : Mm} {Q : Ds → Mm → List MV → Prop} : WP 161 41 [(2, l0), q1, q2, q3, q4, q5, q6] [] ds m Q = (WP 161 42 [(2, l0), q1, q2, q3, q4, q5, q6] [(2, l0)] ds m Q) := P_nx k161_41 rfl
set_option maxRecDepth 20000 in
theorem k161_42 : mjCode 161 42 = some (.getfield 90, 3, 7, 32) := by decide +kernel
theorem p161_42 {s0 : Int} {q0 q1 q2 q3 q4 q5 q6 : MV} {ds : Ds} {m : Mm} {Q : Ds → Mm → List MV → Prop} : WP 161 42 [q0, q1, q2, q3, q4, q5, q6] [(2, s0)] ds m Q = ((dk ds s0 = 7 ∧ WP 161 45 [q0, q1, q2, q3, q4, q5, q6] [(2, m s0 32)] ds m Q)) := P_gd k161_42 rfl
set_option maxRecDepth 20000 in
theorem k161_45 : mjCode 161 45 = some (.iload_n 1, 1, 0, 0) := by decide +kernel
theorem p161_45 {l1 s0 : Int} {q0 q2 q3 q4 q5 q6 : MV} {ds : Ds} {m : Mm} {Q : Ds → Mm → List MV → Prop} : WP 161 45 [q0, (0, l1), q2, q3, q4, q5, q6] [(2, s0)] ds m Q = (WP 161 46 [q0, (0, l1), q2, q3, q4, q5, q6] [(0, l1), (2, s0)] ds m Q) := P_nx k161_45 rfl
set_option maxRecDepth 20000 in
theorem k161_46 : mjCode 161 46 = some (.iconst (-1), 1, 0, 0) := by decide +kernel
theorem p161_46 {s0 s1 : Int} {q0 q1 q2 q3 q4 q5 q6 : MV} {ds : Ds} {m : Mm} {Q : Ds → Mm → List MV → Prop} : WP 161 46 [q0, q1, q2, q3, q4, q5, q6] [(0, s0), (2, s1)] ds m Q = (WP 161 47 [q0, q1, q2, q3, q4, q5, q6] [(0, (-1)), (0, s0), (2, s1)] ds m Q) := P_nx k161_46 rfl
set_option maxRecDepth 20000 in
theorem k161_47 : mjCode 161 47 = some (.iastore, 1, 0, 0) := by decide +kernel
theorem p161_47 {s0 s1 s2 : Int} {q0 q1 q2 q3 q4 q5 q6 : MV} {ds : Ds} {m : Mm} {Q : Ds → Mm → List MV → Prop} : WP 161 47 [q0, q1, q2, q3, q4, q5, q6] [(0, s0), (0, s1), (2, s2)] ds m Q = ((dk ds s2 = 10 ∧ 0 ≤ s1 ∧ s1 < dl ds s2 ∧ WP 161 48 [q0, q1, q2, q3, q4, q5, q6] [] ds (up m s2 s1 s0) Q)) := P_s3 k161_47 rfl
set_option maxRecDepth 20000 in
theorem k161_48 : mjCode 161 48 = some (.aload_n 0, 1, 0, 0) := by decide +kernel
theorem p161_48 {l0 : Int} {q1 q2 q3 q4 q5 q6 : MV} {ds : Ds} {m : Mm} {Q : Ds → Mm → List MV → Prop} : WP 161 48 [(2, l0), q1, q2, q3, q4, q5, q6] [] ds m Q = (WP 161 49 [(2, l0), q1, q2, q3, q4, q5, q6] [(2, l0)] ds m Q) := P_nx k161_48 rfl
set_option maxRecDepth 20000 in
theorem k161_49 : mjCode 161 49 = some (.getfield 102, 3, 7, 36) := by decide +kernel
theorem p161_49 {s0 : Int} {q0 q1 q2 q3 q4 q5 q6 : MV} {ds : Ds} {m : Mm} {Q : Ds → Mm → List MV → Prop} : WP 161 49 [q0, q1, q2, q3, q4, q5, q6] [(2, s0)] ds m Q = ((dk ds s0 = 7 ∧ WP 161 52 [q0, q1, q2, q3, q4, q5, q6] [(2, m s0 36)] ds m Q)) := P_gd k161_49 rfl
set_option maxRecDepth 20000 in
theorem k161_52 : mjCode 161 52 = some (.bipush 6, 2, 0, 0) := by decide +kernel
theorem p161_52 {s0 : Int} {q0 q1 q2 q3 q4 q5 q6 : MV} {ds : Ds} {m : Mm} {Q : Ds → Mm → List MV → Prop} : WP 161 52 [q0, q1, q2, q3, q4, q5, q6] [(2, s0)] ds m Q = (WP 161 54 [q0, q1, q2, q3, q4, q5, q6] [(0, 6), (2, s0)] ds m Q) := P_nx k161_52 rfl
set_option maxRecDepth 20000 in
theorem k161_54 : mjCode 161 54 = some (.aload_n 0, 1, 0, 0) := by decide +kernel
theorem p161_54 {l0 s0 s1 : Int} {q1 q2 q3 q4 q5 q6 : MV} {ds : Ds} {m : Mm} {Q : Ds → Mm → List MV → Prop} : WP 161 54 [(2, l0), q1, q2, q3, q4, q5, q6] [(0, s0), (2, s1)] ds m Q = (WP 161 55 [(2, l0), q1, q2, q3, q4, q5, q6] [(2, l0), (0, s0), (2, s1)] ds m Q) := P_nx k161_54 rfl
set_option maxRecDepth 20000 in
theorem k161_55 : mjCode 161 55 = some (.getfield 222, 3, 7, 45) := by decide +kernel
theorem p161_55 {s0 s1 s2 : Int} {q0 q1 q2 q3 q4 q5 q6 : MV} {ds : Ds} {m : Mm} {Q : Ds → Mm → List MV → Prop} : WP 161 55 [q0, q1, q2, q3, q4, q5, q6] [(2, s0), (0, s1), (2, s2)] ds m Q = ((dk ds s0 = 7 ∧ WP 161 58 [q0, q1, q2, q3, q4, q5, q6] [(0, m s0 45), (0, s1), (2, s2)] ds m Q)) := P_gd k161_55 rfl
set_option maxRecDepth 20000 in
theorem k161_58 : mjCode 161 58 = some (.imul, 1, 0, 0) := by decide +kernel
theorem p161_58 {s0 s1 s2 : Int} {q0 q1 q2 q3 q4 q5 q6 : MV} {ds : Ds} {m : Mm} {Q : Ds → Mm → List MV → Prop} : WP 161 58 [q0, q1, q2, q3, q4, q5, q6] [(0, s0), (0, s1), (2, s2)] ds m Q = (WP 161 59 [q0, q1, q2, q3, q4, q5, q6] [(0, w32 (s1 * s0)), (2, s2)] ds m Q) := P_nx k161_58 rfl
set_option maxRecDepth 20000 in
theorem k161_59 : mjCode 161 59 = some (.iconst 5, 1, 0, 0) := by decide +kernel
theorem p161_59 {s0 s1 : Int} {q0 q1 q2 q3 q4 q5 q6 : MV} {ds : Ds} {m : Mm} {Q : Ds → Mm → List MV → Prop} : WP 161 59 [q0, q1, q2, q3, q4, q5, q6] [(0, s0), (2, s1)] ds m Q = (WP 161 60 [q0, q1, q2, q3, q4, q5, q6] [(0, 5), (0, s0), (2, s1)] ds m Q) := P_nx k161_59 rfl
set_option maxRecDepth 20000 in
theorem k161_60 : mjCode 161 60 = some (.iadd, 1, 0, 0) := by decide +kernel
theorem p161_60 {s0 s1 s2 : Int} {q0 q1 q2 q3 q4 q5 q6 : MV} {ds : Ds} {m : Mm} {Q : Ds → Mm → List MV → Prop} : WP 161 60 [q0, q1, q2, q3, q4, q5, q6] [(0, s0), (0, s1), (2, s2)] ds m Q = (WP 161 61 [q0, q1, q2, q3, q4, q5, q6] [(0, w32 (s1 + s0)), (2, s2)] ds m Q) := P_nx k161_60 rfl
set_option maxRecDepth 20000 in
theorem k161_61 : mjCode 161 61 = some (.dup2, 1, 0, 0) := by decide +kernel
theorem p161_61 {s0 s1 : Int} {q0 q1 q2 q3 q4 q5 q6 : MV} {ds : Ds} {m : Mm} {Q : Ds → Mm → List MV → Prop} : WP 161 61 [q0, q1, q2, q3, q4, q5, q6] [(0, s0), (2, s1)] ds m Q = (WP 161 62 [q0, q1, q2, q3, q4, q5, q6] [(0, s0), (2, s1), (0, s0), (2, s1)] ds m Q) := P_nx k161_61 rfl
set_option maxRecDepth 20000 in
theorem k161_62 : mjCode 161 62 = some (.iaload, 1, 0, 0) := by decide +kernel
theorem p161_62 {s0 s1 s2 s3 : Int} {q0 q1 q2 q3 q4 q5 q6 : MV} {ds : Ds} {m : Mm} {Q : Ds → Mm → List MV → Prop} : WP 161 62 [q0, q1, q2, q3, q4, q5, q6] [(0, s0), (2, s1), (0, s2), (2, s3)] ds m Q = ((dk ds s1 = 10 ∧ 0 ≤ s0 ∧ s0 < dl ds s1 ∧ WP 161 63 [q0, q1, q2, q3, q4, q5, q6] [(0, m s1 s0), (0, s2), (2, s3)] ds m Q)) := P_g3 k161_62 rfl
set_option maxRecDepth 20000 in
theorem k161_63 : mjCode 161 63 = some (.iconst 1, 1, 0, 0) := by decide +kernel
theorem p161_63 {s0 s1 s2 : Int} {q0 q1 q2 q3 q4 q5 q6 : MV} {ds : Ds} {m : Mm} {Q : Ds → Mm → List MV → Prop} : WP 161 63 [q0, q1, q2, q3, q4, q5, q6] [(0, s0), (0, s1), (2, s2)] ds m Q = (WP 161 64 [q0, q1, q2, q3, q4, q5, q6] [(0, 1), (0, s0), (0, s1), (2, s2)] ds m Q) := P_nx k161_63 rfl
set_option maxRecDepth 20000 in
theorem k161_64 : mjCode 161 64 = some (.iadd, 1, 0, 0) := by decide +kernel
theorem p161_64 {s0 s1 s2 s3 : Int} {q0 q1 q2 q3 q4 q5 q6 : MV} {ds : Ds} {m : Mm} {Q : Ds → Mm → List MV → Prop} : WP 161 64 [q0, q1, q2, q3, q4, q5, q6] [(0, s0), (0, s1), (0, s2), (2, s3)] ds m Q = (WP 161 65 [q0, q1, q2, q3, q4, q5, q6] [(0, w32 (s1 + s0)), (0, s2), (2, s3)] ds m Q) := P_nx k161_64 rfl
set_option maxRecDepth 20000 in
theorem k161_65 : mjCode 161 65 = some (.iastore, 1, 0, 0) := by decide +kernel
theorem p161_65 {s0 s1 s2 : Int} {q0 q1 q2 q3 q4 q5 q6 : MV} {ds : Ds} {m : Mm} {Q : Ds → Mm → List MV → Prop} : WP 161 65 [q0, q1, q2, q3, q4, q5, q6] [(0, s0), (0, s1), (2, s2)] ds m Q = ((dk ds s2 = 10 ∧ 0 ≤ s1 ∧ s1 < dl ds s2 ∧ WP 161 66 [q0, q1, q2, q3, q4, q5, q6] [] ds (up m s2 s1 s0) Q)) := P_s3 k161_65 rfl
set_option maxRecDepth 20000 in
theorem k161_66 : mjCode 161 66 = some (.return_, 1, 0, 0) := by decide +kernel
theorem p161_66 {q0 q1 q2 q3 q4 q5 q6 : MV} {ds : Ds} {m : Mm} {Q : Ds → Mm → List MV → Prop} : WP 161 66 [q0, q1, q2, q3, q4, q5, q6] [] ds m Q = (Q ds m []) := P_rv k161_66 rk161
set_option maxRecDepth 20000 in
theorem k161_67 : mjCode 161 67 = some (.aload_n 0, 1, 0, 0) := by decide +kernel
theorem p161_67 {l0 : Int} {q1 q2 q3 q4 q5 q6 : MV} {ds : Ds} {m : Mm} {Q : Ds → Mm → List MV → Prop} : WP 161 67 [(2, l0), q1, q2, q3, q4, q5, q6] [] ds m Q = (WP 161 68 [(2, l0), q1, q2, q3, q4, q5, q6] [(2, l0)] ds m Q) := P_nx k161_67 rfl
set_option maxRecDepth 20000 in
theorem k161_68 : mjCode 161 68 = some (.getfield 13, 3, 7, 1) := by decide +kernel
theorem p161_68 {s0 : Int} {q0 q1 q2 q3 q4 q5 q6 : MV} {ds : Ds} {m : Mm} {Q : Ds → Mm → List MV → Prop} : WP 161 68 [q0, q1, q2, q3, q4, q5, q6] [(2, s0)] ds m Q = ((dk ds s0 = 7 ∧ WP 161 71 [q0, q1, q2, q3, q4, q5, q6] [(2, m s0 1)] ds m Q)) := P_gd k161_68 rfl
set_option maxRecDepth 20000 in
theorem k161_71 : mjCode 161 71 = some (.iload 4, 2, 0, 0) := by decide +kernel
theorem p161_71 {l4 s0 : Int} {q0 q1 q2 q3 q5 q6 : MV} {ds : Ds} {m : Mm} {Q : Ds → Mm → List MV → Prop} : WP 161 71 [q0, q1, q2, q3, (0, l4), q5, q6] [(2, s0)] ds m Q = (WP 161 73 [q0, q1, q2, q3, (0, l4), q5, q6] [(0, l4), (2, s0)] ds m Q) := P_nx k161_71 rfl
set_option maxRecDepth 20000 in
theorem k161_73 : mjCode 161 73 = some (.iaload, 1, 0, 0) := by decide +kernel
theorem p161_73 {s0 s1 : Int} {q0 q1 q2 q3 q4 q5 q6 : MV} {ds : Ds} {m : Mm} {Q : Ds → Mm → List MV → Prop} : WP 161 73 [q0, q1, q2, q3, q4, q5, q6] [(0, s0), (2, s1)] ds m Q = ((dk ds s1 = 10 ∧ 0 ≤ s0 ∧ s0 < dl ds s1 ∧ WP 161 74 [q0, q1, q2, q3, q4, q5, q6] [(0, m s1 s0)] ds m Q)) := P_g3 k161_73 rfl
set_option maxRecDepth 20000 in
theorem k161_74 : mjCode 161 74 = some (.ifCond .eq 53, 3, 127, 0) := by decide +kernel
theorem p161_74 {s0 : Int} {q0 q1 q2 q3 q4 q5 q6 : MV} {ds : Ds} {m : Mm} {Q : Ds → Mm → List MV → Prop} : WP 161 74 [q0, q1, q2, q3, q4, q5, q6] [(0, s0)] ds m Q = (if s0 = 0 then WP 161 127 [q0, q1, q2, q3, q4, q5, q6] [] ds m Q else WP 161 77 [q0, q1, q2, q3, q4, q5, q6] [] ds m Q) := P_if k161_74 rfl
set_option maxRecDepth 20000 in
theorem k161_77 : mjCode 161 77 = some (.aload_n 0, 1, 0, 0) := by decide +kernel
theorem p161_77 {l0 : Int} {q1 q2 q3 q4 q5 q6 : MV} {ds : Ds} {m : Mm} {Q : Ds → Mm → List MV → Prop} : WP 161 77 [(2, l0), q1, q2, q3, q4, q5, q6] [] ds m Q = (WP 161 78 [(2, l0), q1, q2, q3, q4, q5, q6] [(2, l0)] ds m Q) := P_nx k161_77 rfl
set_option maxRecDepth 20000 in
theorem k161_78 : mjCode 161 78 = some (.getfield 13, 3, 7, 1) := by decide +kernel
theorem p161_78 {s0 : Int} {q0 q1 q2 q3 q4 q5 q6 : MV} {ds : Ds} {m : Mm} {Q : Ds → Mm → List MV → Prop} : WP 161 78 [q0, q1, q2, q3, q4, q5, q6] [(2, s0)] ds m Q = ((dk ds s0 = 7 ∧ WP 161 81 [q0, q1, q2, q3, q4, q5, q6] [(2, m s0 1)] ds m Q)) := P_gd k161_78 rfl
set_option maxRecDepth 20000 in
theorem k161_81 : mjCode 161 81 = some (.iload 4, 2, 0, 0) := by decide +kernel
theorem p161_81 {l4 s0 : Int} {q0 q1 q2 q3 q5 q6 : MV} {ds : Ds} {m : Mm} {Q : Ds → Mm → List MV → Prop} : WP 161 81 [q0, q1, q2, q3, (0, l4), q5, q6] [(2, s0)] ds m Q = (WP 161 83 [q0, q1, q2, q3, (0, l4), q5, q6] [(0, l4), (2, s0)] ds m Q) := P_nx k161_81 rfl
set_option maxRecDepth 20000 in
theorem k161_83 : mjCode 161 83 = some (.iaload, 1, 0, 0) := by decide +kernel
theorem p161_83 {s0 s1 : Int} {q0 q1 q2 q3 q4 q5 q6 : MV} {ds : Ds} {m : Mm} {Q : Ds → Mm → List MV → Prop} : WP 161 83 [q0, q1, q2, q3, q4, q5, q6] [(0, s0), (2, s1)] ds m Q = ((dk ds s1 = 10 ∧ 0 ≤ s0 ∧ s0 < dl ds s1 ∧ WP 161 84 [q0, q1, q2, q3, q4, q5, q6] [(0, m s1 s0)] ds m Q)) := P_g3 k161_83 rfl
set_option maxRecDepth 20000 in
theorem k161_84 : mjCode 161 84 = some (.bipush 7, 2, 0, 0) := by decide +kernel
theorem p161_84 {s0 : Int} {q0 q1 q2 q3 q4 q5 q6 : MV} {ds : Ds} {m : Mm} {Q : Ds → Mm → List MV → Prop} : WP 161 84 [q0, q1, q2, q3, q4, q5, q6] [(0, s0)] ds m Q = (WP 161 86 [q0, q1, q2, q3, q4, q5, q6] [(0, 7), (0, s0)] ds m Q) := P_nx k161_84 rfl
set_option maxRecDepth 20000 in
theorem k161_86 : mjCode 161 86 = some (.if_icmp .ne 13, 3, 99, 0) := by decide +kernel
theorem p161_86 {s0 s1 : Int} {q0 q1 q2 q3 q4 q5 q6 : MV} {ds : Ds} {m : Mm} {Q : Ds → Mm → List MV → Prop} : WP 161 86 [q0, q1, q2, q3, q4, q5, q6] [(0, s0), (0, s1)] ds m Q = (if s1 = s0 then WP 161 89 [q0, q1, q2, q3, q4, q5, q6] [] ds m Q else WP 161 99 [q0, q1, q2, q3, q4, q5, q6] [] ds m Q) := P_if k161_86 rfl
set_option maxRecDepth 20000 in
theorem k161_89 : mjCode 161 89 = some (.aload_n 0, 1, 0, 0) := by decide +kernel
theorem p161_89 {l0 : Int} {q1 q2 q3 q4 q5 q6 : MV} {ds : Ds} {m : Mm} {Q : Ds → Mm → List MV → Prop} : WP 161 89 [(2, l0), q1, q2, q3, q4, q5, q6] [] ds m Q = (WP 161 90 [(2, l0), q1, q2, q3, q4, q5, q6] [(2, l0)] ds m Q) := P_nx k161_89 rfl
set_option maxRecDepth 20000 in
theorem k161_90 : mjCode 161 90 = some (.getfield 81, 3, 7, 28) := by decide +kernel
theorem p161_90 {s0 : Int} {q0 q1 q2 q3 q4 q5 q6 : MV} {ds : Ds} {m : Mm} {Q : Ds → Mm → List MV → Prop} : WP 161 90 [q0, q1, q2, q3, q4, q5, q6] [(2, s0)] ds m Q = ((dk ds s0 = 7 ∧ WP 161 93 [q0, q1, q2, q3, q4, q5, q6] [(2, m s0 28)] ds m Q)) := P_gd k161_90 rfl
set_option maxRecDepth 20000 in
theorem k161_93 : mjCode 161 93 = some (.iload 4, 2, 0, 0) := by decide +kernel
theorem p161_93 {l4 s0 : Int} {q0 q1 q2 q3 q5 q6 : MV} {ds : Ds} {m : Mm} {Q : Ds → Mm → List MV → Prop} : WP 161 93 [q0, q1, q2, q3, (0, l4), q5, q6] [(2, s0)] ds m Q = (WP 161 95 [q0, q1, q2, q3, (0, l4), q5, q6] [(0, l4), (2, s0)] ds m Q) := P_nx k161_93 rfl
set_option maxRecDepth 20000 in
theorem k161_95 : mjCode 161 95 = some (.baload, 1, 0, 0) := by decide +kernel
theorem p161_95 {s0 s1 : Int} {q0 q1 q2 q3 q4 q5 q6 : MV} {ds : Ds} {m : Mm} {Q : Ds → Mm → List MV → Prop} : WP 161 95 [q0, q1, q2, q3, q4, q5, q6] [(0, s0), (2, s1)] ds m Q = ((dk ds s1 = 11 ∧ 0 ≤ s0 ∧ s0 < dl ds s1 ∧ WP 161 96 [q0, q1, q2, q3, q4, q5, q6] [(0, m s1 s0)] ds m Q)) := P_g3 k161_95 rfl
set_option maxRecDepth 20000 in
theorem k161_96 : mjCode 161 96 = some (.ifCond .ne 31, 3, 127, 0) := by decide +kernel
theorem p161_96 {s0 : Int} {q0 q1 q2 q3 q4 q5 q6 : MV} {ds : Ds} {m : Mm} {Q : Ds → Mm → List MV → Prop} : WP 161 96 [q0, q1, q2, q3, q4, q5, q6] [(0, s0)] ds m Q = (if s0 = 0 then WP 161 99 [q0, q1, q2, q3, q4, q5, q6] [] ds m Q else WP 161 127 [q0, q1, q2, q3, q4, q5, q6] [] ds m Q) := P_if k161_96 rfl
set_option maxRecDepth 20000 in
theorem k161_99 : mjCode 161 99 = some (.aload_n 0, 1, 0, 0) := by decide +kernel
theorem p161_99 {l0 : Int} {q1 q2 q3 q4 q5 q6 : MV} {ds : Ds} {m : Mm} {Q : Ds → Mm → List MV → Prop} : WP 161 99 [(2, l0), q1, q2, q3, q4, q5, q6] [] ds m Q = (WP 161 100 [(2, l0), q1, q2, q3, q4, q5, q6] [(2, l0)] ds m Q) := P_nx k161_99 rfl
set_option maxRecDepth 20000 in
theorem k161_100 : mjCode 161 100 = some (.getfield 13, 3, 7, 1) := by decide +kernel
theorem p161_100 {s0 : Int} {q0 q1 q2 q3 q4 q5 q6 : MV} {ds : Ds} {m : Mm} {Q : Ds → Mm → List MV → Prop} : WP 161 100 [q0, q1, q2, q3, q4, q5, q6] [(2, s0)] ds m Q = ((dk ds s0 = 7 ∧ WP 161 103 [q0, q1, q2, q3, q4, q5, q6] [(2, m s0 1)] ds m Q)) := P_gd k161_100 rfl
set_option maxRecDepth 20000 in
theorem k161_103 : mjCode 161 103 = some (.iload 4, 2, 0, 0) := by decide +kernel
theorem p161_103 {l4 s0 : Int} {q0 q1 q2 q3 q5 q6 : MV} {ds : Ds} {m : Mm} {Q : Ds → Mm → List MV → Prop} : WP 161 103 [q0, q1, q2, q3, (0, l4), q5, q6] [(2, s0)] ds m Q = (WP 161 105 [q0, q1, q2, q3, (0, l4), q5, q6] [(0, l4), (2, s0)] ds m Q) := P_nx k161_103 rfl
set_option maxRecDepth 20000 in
theorem k161_105 : mjCode 161 105 = some (.iaload, 1, 0, 0) := by decide +kernel
theorem p161_105 {s0 s1 : Int} {q0 q1 q2 q3 q4 q5 q6 : MV} {ds : Ds} {m : Mm} {Q : Ds → Mm → List MV → Prop} : WP 161 105 [q0, q1, q2, q3, q4, q5, q6] [(0, s0), (2, s1)] ds m Q = ((dk ds s1 = 10 ∧ 0 ≤ s0 ∧ s0 < dl ds s1 ∧ WP 161 106 [q0, q1, q2, q3, q4, q5, q6] [(0, m s1 s0)] ds m Q)) := P_g3 k161_105 rfl
set_option maxRecDepth 20000 in
theorem k161_106 : mjCode 161 106 = some (.bipush 9, 2, 0, 0) := by decide +kernel
theorem p161_106 {s0 : Int} {q0 q1 q2 q3 q4 q5 q6 : MV} {ds : Ds} {m : Mm} {Q : Ds → Mm → List MV → Prop} : WP 161 106 [q0, q1, q2, q3, q4, q5, q6] [(0, s0)] ds m Q = (WP 161 108 [q0, q1, q2, q3, q4, q5, q6] [(0, 9), (0, s0)] ds m Q) := P_nx k161_106 rfl
set_option maxRecDepth 20000 in
theorem k161_108 : mjCode 161 108 = some (.if_icmp .ne 23, 3, 131, 0) := by decide +kernel
theorem p161_108 {s0 s1 : Int} {q0 q1 q2 q3 q4 q5 q6 : MV} {ds : Ds} {m : Mm} {Q : Ds → Mm → List MV → Prop} : WP 161 108 [q0, q1, q2, q3, q4, q5, q6] [(0, s0), (0, s1)] ds m Q = (if s1 = s0 then WP 161 111 [q0, q1, q2, q3, q4, q5, q6] [] ds m Q else WP 161 131 [q0, q1, q2, q3, q4, q5, q6] [] ds m Q) := P_if k161_108 rfl
set_option maxRecDepth 20000 in
theorem k161_111 : mjCode 161 111 = some (.aload_n 0, 1, 0, 0) := by decide +kernel
theorem p161_111 {l0 : Int} {q1 q2 q3 q4 q5 q6 : MV} {ds : Ds} {m : Mm} {Q : Ds → Mm → List MV → Prop} : WP 161 111 [(2, l0), q1, q2, q3, q4, q5, q6] [] ds m Q = (WP 161 112 [(2, l0), q1, q2, q3, q4, q5, q6] [(2, l0)] ds m Q) := P_nx k161_111 rfl
set_option maxRecDepth 20000 in
theorem k161_112 : mjCode 161 112 = some (.getfield 16, 3, 7, 2) := by decide +kernel
theorem p161_112 {s0 : Int} {q0 q1 q2 q3 q4 q5 q6 : MV} {ds : Ds} {m : Mm} {Q : Ds → Mm → List MV → Prop} : WP 161 112 [q0, q1, q2, q3, q4, q5, q6] [(2, s0)] ds m Q = ((dk ds s0 = 7 ∧ WP 161 115 [q0, q1, q2, q3, q4, q5, q6] [(2, m s0 2)] ds m Q)) := P_gd k161_112 rfl
set_option maxRecDepth 20000 in
theorem k161_115 : mjCode 161 115 = some (.iload 4, 2, 0, 0) := by decide +kernel
theorem p161_115 {l4 s0 : Int} {q0 q1 q2 q3 q5 q6 : MV} {ds : Ds} {m : Mm} {Q : Ds → Mm → List MV → Prop} : WP 161 115 [q0, q1, q2, q3, (0, l4), q5, q6] [(2, s0)] ds m Q = (WP 161 117 [q0, q1, q2, q3, (0, l4), q5, q6] [(0, l4), (2, s0)] ds m Q) := P_nx k161_115 rfl
set_option maxRecDepth 20000 in
theorem k161_117 : mjCode 161 117 = some (.iaload, 1, 0, 0) := by decide +kernel
theorem p161_117 {s0 s1 : Int} {q0 q1 q2 q3 q4 q5 q6 : MV} {ds : Ds} {m : Mm} {Q : Ds → Mm → List MV → Prop} : WP 161 117 [q0, q1, q2, q3, q4, q5, q6] [(0, s0), (2, s1)] ds m Q = ((dk ds s1 = 10 ∧ 0 ≤ s0 ∧ s0 < dl ds s1 ∧ WP 161 118 [q0, q1, q2, q3, q4, q5, q6] [(0, m s1 s0)] ds m Q)) := P_g3 k161_117 rfl
set_option maxRecDepth 20000 in
theorem k161_118 : mjCode 161 118 = some (.iload 5, 2, 0, 0) := by decide +kernel
theorem p161_118 {l5 s0 : Int} {q0 q1 q2 q3 q4 q6 : MV} {ds : Ds} {m : Mm} {Q : Ds → Mm → List MV → Prop} : WP 161 118 [q0, q1, q2, q3, q4, (0, l5), q6] [(0, s0)] ds m Q = (WP 161 120 [q0, q1, q2, q3, q4, (0, l5), q6] [(0, l5), (0, s0)] ds m Q) := P_nx k161_118 rfl
set_option maxRecDepth 20000 in
theorem k161_120 : mjCode 161 120 = some (.ishr, 1, 0, 0) := by decide +kernel
theorem p161_120 {s0 s1 : Int} {q0 q1 q2 q3 q4 q5 q6 : MV} {ds : Ds} {m : Mm} {Q : Ds → Mm → List MV → Prop} : WP 161 120 [q0, q1, q2, q3, q4, q5, q6] [(0, s0), (0, s1)] ds m Q = (WP 161 121 [q0, q1, q2, q3, q4, q5, q6] [(0, jshr s1 s0)] ds m Q) := P_nx k161_120 rfl
set_option maxRecDepth 20000 in
theorem k161_121 : mjCode 161 121 = some (.iconst 1, 1, 0, 0) := by decide +kernel
theorem p161_121 {s0 : Int} {q0 q1 q2 q3 q4 q5 q6 : MV} {ds : Ds} {m : Mm} {Q : Ds → Mm → List MV → Prop} : WP 161 121 [q0, q1, q2, q3, q4, q5, q6] [(0, s0)] ds m Q = (WP 161 122 [q0, q1, q2, q3, q4, q5, q6] [(0, 1), (0, s0)] ds m Q) := P_nx k161_121 rfl
set_option maxRecDepth 20000 in
theorem k161_122 : mjCode 161 122 = some (.iand, 1, 0, 0) := by decide +kernel
theorem p161_122 {s0 s1 : Int} {q0 q1 q2 q3 q4 q5 q6 : MV} {ds : Ds} {m : Mm} {Q : Ds → Mm → List MV → Prop} : WP 161 122 [q0, q1, q2, q3, q4, q5, q6] [(0, s0), (0, s1)] ds m Q = (WP 161 123 [q0, q1, q2, q3, q4, q5, q6] [(0, jand s1 s0)] ds m Q) := P_nx k161_122 rfl
set_option maxRecDepth 20000 in
theorem k161_123 : mjCode 161 123 = some (.iconst 1, 1, 0, 0) := by decide +kernel
theorem p161_123 {s0 : Int} {q0 q1 q2 q3 q4 q5 q6 : MV} {ds : Ds} {m : Mm} {Q : Ds → Mm → List MV → Prop} : WP 161 123 [q0, q1, q2, q3, q4, q5, q6] [(0, s0)] ds m Q = (WP 161 124 [q0, q1, q2, q3, q4, q5, q6] [(0, 1), (0, s0)] ds m Q) := P_nx k161_123 rfl
set_option maxRecDepth 20000 in
theorem k161_124 : mjCode 161 124 = some (.if_icmp .ne 7, 3, 131, 0) := by decide +kernel
theorem p161_124 {s0 s1 : Int} {q0 q1 q2 q3 q4 q5 q6 : MV} {ds : Ds} {m : Mm} {Q : Ds → Mm → List MV → Prop} : WP 161 124 [q0, q1, q2, q3, q4, q5, q6] [(0, s0), (0, s1)] ds m Q = (if s1 = s0 then WP 161 127 [q0, q1, q2, q3, q4, q5, q6] [] ds m Q else WP 161 131 [q0, q1, q2, q3, q4, q5, q6] [] ds m Q) := P_if k161_124 rfl
set_option maxRecDepth 20000 in
theorem k161_127 : mjCode 161 127 = some (.iconst 1, 1, 0, 0) := by decide +kernel
theorem p161_127 {q0 q1 q2 q3 q4 q5 q6 : MV} {ds : Ds} {m : Mm} {Q : Ds → Mm → List MV → Prop} : WP 161 127 [q0, q1, q2, q3, q4, q5, q6] [] ds m Q = (WP 161 128 [q0, q1, q2, q3, q4, q5, q6] [(0, 1)] ds m Q) := P_nx k161_127 rfl
set_option maxRecDepth 20000 in
theorem k161_128 : mjCode 161 128 = some (.goto 4, 3, 132, 0) := by decide +kernel
theorem p161_128 {s0 : Int} {q0 q1 q2 q3 q4 q5 q6 : MV} {ds : Ds} {m : Mm} {Q : Ds → Mm → List MV → Prop} : WP 161 128 [q0, q1, q2, q3, q4, q5, q6] [(0, s0)] ds m Q = (WP 161 132 [q0, q1, q2, q3, q4, q5, q6] [(0, s0)] ds m Q) := P_nx k161_128 rfl
set_option maxRecDepth 20000 in
theorem k161_131 : mjCode 161 131 = some (.iconst 0, 1, 0, 0) := by decide +kernel
theorem p161_131 {q0 q1 q2 q3 q4 q5 q6 : MV} {ds : Ds} {m : Mm} {Q : Ds → Mm → List MV → Prop} : WP 161 131 [q0, q1, q2, q3, q4, q5, q6] [] ds m Q = (WP 161 132 [q0, q1, q2, q3, q4, q5, q6] [(0, 0)] ds m Q) := P_nx k161_131 rfl
set_option maxRecDepth 20000 in
theorem k161_132 : mjCode 161 132 = some (.istore 6, 2, 0, 0) := by decide +kernel
theorem p161_132 {l5 s0 : Int} {q0 q1 q2 q3 q4 q6 : MV} {ds : Ds} {m : Mm} {Q : Ds → Mm → List MV → Prop} : WP 161 132 [q0, q1, q2, q3, q4, (0, l5), q6] [(0, s0)] ds m Q = (WP 161 134 [q0, q1, q2, q3, q4, (0, l5), (0, s0)] [] ds m Q) := P_nx k161_132 rfl
set_option maxRecDepth 20000 in
theorem k161_134 : mjCode 161 134 = some (.aload_n 0, 1, 0, 0) := by decide +kernel
theorem p161_134 {l0 : Int} {q1 q2 q3 q4 q5 q6 : MV} {ds : Ds} {m : Mm} {Q : Ds → Mm → List MV → Prop} : WP 161 134 [(2, l0), q1, q2, q3, q4, q5, q6] [] ds m Q = (WP 161 135 [(2, l0), q1, q2, q3, q4, q5, q6] [(2, l0)] ds m Q) := P_nx k161_134 rfl
set_option maxRecDepth 20000 in
theorem k161_135 : mjCode 161 135 = some (.getfield 84, 3, 7, 29) := by decide +kernel
theorem p161_135 {s0 : Int} {q0 q1 q2 q3 q4 q5 q6 : MV} {ds : Ds} {m : Mm} {Q : Ds → Mm → List MV → Prop} : WP 161 135 [q0, q1, q2, q3, q4, q5, q6] [(2, s0)] ds m Q = ((dk ds s0 = 7 ∧ WP 161 138 [q0, q1, q2, q3, q4, q5, q6] [(2, m s0 29)] ds m Q)) := P_gd k161_135 rfl
set_option maxRecDepth 20000 in
theorem k161_138 : mjCode 161 138 = some (.iload 4, 2, 0, 0) := by decide +kernel
theorem p161_138 {l4 s0 : Int} {q0 q1 q2 q3 q5 q6 : MV} {ds : Ds} {m : Mm} {Q : Ds → Mm → List MV → Prop} : WP 161 138 [q0, q1, q2, q3, (0, l4), q5, q6] [(2, s0)] ds m Q = (WP 161 140 [q0, q1, q2, q3, (0, l4), q5, q6] [(0, l4), (2, s0)] ds m Q) := P_nx k161_138 rfl
set_option maxRecDepth 20000 in
theorem k161_140 : mjCode 161 140 = some (.iaload, 1, 0, 0) := by decide +kernel
theorem p161_140 {s0 s1 : Int} {q0 q1 q2 q3 q4 q5 q6 : MV} {ds : Ds} {m : Mm} {Q : Ds → Mm → List MV → Prop} : WP 161 140 [q0, q1, q2, q3, q4, q5, q6] [(0, s0), (2, s1)] ds m Q = ((dk ds s1 = 10 ∧ 0 ≤ s0 ∧ s0 < dl ds s1 ∧ WP 161 141 [q0, q1, q2, q3, q4, q5, q6] [(0, m s1 s0)] ds m Q)) := P_g3 k161_140 rfl
set_option maxRecDepth 20000 in
theorem k161_141 : mjCode 161 141 = some (.iconst (-1), 1, 0, 0) := by decide +kernel
theorem p161_141 {s0 : Int} {q0 q1 q2 q3 q4 q5 q6 : MV} {ds : Ds} {m : Mm} {Q : Ds → Mm → List MV → Prop} : WP 161 141 [q0, q1, q2, q3, q4, q5, q6] [(0, s0)] ds m Q = (WP 161 142 [q0, q1, q2, q3, q4, q5, q6] [(0, (-1)), (0, s0)] ds m Q) := P_nx k161_141 rfl
set_option maxRecDepth 20000 in
theorem k161_142 : mjCode 161 142 = some (.if_icmp .ne 8, 3, 150, 0) := by decide +kernel
theorem p161_142 {s0 s1 : Int} {q0 q1 q2 q3 q4 q5 q6 : MV} {ds : Ds} {m : Mm} {Q : Ds → Mm → List MV → Prop} : WP 161 142 [q0, q1, q2, q3, q4, q5, q6] [(0, s0), (0, s1)] ds m Q = (if s1 = s0 then WP 161 145 [q0, q1, q2, q3, q4, q5, q6] [] ds m Q else WP 161 150 [q0, q1, q2, q3, q4, q5, q6] [] ds m Q) := P_if k161_142 rfl
set_option maxRecDepth 20000 in
theorem k161_145 : mjCode 161 145 = some (.iload 6, 2, 0, 0) := by decide +kernel
theorem p161_145 {l6 : Int} {q0 q1 q2 q3 q4 q5 : MV} {ds : Ds} {m : Mm} {Q : Ds → Mm → List MV → Prop} : WP 161 145 [q0, q1, q2, q3, q4, q5, (0, l6)] [] ds m Q = (WP 161 147 [q0, q1, q2, q3, q4, q5, (0, l6)] [(0, l6)] ds m Q) := P_nx k161_145 rfl
set_option maxRecDepth 20000 in
theorem k161_147 : mjCode 161 147 = some (.ifCond .ne 26, 3, 173, 0) := by decide +kernel
theorem p161_147 {s0 : Int} {q0 q1 q2 q3 q4 q5 q6 : MV} {ds : Ds} {m : Mm} {Q : Ds → Mm → List MV → Prop} : WP 161 147 [q0, q1, q2, q3, q4, q5, q6] [(0, s0)] ds m Q = (if s0 = 0 then WP 161 150 [q0, q1, q2, q3, q4, q5, q6] [] ds m Q else WP 161 173 [q0, q1, q2, q3, q4, q5, q6] [] ds m Q) := P_if k161_147 rfl
set_option maxRecDepth 20000 in
theorem k161_150 : mjCode 161 150 = some (.aload_n 0, 1, 0, 0) := by decide +kernel
theorem p161_150 {l0 : Int} {q1 q2 q3 q4 q5 q6 : MV} {ds : Ds} {m : Mm} {Q : Ds → Mm → List MV → Prop} : WP 161 150 [(2, l0), q1, q2, q3, q4, q5, q6] [] ds m Q = (WP 161 151 [(2, l0), q1, q2, q3, q4, q5, q6] [(2, l0)] ds m Q) := P_nx k161_150 rfl
set_option maxRecDepth 20000 in
theorem k161_151 : mjCode 161 151 = some (.getfield 90, 3, 7, 32) := by decide +kernel
theorem p161_151 {s0 : Int} {q0 q1 q2 q3 q4 q5 q6 : MV} {ds : Ds} {m : Mm} {Q : Ds → Mm → List MV → Prop} : WP 161 151 [q0, q1, q2, q3, q4, q5, q6] [(2, s0)] ds m Q = ((dk ds s0 = 7 ∧ WP 161 154 [q0, q1, q2, q3, q4, q5, q6] [(2, m s0 32)] ds m Q)) := P_gd k161_151 rfl
set_option maxRecDepth 20000 in
theorem k161_154 : mjCode 161 154 = some (.iload_n 1, 1, 0, 0) := by decide +kernel
theorem p161_154 {l1 s0 : Int} {q0 q2 q3 q4 q5 q6 : MV} {ds : Ds} {m : Mm} {Q : Ds → Mm → List MV → Prop} : WP 161 154 [q0, (0, l1), q2, q3, q4, q5, q6] [(2, s0)] ds m Q = (WP 161 155 [q0, (0, l1), q2, q3, q4, q5, q6] [(0, l1), (2, s0)] ds m Q) := P_nx k161_154 rfl
set_option maxRecDepth 20000 in
theorem k161_155 : mjCode 161 155 = some (.iconst (-1), 1, 0, 0) := by decide +kernel
theorem p161_155 {s0 s1 : Int} {q0 q1 q2 q3 q4 q5 q6 : MV} {ds : Ds} {m : Mm} {Q : Ds → Mm → List MV → Prop} : WP 161 155 [q0, q1, q2, q3, q4, q5, q6] [(0, s0), (2, s1)] ds m Q = (WP 161 156 [q0, q1, q2, q3, q4, q5, q6] [(0, (-1)), (0, s0), (2, s1)] ds m Q) := P_nx k161_155 rfl
set_option maxRecDepth 20000 in
theorem k161_156 : mjCode 161 156 = some (.iastore, 1, 0, 0) := by decide +kernel
theorem p161_156 {s0 s1 s2 : Int} {q0 q1 q2 q3 q4 q5 q6 : MV} {ds : Ds} {m : Mm} {Q : Ds → Mm → List MV → Prop} : WP 161 156 [q0, q1, q2, q3, q4, q5, q6] [(0, s0), (0, s1), (2, s2)] ds m Q = ((dk ds s2 = 10 ∧ 0 ≤ s1 ∧ s1 < dl ds s2 ∧ WP 161 157 [q0, q1, q2, q3, q4, q5, q6] [] ds (up m s2 s1 s0) Q)) := P_s3 k161_156 rfl
set_option maxRecDepth 20000 in
theorem k161_157 : mjCode 161 157 = some (.aload_n 0, 1, 0, 0) := by decide +kernel
theorem p161_157 {l0 : Int} {q1 q2 q3 q4 q5 q6 : MV} {ds : Ds} {m : Mm} {Q : Ds → Mm → List MV → Prop} : WP 161 157 [(2, l0), q1, q2, q3, q4, q5, q6] [] ds m Q = (WP 161 158 [(2, l0), q1, q2, q3, q4, q5, q6] [(2, l0)] ds m Q) := P_nx k161_157 rfl
set_option maxRecDepth 20000 in
theorem k161_158 : mjCode 161 158 = some (.iload 4, 2, 0, 0) := by decide +kernel
theorem p161_158 {l4 s0 : Int} {q0 q1 q2 q3 q5 q6 : MV} {ds : Ds} {m : Mm} {Q : Ds → Mm → List MV → Prop} : WP 161 158 [q0, q1, q2, q3, (0, l4), q5, q6] [(2, s0)] ds m Q = (WP 161 160 [q0, q1, q2, q3, (0, l4), q5, q6] [(0, l4), (2, s0)] ds m Q) := P_nx k161_158 rfl
set_option maxRecDepth 20000 in
theorem k161_160 : mjCode 161 160 = some (.iload 5, 2, 0, 0) := by decide +kernel
theorem p161_160 {l5 s0 s1 : Int} {q0 q1 q2 q3 q4 q6 : MV} {ds : Ds} {m : Mm} {Q : Ds → Mm → List MV → Prop} : WP 161 160 [q0, q1, q2, q3, q4, (0, l5), q6] [(0, s0), (2, s1)] ds m Q = (WP 161 162 [q0, q1, q2, q3, q4, (0, l5), q6] [(0, l5), (0, s0), (2, s1)] ds m Q) := P_nx k161_160 rfl
set_option maxRecDepth 20000 in
theorem k161_162 : mjCode 161 162 = some (.aload_n 0, 1, 0, 0) := by decide +kernel
theorem p161_162 {l0 s0 s1 s2 : Int} {q1 q2 q3 q4 q5 q6 : MV} {ds : Ds} {m : Mm} {Q : Ds → Mm → List MV → Prop} : WP 161 162 [(2, l0), q1, q2, q3, q4, q5, q6] [(0, s0), (0, s1), (2, s2)] ds m Q = (WP 161 163 [(2, l0), q1, q2, q3, q4, q5, q6] [(2, l0), (0, s0), (0, s1), (2, s2)] ds m Q) := P_nx k161_162 rfl
set_option maxRecDepth 20000 in
theorem k161_163 : mjCode 161 163 = some (.getfield 96, 3, 7, 34) := by decide +kernel
theorem p161_163 {s0 s1 s2 s3 : Int} {q0 q1 q2 q3 q4 q5 q6 : MV} {ds : Ds} {m : Mm} {Q : Ds → Mm → List MV → Prop} : WP 161 163 [q0, q1, q2, q3, q4, q5, q6] [(2, s0), (0, s1), (0, s2), (2, s3)] ds m Q = ((dk ds s0 = 7 ∧ WP 161 166 [q0, q1, q2, q3, q4, q5, q6] [(2, m s0 34), (0, s1), (0, s2), (2, s3)] ds m Q)) := P_gd k161_163 rfl
set_option maxRecDepth 20000 in
theorem k161_166 : mjCode 161 166 = some (.iload_n 1, 1, 0, 0) := by decide +kernel
theorem p161_166 {l1 s0 s1 s2 s3 : Int} {q0 q2 q3 q4 q5 q6 : MV} {ds : Ds} {m : Mm} {Q : Ds → Mm → List MV → Prop} : WP 161 166 [q0, (0, l1), q2, q3, q4, q5, q6] [(2, s0), (0, s1), (0, s2), (2, s3)] ds m Q = (WP 161 167 [q0, (0, l1), q2, q3, q4, q5, q6] [(0, l1), (2, s0), (0, s1), (0, s2), (2, s3)] ds m Q) := P_nx k161_166 rfl
set_option maxRecDepth 20000 in
theorem k161_167 : mjCode 161 167 = some (.iaload, 1, 0, 0) := by decide +kernel
theorem p161_167 {s0 s1 s2 s3 s4 : Int} {q0 q1 q2 q3 q4 q5 q6 : MV} {ds : Ds} {m : Mm} {Q : Ds → Mm → List MV → Prop} : WP 161 167 [q0, q1, q2, q3, q4, q5, q6] [(0, s0), (2, s1), (0, s2), (0, s3), (2, s4)] ds m Q = ((dk ds s1 = 10 ∧ 0 ≤ s0 ∧ s0 < dl ds s1 ∧ WP 161 168 [q0, q1, q2, q3, q4, q5, q6] [(0, m s1 s0), (0, s2), (0, s3), (2, s4)] ds m Q)) := P_g3 k161_167 rfl
set_option maxRecDepth 20000 in
theorem k161_168 : mjCode 161 168 = some (.iconst 1, 1, 0, 0) := by decide +kernel
theorem p161_168 {s0 s1 s2 s3 : Int} {q0 q1 q2 q3 q4 q5 q6 : MV} {ds : Ds} {m : Mm} {Q : Ds → Mm → List MV → Prop} : WP 161 168 [q0, q1, q2, q3, q4, q5, q6] [(0, s0), (0, s1), (0, s2), (2, s3)] ds m Q = (WP 161 169 [q0, q1, q2, q3, q4, q5, q6] [(0, 1), (0, s0), (0, s1), (0, s2), (2, s3)] ds m Q) := P_nx k161_168 rfl
set_option maxRecDepth 20000 in
theorem k161_169 : mjCode 161 169 = some (.invokevirtual 238, 3, 159, 5) := by decide +kernel
theorem p161_169 {s0 s1 s2 s3 s4 : Int} {q0 q1 q2 q3 q4 q5 q6 : MV} {ds : Ds} {m : Mm} {Q : Ds → Mm → List MV → Prop} : WP 161 169 [q0, q1, q2, q3, q4, q5, q6] [(0, s0), (0, s1), (0, s2), (0, s3), (2, s4)] ds m Q = ((dk ds s4 = 7 ∧ WP 158 0 [(2, s4), (0, s3), (0, s2), (0, s1), (0, s0), (3, 0), (3, 0), (3, 0)] [] ds m (fun d2 m2 r2 => WP 161 172 [q0, q1, q2, q3, q4, q5, q6] (r2 ++ []) d2 m2 Q))) := P_cv k161_169 mx158 mo158 rfl rfl rfl rfl rfl rfl rfl rfl
set_option maxRecDepth 20000 in
theorem k161_172 : mjCode 161 172 = some (.return_, 1, 0, 0) := by decide +kernel
theorem p161_172 {q0 q1 q2 q3 q4 q5 q6 : MV} {ds : Ds} {m : Mm} {Q : Ds → Mm → List MV → Prop} : WP 161 172 [q0, q1, q2, q3, q4, q5, q6] [] ds m Q = (Q ds m []) := P_rv k161_172 rk161
set_option maxRecDepth 20000 in
theorem k161_173 : mjCode 161 173 = some (.aload_n 0, 1, 0, 0) := by decide +kernel
theorem p161_173 {l0 : Int} {q1 q2 q3 q4 q5 q6 : MV} {ds : Ds} {m : Mm} {Q : Ds → Mm → List MV → Prop} : WP 161 173 [(2, l0), q1, q2, q3, q4, q5, q6] [] ds m Q = (WP 161 174 [(2, l0), q1, q2, q3, q4, q5, q6] [(2, l0)] ds m Q) := P_nx k161_173 rfl
set_option maxRecDepth 20000 in
theorem k161_174 : mjCode 161 174 = some (.getfield 84, 3, 7, 29) := by decide +kernel
theorem p161_174 {s0 : Int} {q0 q1 q2 q3 q4 q5 q6 : MV} {ds : Ds} {m : Mm} {Q : Ds → Mm → List MV → Prop} : WP 161 174 [q0, q1, q2, q3, q4, q5, q6] [(2, s0)] ds m Q = ((dk ds s0 = 7 ∧ WP 161 177 [q0, q1, q2, q3, q4, q5, q6] [(2, m s0 29)] ds m Q)) := P_gd k161_174 rfl
set_option maxRecDepth 20000 in
theorem k161_177 : mjCode 161 177 = some (.iload_n 2, 1, 0, 0) := by decide +kernel
theorem p161_177 {l2 s0 : Int} {q0 q1 q3 q4 q5 q6 : MV} {ds : Ds} {m : Mm} {Q : Ds → Mm → List MV → Prop} : WP 161 177 [q0, q1, (0, l2), q3, q4, q5, q6] [(2, s0)] ds m Q = (WP 161 178 [q0, q1, (0, l2), q3, q4, q5, q6] [(0, l2), (2, s0)] ds m Q) := P_nx k161_177 rfl
set_option maxRecDepth 20000 in
theorem k161_178 : mjCode 161 178 = some (.iconst (-1), 1, 0, 0) := by decide +kernel
theorem p161_178 {s0 s1 : Int} {q0 q1 q2 q3 q4 q5 q6 : MV} {ds : Ds} {m : Mm} {Q : Ds → Mm → List MV → Prop} : WP 161 178 [q0, q1, q2, q3, q4, q5, q6] [(0, s0), (2, s1)] ds m Q = (WP 161 179 [q0, q1, q2, q3, q4, q5, q6] [(0, (-1)), (0, s0), (2, s1)] ds m Q) := P_nx k161_178 rfl
set_option maxRecDepth 20000 in
theorem k161_179 : mjCode 161 179 = some (.iastore, 1, 0, 0) := by decide +kernel
theorem p161_179 {s0 s1 s2 : Int} {q0 q1 q2 q3 q4 q5 q6 : MV} {ds : Ds} {m : Mm} {Q : Ds → Mm → List MV → Prop} : WP 161 179 [q0, q1, q2, q3, q4, q5, q6] [(0, s0), (0, s1), (2, s2)] ds m Q = ((dk ds s2 = 10 ∧ 0 ≤ s1 ∧ s1 < dl ds s2 ∧ WP 161 180 [q0, q1, q2, q3, q4, q5, q6] [] ds (up m s2 s1 s0) Q)) := P_s3 k161_179 rfl
set_option maxRecDepth 20000 in
theorem k161_180 : mjCode 161 180 = some (.aload_n 0, 1, 0, 0) := by decide +kernel
theorem p161_180 {l0 : Int} {q1 q2 q3 q4 q5 q6 : MV} {ds : Ds} {m : Mm} {Q : Ds → Mm → List MV → Prop} : WP 161 180 [(2, l0), q1, q2, q3, q4, q5, q6] [] ds m Q = (WP 161 181 [(2, l0), q1, q2, q3, q4, q5, q6] [(2, l0)] ds m Q) := P_nx k161_180 rfl
set_option maxRecDepth 20000 in
theorem k161_181 : mjCode 161 181 = some (.getfield 84, 3, 7, 29) := by decide +kernel
theorem p161_181 {s0 : Int} {q0 q1 q2 q3 q4 q5 q6 : MV} {ds : Ds} {m : Mm} {Q : Ds → Mm → List MV → Prop} : WP 161 181 [q0, q1, q2, q3, q4, q5, q6] [(2, s0)] ds m Q = ((dk ds s0 = 7 ∧ WP 161 184 [q0, q1, q2, q3, q4, q5, q6] [(2, m s0 29)] ds m Q)) := P_gd k161_181 rfl
set_option maxRecDepth 20000 in
theorem k161_184 : mjCode 161 184 = some (.iload 4, 2, 0, 0) := by decide +kernel
theorem p161_184 {l4 s0 : Int} {q0 q1 q2 q3 q5 q6 : MV} {ds : Ds} {m : Mm} {Q : Ds → Mm → List MV → Prop} : WP 161 184 [q0, q1, q2, q3, (0, l4), q5, q6] [(2, s0)] ds m Q = (WP 161 186 [q0, q1, q2, q3, (0, l4), q5, q6] [(0, l4), (2, s0)] ds m Q) := P_nx k161_184 rfl
set_option maxRecDepth 20000 in
theorem k161_186 : mjCode 161 186 = some (.iload_n 1, 1, 0, 0) := by decide +kernel
theorem p161_186 {l1 s0 s1 : Int} {q0 q2 q3 q4 q5 q6 : MV} {ds : Ds} {m : Mm} {Q : Ds → Mm → List MV → Prop} : WP 161 186 [q0, (0, l1), q2, q3, q4, q5, q6] [(0, s0), (2, s1)] ds m Q = (WP 161 187 [q0, (0, l1), q2, q3, q4, q5, q6] [(0, l1), (0, s0), (2, s1)] ds m Q) := P_nx k161_186 rfl
set_option maxRecDepth 20000 in
theorem k161_187 : mjCode 161 187 = some (.iastore, 1, 0, 0) := by decide +kernel
theorem p161_187 {s0 s1 s2 : Int} {q0 q1 q2 q3 q4 q5 q6 : MV} {ds : Ds} {m : Mm} {Q : Ds → Mm → List MV → Prop} : WP 161 187 [q0, q1, q2, q3, q4, q5, q6] [(0, s0), (0, s1), (2, s2)] ds m Q = ((dk ds s2 = 10 ∧ 0 ≤ s1 ∧ s1 < dl ds s2 ∧ WP 161 188 [q0, q1, q2, q3, q4, q5, q6] [] ds (up m s2 s1 s0) Q)) := P_s3 k161_187 rfl
set_option maxRecDepth 20000 in
theorem k161_188 : mjCode 161 188 = some (.aload_n 0, 1, 0, 0) := by decide +kernel
theorem p161_188 {l0 : Int} {q1 q2 q3 q4 q5 q6 : MV} {ds : Ds} {m : Mm} {Q : Ds → Mm → List MV → Prop} : WP 161 188 [(2, l0), q1, q2, q3, q4, q5, q6] [] ds m Q = (WP 161 189 [(2, l0), q1, q2, q3, q4, q5, q6] [(2, l0)] ds m Q) := P_nx k161_188 rfl
set_option maxRecDepth 20000 in
theorem k161_189 : mjCode 161 189 = some (.getfield 87, 3, 7, 31) := by decide +kernel
theorem p161_189 {s0 : Int} {q0 q1 q2 q3 q4 q5 q6 : MV} {ds : Ds} {m : Mm} {Q : Ds → Mm → List MV → Prop} : WP 161 189 [q0, q1, q2, q3, q4, q5, q6] [(2, s0)] ds m Q = ((dk ds s0 = 7 ∧ WP 161 192 [q0, q1, q2, q3, q4, q5, q6] [(2, m s0 31)] ds m Q)) := P_gd k161_189 rfl
set_option maxRecDepth 20000 in
theorem k161_192 : mjCode 161 192 = some (.iload_n 1, 1, 0, 0) := by decide +kernel
theorem p161_192 {l1 s0 : Int} {q0 q2 q3 q4 q5 q6 : MV} {ds : Ds} {m : Mm} {Q : Ds → Mm → List MV → Prop} : WP 161 192 [q0, (0, l1), q2, q3, q4, q5, q6] [(2, s0)] ds m Q = (WP 161 193 [q0, (0, l1), q2, q3, q4, q5, q6] [(0, l1), (2, s0)] ds m Q) := P_nx k161_192 rfl
set_option maxRecDepth 20000 in
theorem k161_193 : mjCode 161 193 = some (.iload 4, 2, 0, 0) := by decide +kernel
theorem p161_193 {l4 s0 s1 : Int} {q0 q1 q2 q3 q5 q6 : MV} {ds : Ds} {m : Mm} {Q : Ds → Mm → List MV → Prop} : WP 161 193 [q0, q1, q2, q3, (0, l4), q5, q6] [(0, s0), (2, s1)] ds m Q = (WP 161 195 [q0, q1, q2, q3, (0, l4), q5, q6] [(0, l4), (0, s0), (2, s1)] ds m Q) := P_nx k161_193 rfl
set_option maxRecDepth 20000 in
theorem k161_195 : mjCode 161 195 = some (.iastore, 1, 0, 0) := by decide +kernel
theorem p161_195 {s0 s1 s2 : Int} {q0 q1 q2 q3 q4 q5 q6 : MV} {ds : Ds} {m : Mm} {Q : Ds → Mm → List MV → Prop} : WP 161 195 [q0, q1, q2, q3, q4, q5, q6] [(0, s0), (0, s1), (2, s2)] ds m Q = ((dk ds s2 = 10 ∧ 0 ≤ s1 ∧ s1 < dl ds s2 ∧ WP 161 196 [q0, q1, q2, q3, q4, q5, q6] [] ds (up m s2 s1 s0) Q)) := P_s3 k161_195 rfl
set_option maxRecDepth 20000 in
theorem k161_196 : mjCode 161 196 = some (.aload_n 0, 1, 0, 0) := by decide +kernel
theorem p161_196 {l0 : Int} {q1 q2 q3 q4 q5 q6 : MV} {ds : Ds} {m : Mm} {Q : Ds → Mm → List MV → Prop} : WP 161 196 [(2, l0), q1, q2, q3, q4, q5, q6] [] ds m Q = (WP 161 197 [(2, l0), q1, q2, q3, q4, q5, q6] [(2, l0)] ds m Q) := P_nx k161_196 rfl
set_option maxRecDepth 20000 in
theorem k161_197 : mjCode 161 197 = some (.getfield 93, 3, 7, 33) := by decide +kernel
theorem p161_197 {s0 : Int} {q0 q1 q2 q3 q4 q5 q6 : MV} {ds : Ds} {m : Mm} {Q : Ds → Mm → List MV → Prop} : WP 161 197 [q0, q1, q2, q3, q4, q5, q6] [(2, s0)] ds m Q = ((dk ds s0 = 7 ∧ WP 161 200 [q0, q1, q2, q3, q4, q5, q6] [(2, m s0 33)] ds m Q)) := P_gd k161_197 rfl
set_option maxRecDepth 20000 in
theorem k161_200 : mjCode 161 200 = some (.iload_n 1, 1, 0, 0) := by decide +kernel
theorem p161_200 {l1 s0 : Int} {q0 q2 q3 q4 q5 q6 : MV} {ds : Ds} {m : Mm} {Q : Ds → Mm → List MV → Prop} : WP 161 200 [q0, (0, l1), q2, q3, q4, q5, q6] [(2, s0)] ds m Q = (WP 161 201 [q0, (0, l1), q2, q3, q4, q5, q6] [(0, l1), (2, s0)] ds m Q) := P_nx k161_200 rfl
set_option maxRecDepth 20000 in
theorem k161_201 : mjCode 161 201 = some (.dup2, 1, 0, 0) := by decide +kernel
theorem p161_201 {s0 s1 : Int} {q0 q1 q2 q3 q4 q5 q6 : MV} {ds : Ds} {m : Mm} {Q : Ds → Mm → List MV → Prop} : WP 161 201 [q0, q1, q2, q3, q4, q5, q6] [(0, s0), (2, s1)] ds m Q = (WP 161 202 [q0, q1, q2, q3, q4, q5, q6] [(0, s0), (2, s1), (0, s0), (2, s1)] ds m Q) := P_nx k161_201 rfl
set_option maxRecDepth 20000 in
theorem k161_202 : mjCode 161 202 = some (.iaload, 1, 0, 0) := by decide +kernel
theorem p161_202 {s0 s1 s2 s3 : Int} {q0 q1 q2 q3 q4 q5 q6 : MV} {ds : Ds} {m : Mm} {Q : Ds → Mm → List MV → Prop} : WP 161 202 [q0, q1, q2, q3, q4, q5, q6] [(0, s0), (2, s1), (0, s2), (2, s3)] ds m Q = ((dk ds s1 = 10 ∧ 0 ≤ s0 ∧ s0 < dl ds s1 ∧ WP 161 203 [q0, q1, q2, q3, q4, q5, q6] [(0, m s1 s0), (0, s2), (2, s3)] ds m Q)) := P_g3 k161_202 rfl
set_option maxRecDepth 20000 in
theorem k161_203 : mjCode 161 203 = some (.iconst 1, 1, 0, 0) := by decide +kernel
theorem p161_203 {s0 s1 s2 : Int} {q0 q1 q2 q3 q4 q5 q6 : MV} {ds : Ds} {m : Mm} {Q : Ds → Mm → List MV → Prop} : WP 161 203 [q0, q1, q2, q3, q4, q5, q6] [(0, s0), (0, s1), (2, s2)] ds m Q = (WP 161 204 [q0, q1, q2, q3, q4, q5, q6] [(0, 1), (0, s0), (0, s1), (2, s2)] ds m Q) := P_nx k161_203 rfl
set_option maxRecDepth 20000 in
theorem k161_204 : mjCode 161 204 = some (.isub, 1, 0, 0) := by decide +kernel
theorem p161_204 {s0 s1 s2 s3 : Int} {q0 q1 q2 q3 q4 q5 q6 : MV} {ds : Ds} {m : Mm} {Q : Ds → Mm → List MV → Prop} : WP 161 204 [q0, q1, q2, q3, q4, q5, q6] [(0, s0), (0, s1), (0, s2), (2, s3)] ds m Q = (WP 161 205 [q0, q1, q2, q3, q4, q5, q6] [(0, w32 (s1 - s0)), (0, s2), (2, s3)] ds m Q) := P_nx k161_204 rfl
set_option maxRecDepth 20000 in
theorem k161_205 : mjCode 161 205 = some (.iastore, 1, 0, 0) := by decide +kernel
theorem p161_205 {s0 s1 s2 : Int} {q0 q1 q2 q3 q4 q5 q6 : MV} {ds : Ds} {m : Mm} {Q : Ds → Mm → List MV → Prop} : WP 161 205 [q0, q1, q2, q3, q4, q5, q6] [(0, s0), (0, s1), (2, s2)] ds m Q = ((dk ds s2 = 10 ∧ 0 ≤ s1 ∧ s1 < dl ds s2 ∧ WP 161 206 [q0, q1, q2, q3, q4, q5, q6] [] ds (up m s2 s1 s0) Q)) := P_s3 k161_205 rfl
set_option maxRecDepth 20000 in
theorem k161_206 : mjCode 161 206 = some (.aload_n 0, 1, 0, 0) := by decide +kernel
theorem p161_206 {l0 : Int} {q1 q2 q3 q4 q5 q6 : MV} {ds : Ds} {m : Mm} {Q : Ds → Mm → List MV → Prop} : WP 161 206 [(2, l0), q1, q2, q3, q4, q5, q6] [] ds m Q = (WP 161 207 [(2, l0), q1, q2, q3, q4, q5, q6] [(2, l0)] ds m Q) := P_nx k161_206 rfl
set_option maxRecDepth 20000 in
theorem k161_207 : mjCode 161 207 = some (.getfield 13, 3, 7, 1) := by decide +kernel
theorem p161_207 {s0 : Int} {q0 q1 q2 q3 q4 q5 q6 : MV} {ds : Ds} {m : Mm} {Q : Ds → Mm → List MV → Prop} : WP 161 207 [q0, q1, q2, q3, q4, q5, q6] [(2, s0)] ds m Q = ((dk ds s0 = 7 ∧ WP 161 210 [q0, q1, q2, q3, q4, q5, q6] [(2, m s0 1)] ds m Q)) := P_gd k161_207 rfl
set_option maxRecDepth 20000 in
theorem k161_210 : mjCode 161 210 = some (.iload 4, 2, 0, 0) := by decide +kernel
theorem p161_210 {l4 s0 : Int} {q0 q1 q2 q3 q5 q6 : MV} {ds : Ds} {m : Mm} {Q : Ds → Mm → List MV → Prop} : WP 161 210 [q0, q1, q2, q3, (0, l4), q5, q6] [(2, s0)] ds m Q = (WP 161 212 [q0, q1, q2, q3, (0, l4), q5, q6] [(0, l4), (2, s0)] ds m Q) := P_nx k161_210 rfl
set_option maxRecDepth 20000 in
theorem k161_212 : mjCode 161 212 = some (.iaload, 1, 0, 0) := by decide +kernel
theorem p161_212 {s0 s1 : Int} {q0 q1 q2 q3 q4 q5 q6 : MV} {ds : Ds} {m : Mm} {Q : Ds → Mm → List MV → Prop} : WP 161 212 [q0, q1, q2, q3, q4, q5, q6] [(0, s0), (2, s1)] ds m Q = ((dk ds s1 = 10 ∧ 0 ≤ s0 ∧ s0 < dl ds s1 ∧ WP 161 213 [q0, q1, q2, q3, q4, q5, q6] [(0, m s1 s0)] ds m Q)) := P_g3 k161_212 rfl
set_option maxRecDepth 20000 in
theorem k161_213 : mjCode 161 213 = some (.bipush 9, 2, 0, 0) := by decide +kernel
theorem p161_213 {s0 : Int} {q0 q1 q2 q3 q4 q5 q6 : MV} {ds : Ds} {m : Mm} {Q : Ds → Mm → List MV → Prop} : WP 161 213 [q0, q1, q2, q3, q4, q5, q6] [(0, s0)] ds m Q = (WP 161 215 [q0, q1, q2, q3, q4, q5, q6] [(0, 9), (0, s0)] ds m Q) := P_nx k161_213 rfl
set_option maxRecDepth 20000 in
theorem k161_215 : mjCode 161 215 = some (.if_icmp .ne 21, 3, 236, 0) := by decide +kernel
theorem p161_215 {s0 s1 : Int} {q0 q1 q2 q3 q4 q5 q6 : MV} {ds : Ds} {m : Mm} {Q : Ds → Mm → List MV → Prop} : WP 161 215 [q0, q1, q2, q3, q4, q5, q6] [(0, s0), (0, s1)] ds m Q = (if s1 = s0 then WP 161 218 [q0, q1, q2, q3, q4, q5, q6] [] ds m Q else WP 161 236 [q0, q1, q2, q3, q4, q5, q6] [] ds m Q) := P_if k161_215 rfl
set_option maxRecDepth 20000 in
theorem k161_218 : mjCode 161 218 = some (.aload_n 0, 1, 0, 0) := by decide +kernel
theorem p161_218 {l0 : Int} {q1 q2 q3 q4 q5 q6 : MV} {ds : Ds} {m : Mm} {Q : Ds → Mm → List MV → Prop} : WP 161 218 [(2, l0), q1, q2, q3, q4, q5, q6] [] ds m Q = (WP 161 219 [(2, l0), q1, q2, q3, q4, q5, q6] [(2, l0)] ds m Q) := P_nx k161_218 rfl
set_option maxRecDepth 20000 in
theorem k161_219 : mjCode 161 219 = some (.getfield 90, 3, 7, 32) := by decide +kernel
theorem p161_219 {s0 : Int} {q0 q1 q2 q3 q4 q5 q6 : MV} {ds : Ds} {m : Mm} {Q : Ds → Mm → List MV → Prop} : WP 161 219 [q0, q1, q2, q3, q4, q5, q6] [(2, s0)] ds m Q = ((dk ds s0 = 7 ∧ WP 161 222 [q0, q1, q2, q3, q4, q5, q6] [(2, m s0 32)] ds m Q)) := P_gd k161_219 rfl
set_option maxRecDepth 20000 in
theorem k161_222 : mjCode 161 222 = some (.iload_n 1, 1, 0, 0) := by decide +kernel
theorem p161_222 {l1 s0 : Int} {q0 q2 q3 q4 q5 q6 : MV} {ds : Ds} {m : Mm} {Q : Ds → Mm → List MV → Prop} : WP 161 222 [q0, (0, l1), q2, q3, q4, q5, q6] [(2, s0)] ds m Q = (WP 161 223 [q0, (0, l1), q2, q3, q4, q5, q6] [(0, l1), (2, s0)] ds m Q) := P_nx k161_222 rfl
set_option maxRecDepth 20000 in
theorem k161_223 : mjCode 161 223 = some (.aload_n 0, 1, 0, 0) := by decide +kernel
theorem p161_223 {l0 s0 s1 : Int} {q1 q2 q3 q4 q5 q6 : MV} {ds : Ds} {m : Mm} {Q : Ds → Mm → List MV → Prop} : WP 161 223 [(2, l0), q1, q2, q3, q4, q5, q6] [(0, s0), (2, s1)] ds m Q = (WP 161 224 [(2, l0), q1, q2, q3, q4, q5, q6] [(2, l0), (0, s0), (2, s1)] ds m Q) := P_nx k161_223 rfl
set_option maxRecDepth 20000 in
theorem k161_224 : mjCode 161 224 = some (.getfield 16, 3, 7, 2) := by decide +kernel
theorem p161_224 {s0 s1 s2 : Int} {q0 q1 q2 q3 q4 q5 q6 : MV} {ds : Ds} {m : Mm} {Q : Ds → Mm → List MV → Prop} : WP 161 224 [q0, q1, q2, q3, q4, q5, q6] [(2, s0), (0, s1), (2, s2)] ds m Q = ((dk ds s0 = 7 ∧ WP 161 227 [q0, q1, q2, q3, q4, q5, q6] [(2, m s0 2), (0, s1), (2, s2)] ds m Q)) := P_gd k161_224 rfl
set_option maxRecDepth 20000 in
theorem k161_227 : mjCode 161 227 = some (.iload 4, 2, 0, 0) := by decide +kernel
theorem p161_227 {l4 s0 s1 s2 : Int} {q0 q1 q2 q3 q5 q6 : MV} {ds : Ds} {m : Mm} {Q : Ds → Mm → List MV → Prop} : WP 161 227 [q0, q1, q2, q3, (0, l4), q5, q6] [(2, s0), (0, s1), (2, s2)] ds m Q = (WP 161 229 [q0, q1, q2, q3, (0, l4), q5, q6] [(0, l4), (2, s0), (0, s1), (2, s2)] ds m Q) := P_nx k161_227 rfl
set_option maxRecDepth 20000 in
theorem k161_229 : mjCode 161 229 = some (.iaload, 1, 0, 0) := by decide +kernel
theorem p161_229 {s0 s1 s2 s3 : Int} {q0 q1 q2 q3 q4 q5 q6 : MV} {ds : Ds} {m : Mm} {Q : Ds → Mm → List MV → Prop} : WP 161 229 [q0, q1, q2, q3, q4, q5, q6] [(0, s0), (2, s1), (0, s2), (2, s3)] ds m Q = ((dk ds s1 = 10 ∧ 0 ≤ s0 ∧ s0 < dl ds s1 ∧ WP 161 230 [q0, q1, q2, q3, q4, q5, q6] [(0, m s1 s0), (0, s2), (2, s3)] ds m Q)) := P_g3 k161_229 rfl
set_option maxRecDepth 20000 in
theorem k161_230 : mjCode 161 230 = some (.iload 5, 2, 0, 0) := by decide +kernel
theorem p161_230 {l5 s0 s1 s2 : Int} {q0 q1 q2 q3 q4 q6 : MV} {ds : Ds} {m : Mm} {Q : Ds → Mm → List MV → Prop} : WP 161 230 [q0, q1, q2, q3, q4, (0, l5), q6] [(0, s0), (0, s1), (2, s2)] ds m Q = (WP 161 232 [q0, q1, q2, q3, q4, (0, l5), q6] [(0, l5), (0, s0), (0, s1), (2, s2)] ds m Q) := P_nx k161_230 rfl
set_option maxRecDepth 20000 in
theorem k161_232 : mjCode 161 232 = some (.invokestatic 242, 3, 163, 2) := by decide +kernel
theorem p161_232 {s0 s1 s2 s3 : Int} {q0 q1 q2 q3 q4 q5 q6 : MV} {ds : Ds} {m : Mm} {Q : Ds → Mm → List MV → Prop} : WP 161 232 [q0, q1, q2, q3, q4, q5, q6] [(0, s0), (0, s1), (0, s2), (2, s3)] ds m Q = (WP 162 0 [(0, s1), (0, s0), (3, 0)] [] ds m (fun d2 m2 r2 => WP 161 235 [q0, q1, q2, q3, q4, q5, q6] (r2 ++ [(0, s2), (2, s3)]) d2 m2 Q)) := P_cs k161_232 mx162 rfl rfl rfl rfl rfl rfl rfl
set_option maxRecDepth 20000 in
theorem k161_235 : mjCode 161 235 = some (.iastore, 1, 0, 0) := by decide +kernel
theorem p161_235 {s0 s1 s2 : Int} {q0 q1 q2 q3 q4 q5 q6 : MV} {ds : Ds} {m : Mm} {Q : Ds → Mm → List MV → Prop} : WP 161 235 [q0, q1, q2, q3, q4, q5, q6] [(0, s0), (0, s1), (2, s2)] ds m Q = ((dk ds s2 = 10 ∧ 0 ≤ s1 ∧ s1 < dl ds s2 ∧ WP 161 236 [q0, q1, q2, q3, q4, q5, q6] [] ds (up m s2 s1 s0) Q)) := P_s3 k161_235 rfl
set_option maxRecDepth 20000 in
theorem k161_236 : mjCode 161 236 = some (.aload_n 0, 1, 0, 0) := by decide +kernel
theorem p161_236 {l0 : Int} {q1 q2 q3 q4 q5 q6 : MV} {ds : Ds} {m : Mm} {Q : Ds → Mm → List MV → Prop} : WP 161 236 [(2, l0), q1, q2, q3, q4, q5, q6] [] ds m Q = (WP 161 237 [(2, l0), q1, q2, q3, q4, q5, q6] [(2, l0)] ds m Q) := P_nx k161_236 rfl
set_option maxRecDepth 20000 in
theorem k161_237 : mjCode 161 237 = some (.getfield 93, 3, 7, 33) := by decide +kernel
theorem p161_237 {s0 : Int} {q0 q1 q2 q3 q4 q5 q6 : MV} {ds : Ds} {m : Mm} {Q : Ds → Mm → List MV → Prop} : WP 161 237 [q0, q1, q2, q3, q4, q5, q6] [(2, s0)] ds m Q = ((dk ds s0 = 7 ∧ WP 161 240 [q0, q1, q2, q3, q4, q5, q6] [(2, m s0 33)] ds m Q)) := P_gd k161_237 rfl
set_option maxRecDepth 20000 in
theorem k161_240 : mjCode 161 240 = some (.iload_n 1, 1, 0, 0) := by decide +kernel
theorem p161_240 {l1 s0 : Int} {q0 q2 q3 q4 q5 q6 : MV} {ds : Ds} {m : Mm} {Q : Ds → Mm → List MV → Prop} : WP 161 240 [q0, (0, l1), q2, q3, q4, q5, q6] [(2, s0)] ds m Q = (WP 161 241 [q0, (0, l1), q2, q3, q4, q5, q6] [(0, l1), (2, s0)] ds m Q) := P_nx k161_240 rfl
set_option maxRecDepth 20000 in
theorem k161_241 : mjCode 161 241 = some (.iaload, 1, 0, 0) := by decide +kernel
theorem p161_241 {s0 s1 : Int} {q0 q1 q2 q3 q4 q5 q6 : MV} {ds : Ds} {m : Mm} {Q : Ds → Mm → List MV → Prop} : WP 161 241 [q0, q1, q2, q3, q4, q5, q6] [(0, s0), (2, s1)] ds m Q = ((dk ds s1 = 10 ∧ 0 ≤ s0 ∧ s0 < dl ds s1 ∧ WP 161 242 [q0, q1, q2, q3, q4, q5, q6] [(0, m s1 s0)] ds m Q)) := P_g3 k161_241 rfl
set_option maxRecDepth 20000 in
theorem k161_242 : mjCode 161 242 = some (.ifCond .ne 10, 3, 252, 0) := by decide +kernel
theorem p161_242 {s0 : Int} {q0 q1 q2 q3 q4 q5 q6 : MV} {ds : Ds} {m : Mm} {Q : Ds → Mm → List MV → Prop} : WP 161 242 [q0, q1, q2, q3, q4, q5, q6] [(0, s0)] ds m Q = (if s0 = 0 then WP 161 245 [q0, q1, q2, q3, q4, q5, q6] [] ds m Q else WP 161 252 [q0, q1, q2, q3, q4, q5, q6] [] ds m Q) := P_if k161_242 rfl
set_option maxRecDepth 20000 in
theorem k161_245 : mjCode 161 245 = some (.aload_n 0, 1, 0, 0) := by decide +kernel
theorem p161_245 {l0 : Int} {q1 q2 q3 q4 q5 q6 : MV} {ds : Ds} {m : Mm} {Q : Ds → Mm → List MV → Prop} : WP 161 245 [(2, l0), q1, q2, q3, q4, q5, q6] [] ds m Q = (WP 161 246 [(2, l0), q1, q2, q3, q4, q5, q6] [(2, l0)] ds m Q) := P_nx k161_245 rfl
set_option maxRecDepth 20000 in
theorem k161_246 : mjCode 161 246 = some (.getfield 90, 3, 7, 32) := by decide +kernel
theorem p161_246 {s0 : Int} {q0 q1 q2 q3 q4 q5 q6 : MV} {ds : Ds} {m : Mm} {Q : Ds → Mm → List MV → Prop} : WP 161 246 [q0, q1, q2, q3, q4, q5, q6] [(2, s0)] ds m Q = ((dk ds s0 = 7 ∧ WP 161 249 [q0, q1, q2, q3, q4, q5, q6] [(2, m s0 32)] ds m Q)) := P_gd k161_246 rfl
set_option maxRecDepth 20000 in
theorem k161_249 : mjCode 161 249 = some (.iload_n 1, 1, 0, 0) := by decide +kernel
theorem p161_249 {l1 s0 : Int} {q0 q2 q3 q4 q5 q6 : MV} {ds : Ds} {m : Mm} {Q : Ds → Mm → List MV → Prop} : WP 161 249 [q0, (0, l1), q2, q3, q4, q5, q6] [(2, s0)] ds m Q = (WP 161 250 [q0, (0, l1), q2, q3, q4, q5, q6] [(0, l1), (2, s0)] ds m Q) := P_nx k161_249 rfl
set_option maxRecDepth 20000 in
theorem k161_250 : mjCode 161 250 = some (.iconst (-1), 1, 0, 0) := by decide +kernel
theorem p161_250 {s0 s1 : Int} {q0 q1 q2 q3 q4 q5 q6 : MV} {ds : Ds} {m : Mm} {Q : Ds → Mm → List MV → Prop} : WP 161 250 [q0, q1, q2, q3, q4, q5, q6] [(0, s0), (2, s1)] ds m Q = (WP 161 251 [q0, q1, q2, q3, q4, q5, q6] [(0, (-1)), (0, s0), (2, s1)] ds m Q) := P_nx k161_250 rfl
set_option maxRecDepth 20000 in
theorem k161_251 : mjCode 161 251 = some (.iastore, 1, 0, 0) := by decide +kernel
theorem p161_251 {s0 s1 s2 : Int} {q0 q1 q2 q3 q4 q5 q6 : MV} {ds : Ds} {m : Mm} {Q : Ds → Mm → List MV → Prop} : WP 161 251 [q0, q1, q2, q3, q4, q5, q6] [(0, s0), (0, s1), (2, s2)] ds m Q = ((dk ds s2 = 10 ∧ 0 ≤ s1 ∧ s1 < dl ds s2 ∧ WP 161 252 [q0, q1, q2, q3, q4, q5, q6] [] ds (up m s2 s1 s0) Q)) := P_s3 k161_251 rfl
set_option maxRecDepth 20000 in
theorem k161_252 : mjCode 161 252 = some (.return_, 1, 0, 0) := by decide +kernel
theorem p161_252 {q0 q1 q2 q3 q4 q5 q6 : MV} {ds : Ds} {m : Mm} {Q : Ds → Mm → List MV → Prop} : WP 161 252 [q0, q1, q2, q3, q4, q5, q6] [] ds m Q = (Q ds m []) := P_rv k161_252 rk161
set_option maxRecDepth 20000 in
theorem k162_0 : mjCode 162 0 = some (.iload_n 0, 1, 0, 0) := by decide +kernel
theorem p162_0 {l0 : Int} {q1 q2 : MV} {ds : Ds} {m : Mm} {Q : Ds → Mm → List MV → Prop} : WP 162 0 [(0, l0), q1, q2] [] ds m Q = (WP 162 1 [(0, l0), q1, q2] [(0, l0)] ds m Q) := P_nx k162_0 rfl
set_option maxRecDepth 20000 in
theorem k162_1 : mjCode 162 1 = some (.iconst 1, 1, 0, 0) := by decide +kernel
theorem p162_1 {s0 : Int} {q0 q1 q2 : MV} {ds : Ds} {m : Mm} {Q : Ds → Mm → List MV → Prop} : WP 162 1 [q0, q1, q2] [(0, s0)] ds m Q = (WP 162 2 [q0, q1, q2] [(0, 1), (0, s0)] ds m Q) := P_nx k162_1 rfl
set_option maxRecDepth 20000 in
theorem k162_2 : mjCode 162 2 = some (.iload_n 1, 1, 0, 0) := by decide +kernel
theorem p162_2 {l1 s0 s1 : Int} {q0 q2 : MV} {ds : Ds} {m : Mm} {Q : Ds → Mm → List MV → Prop} : WP 162 2 [q0, (0, l1), q2] [(0, s0), (0, s1)] ds m Q = (WP 162 3 [q0, (0, l1), q2] [(0, l1), (0, s0), (0, s1)] ds m Q) := P_nx k162_2 rfl
set_option maxRecDepth 20000 in
theorem k162_3 : mjCode 162 3 = some (.ishl, 1, 0, 0) := by decide +kernel
theorem p162_3 {s0 s1 s2 : Int} {q0 q1 q2 : MV} {ds : Ds} {m : Mm} {Q : Ds → Mm → List MV → Prop} : WP 162 3 [q0, q1, q2] [(0, s0), (0, s1), (0, s2)] ds m Q = (WP 162 4 [q0, q1, q2] [(0, jshl s1 s0), (0, s2)] ds m Q) := P_nx k162_3 rfl
set_option maxRecDepth 20000 in
theorem k162_4 : mjCode 162 4 = some (.iconst (-1), 1, 0, 0) := by decide +kernel
theorem p162_4 {s0 s1 : Int} {q0 q1 q2 : MV} {ds : Ds} {m : Mm} {Q : Ds → Mm → List MV → Prop} : WP 162 4 [q0, q1, q2] [(0, s0), (0, s1)] ds m Q = (WP 162 5 [q0, q1, q2] [(0, (-1)), (0, s0), (0, s1)] ds m Q) := P_nx k162_4 rfl
set_option maxRecDepth 20000 in
theorem k162_5 : mjCode 162 5 = some (.ixor, 1, 0, 0) := by decide +kernel
theorem p162_5 {s0 s1 s2 : Int} {q0 q1 q2 : MV} {ds : Ds} {m : Mm} {Q : Ds → Mm → List MV → Prop} : WP 162 5 [q0, q1, q2] [(0, s0), (0, s1), (0, s2)] ds m Q = (WP 162 6 [q0, q1, q2] [(0, jxor s1 s0), (0, s2)] ds m Q) := P_nx k162_5 rfl
set_option maxRecDepth 20000 in
theorem k162_6 : mjCode 162 6 = some (.iand, 1, 0, 0) := by decide +kernel
theorem p162_6 {s0 s1 : Int} {q0 q1 q2 : MV} {ds : Ds} {m : Mm} {Q : Ds → Mm → List MV → Prop} : WP 162 6 [q0, q1, q2] [(0, s0), (0, s1)] ds m Q = (WP 162 7 [q0, q1, q2] [(0, jand s1 s0)] ds m Q) := P_nx k162_6 rfl
set_option maxRecDepth 20000 in
theorem k162_7 : mjCode 162 7 = some (.istore_n 2, 1, 0, 0) := by decide +kernel
theorem p162_7 {l1 s0 : Int} {q0 q2 : MV} {ds : Ds} {m : Mm} {Q : Ds → Mm → List MV → Prop} : WP 162 7 [q0, (0, l1), q2] [(0, s0)] ds m Q = (WP 162 8 [q0, (0, l1), (0, s0)] [] ds m Q) := P_nx k162_7 rfl
set_option maxRecDepth 20000 in
theorem k162_8 : mjCode 162 8 = some (.iload_n 2, 1, 0, 0) := by decide +kernel
theorem p162_8 {l2 : Int} {q0 q1 : MV} {ds : Ds} {m : Mm} {Q : Ds → Mm → List MV → Prop} : WP 162 8 [q0, q1, (0, l2)] [] ds m Q = (WP 162 9 [q0, q1, (0, l2)] [(0, l2)] ds m Q) := P_nx k162_8 rfl
set_option maxRecDepth 20000 in
theorem k162_9 : mjCode 162 9 = some (.iconst 1, 1, 0, 0) := by decide +kernel
theorem p162_9 {s0 : Int} {q0 q1 q2 : MV} {ds : Ds} {m : Mm} {Q : Ds → Mm → List MV → Prop} : WP 162 9 [q0, q1, q2] [(0, s0)] ds m Q = (WP 162 10 [q0, q1, q2] [(0, 1), (0, s0)] ds m Q) := P_nx k162_9 rfl
set_option maxRecDepth 20000 in
theorem k162_10 : mjCode 162 10 = some (.if_icmp .ne 7, 3, 17, 0) := by decide +kernel
theorem p162_10 {s0 s1 : Int} {q0 q1 q2 : MV} {ds : Ds} {m : Mm} {Q : Ds → Mm → List MV → Prop} : WP 162 10 [q0, q1, q2] [(0, s0), (0, s1)] ds m Q = (if s1 = s0 then WP 162 13 [q0, q1, q2] [] ds m Q else WP 162 17 [q0, q1, q2] [] ds m Q) := P_if k162_10 rfl
set_option maxRecDepth 20000 in
theorem k162_13 : mjCode 162 13 = some (.iconst 0, 1, 0, 0) := by decide +kernel
theorem p162_13 {q0 q1 q2 : MV} {ds : Ds} {m : Mm} {Q : Ds → Mm → List MV → Prop} : WP 162 13 [q0, q1, q2] [] ds m Q = (WP 162 14 [q0, q1, q2] [(0, 0)] ds m Q) := P_nx k162_13 rfl
set_option maxRecDepth 20000 in
theorem k162_14 : mjCode 162 14 = some (.goto 22, 3, 36, 0) := by decide +kernel
theorem p162_14 {s0 : Int} {q0 q1 q2 : MV} {ds : Ds} {m : Mm} {Q : Ds → Mm → List MV → Prop} : WP 162 14 [q0, q1, q2] [(0, s0)] ds m Q = (WP 162 36 [q0, q1, q2] [(0, s0)] ds m Q) := P_nx k162_14 rfl
set_option maxRecDepth 20000 in
theorem k162_17 : mjCode 162 17 = some (.iload_n 2, 1, 0, 0) := by decide +kernel
theorem p162_17 {l2 : Int} {q0 q1 : MV} {ds : Ds} {m : Mm} {Q : Ds → Mm → List MV → Prop} : WP 162 17 [q0, q1, (0, l2)] [] ds m Q = (WP 162 18 [q0, q1, (0, l2)] [(0, l2)] ds m Q) := P_nx k162_17 rfl
set_option maxRecDepth 20000 in
theorem k162_18 : mjCode 162 18 = some (.iconst 2, 1, 0, 0) := by decide +kernel
theorem p162_18 {s0 : Int} {q0 q1 q2 : MV} {ds : Ds} {m : Mm} {Q : Ds → Mm → List MV → Prop} : WP 162 18 [q0, q1, q2] [(0, s0)] ds m Q = (WP 162 19 [q0, q1, q2] [(0, 2), (0, s0)] ds m Q) := P_nx k162_18 rfl
set_option maxRecDepth 20000 in
theorem k162_19 : mjCode 162 19 = some (.if_icmp .ne 7, 3, 26, 0) := by decide +kernel
theorem p162_19 {s0 s1 : Int} {q0 q1 q2 : MV} {ds : Ds} {m : Mm} {Q : Ds → Mm → List MV → Prop} : WP 162 19 [q0, q1, q2] [(0, s0), (0, s1)] ds m Q = (if s1 = s0 then WP 162 22 [q0, q1, q2] [] ds m Q else WP 162 26 [q0, q1, q2] [] ds m Q) := P_if k162_19 rfl
set_option maxRecDepth 20000 in
theorem k162_22 : mjCode 162 22 = some (.iconst 1, 1, 0, 0) := by decide +kernel
theorem p162_22 {q0 q1 q2 : MV} {ds : Ds} {m : Mm} {Q : Ds → Mm → List MV → Prop} : WP 162 22 [q0, q1, q2] [] ds m Q = (WP 162 23 [q0, q1, q2] [(0, 1)] ds m Q) := P_nx k162_22 rfl
set_option maxRecDepth 20000 in
theorem k162_23 : mjCode 162 23 = some (.goto 13, 3, 36, 0) := by decide +kernel
theorem p162_23 {s0 : Int} {q0 q1 q2 : MV} {ds : Ds} {m : Mm} {Q : Ds → Mm → List MV → Prop} : WP 162 23 [q0, q1, q2] [(0, s0)] ds m Q = (WP 162 36 [q0, q1, q2] [(0, s0)] ds m Q) := P_nx k162_23 rfl
set_option maxRecDepth 20000 in
theorem k162_26 : mjCode 162 26 = some (.iload_n 2, 1, 0, 0) := by decide +kernel
theorem p162_26 {l2 : Int} {q0 q1 : MV} {ds : Ds} {m : Mm} {Q : Ds → Mm → List MV → Prop} : WP 162 26 [q0, q1, (0, l2)] [] ds m Q = (WP 162 27 [q0, q1, (0, l2)] [(0, l2)] ds m Q) := P_nx k162_26 rfl
set_option maxRecDepth 20000 in
theorem k162_27 : mjCode 162 27 = some (.iconst 4, 1, 0, 0) := by decide +kernel
theorem p162_27 {s0 : Int} {q0 q1 q2 : MV} {ds : Ds} {m : Mm} {Q : Ds → Mm → List MV → Prop} : WP 162 27 [q0, q1, q2] [(0, s0)] ds m Q = (WP 162 28 [q0, q1, q2] [(0, 4), (0, s0)] ds m Q) := P_nx k162_27 rfl
set_option maxRecDepth 20000 in
theorem k162_28 : mjCode 162 28 = some (.if_icmp .ne 7, 3, 35, 0) := by decide +kernel
theorem p162_28 {s0 s1 : Int} {q0 q1 q2 : MV} {ds : Ds} {m : Mm} {Q : Ds → Mm → List MV → Prop} : WP 162 28 [q0, q1, q2] [(0, s0), (0, s1)] ds m Q = (if s1 = s0 then WP 162 31 [q0, q1, q2] [] ds m Q else WP 162 35 [q0, q1, q2] [] ds m Q) := P_if k162_28 rfl
set_option maxRecDepth 20000 in
theorem k162_31 : mjCode 162 31 = some (.iconst 2, 1, 0, 0) := by decide +kernel
theorem p162_31 {q0 q1 q2 : MV} {ds : Ds} {m : Mm} {Q : Ds → Mm → List MV → Prop} : WP 162 31 [q0, q1, q2] [] ds m Q = (WP 162 32 [q0, q1, q2] [(0, 2)] ds m Q) := P_nx k162_31 rfl
set_option maxRecDepth 20000 in
theorem k162_32 : mjCode 162 32 = some (.goto 4, 3, 36, 0) := by decide +kernel
theorem p162_32 {s0 : Int} {q0 q1 q2 : MV} {ds : Ds} {m : Mm} {Q : Ds → Mm → List MV → Prop} : WP 162 32 [q0, q1, q2] [(0, s0)] ds m Q = (WP 162 36 [q0, q1, q2] [(0, s0)] ds m Q) := P_nx k162_32 rfl
set_option maxRecDepth 20000 in
theorem k162_35 : mjCode 162 35 = some (.iconst 3, 1, 0, 0) := by decide +kernel
theorem p162_35 {q0 q1 q2 : MV} {ds : Ds} {m : Mm} {Q : Ds → Mm → List MV → Prop} : WP 162 35 [q0, q1, q2] [] ds m Q = (WP 162 36 [q0, q1, q2] [(0, 3)] ds m Q) := P_nx k162_35 rfl
set_option maxRecDepth 20000 in
theorem k162_36 : mjCode 162 36 = some (.ireturn, 1, 0, 0) := by decide +kernel
theorem p162_36 {s0 : Int} {q0 q1 q2 : MV} {ds : Ds} {m : Mm} {Q : Ds → Mm → List MV → Prop} : WP 162 36 [q0, q1, q2] [(0, s0)] ds m Q = (Q ds m [(0, s0)]) := P_ri k162_36 rk162
