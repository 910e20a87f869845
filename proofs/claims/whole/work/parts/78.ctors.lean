-- the small constructors
def lX0_init : List (Nat × Instr × Nat) := [(0, .aload_n 0, 1), (1, .invokespecial 3, 3), (4, .return_, 1)]
set_option maxHeartbeats 4000000 in
theorem DX0_init : x_dec cX0_init lX0_init = true := by decide +kernel
def lX1_init : List (Nat × Instr × Nat) := [(0, .aload_n 0, 1), (1, .invokespecial 3, 3), (4, .aload_n 0, 1), (5, .bipush 12, 2), (7, .newarray .int, 2), (9, .putfield 9, 3), (12, .aload_n 0, 1), (13, .bipush 8, 2), (15, .newarray .int, 2), (17, .putfield 15, 3), (20, .aload_n 0, 1), (21, .bipush 8, 2), (23, .newarray .int, 2), (25, .putfield 18, 3), (28, .aload_n 0, 1), (29, .bipush 8, 2), (31, .newarray .int, 2), (33, .putfield 21, 3), (36, .aload_n 0, 1), (37, .bipush 9, 2), (39, .newarray .int, 2), (41, .putfield 24, 3), (44, .aload_n 0, 1), (45, .bipush 9, 2), (47, .newarray .int, 2), (49, .putfield 27, 3), (52, .aload_n 0, 1), (53, .bipush 9, 2), (55, .newarray .int, 2), (57, .putfield 30, 3), (60, .return_, 1)]
set_option maxHeartbeats 4000000 in
theorem DX1_init : x_dec cX1_init lX1_init = true := by decide +kernel
def lX2_init : List (Nat × Instr × Nat) := [(0, .aload_n 0, 1), (1, .invokespecial 3, 3), (4, .aload_n 0, 1), (5, .bipush 12, 2), (7, .newarray .int, 2), (9, .putfield 9, 3), (12, .aload_n 0, 1), (13, .bipush 12, 2), (15, .newarray .int, 2), (17, .putfield 15, 3), (20, .aload_n 0, 1), (21, .bipush 8, 2), (23, .newarray .int, 2), (25, .putfield 18, 3), (28, .aload_n 0, 1), (29, .bipush 8, 2), (31, .newarray .int, 2), (33, .putfield 21, 3), (36, .aload_n 0, 1), (37, .bipush 8, 2), (39, .newarray .int, 2), (41, .putfield 24, 3), (44, .aload_n 0, 1), (45, .bipush 8, 2), (47, .newarray .int, 2), (49, .putfield 27, 3), (52, .aload_n 0, 1), (53, .bipush 8, 2), (55, .newarray .boolean, 2), (57, .putfield 30, 3), (60, .aload_n 0, 1), (61, .bipush 8, 2), (63, .newarray .int, 2), (65, .putfield 34, 3), (68, .aload_n 0, 1), (69, .bipush 20, 2), (71, .bipush 12, 2), (73, .multianewarray 37 2, 4), (77, .putfield 39, 3), (80, .aload_n 0, 1), (81, .bipush 20, 2), (83, .bipush 12, 2), (85, .multianewarray 37 2, 4), (89, .putfield 42, 3), (92, .aload_n 0, 1), (93, .bipush 20, 2), (95, .bipush 8, 2), (97, .multianewarray 37 2, 4), (101, .putfield 45, 3), (104, .aload_n 0, 1), (105, .bipush 20, 2), (107, .bipush 8, 2), (109, .multianewarray 37 2, 4), (113, .putfield 48, 3), (116, .aload_n 0, 1), (117, .bipush 20, 2), (119, .bipush 8, 2), (121, .multianewarray 37 2, 4), (125, .putfield 51, 3), (128, .aload_n 0, 1), (129, .bipush 20, 2), (131, .bipush 8, 2), (133, .multianewarray 37 2, 4), (137, .putfield 54, 3), (140, .aload_n 0, 1), (141, .bipush 20, 2), (143, .newarray .int, 2), (145, .putfield 57, 3), (148, .aload_n 0, 1), (149, .bipush 20, 2), (151, .newarray .int, 2), (153, .putfield 60, 3), (156, .return_, 1)]
set_option maxHeartbeats 4000000 in
theorem DX2_init : x_dec cX2_init lX2_init = true := by decide +kernel
def lX3_init : List (Nat × Instr × Nat) := [(0, .aload_n 0, 1), (1, .invokespecial 3, 3), (4, .aload_n 0, 1), (5, .bipush 60, 2), (7, .newarray .int, 2), (9, .putfield 9, 3), (12, .aload_n 0, 1), (13, .iconst (-1), 1), (14, .putfield 15, 3), (17, .return_, 1)]
set_option maxHeartbeats 4000000 in
theorem DX3_init : x_dec cX3_init lX3_init = true := by decide +kernel
def lX4_init : List (Nat × Instr × Nat) := [(0, .aload_n 0, 1), (1, .invokespecial 3, 3), (4, .aload_n 0, 1), (5, .bipush 8, 2), (7, .newarray .int, 2), (9, .putfield 9, 3), (12, .aload_n 0, 1), (13, .bipush 8, 2), (15, .newarray .int, 2), (17, .putfield 15, 3), (20, .aload_n 0, 1), (21, .bipush 8, 2), (23, .newarray .int, 2), (25, .putfield 18, 3), (28, .return_, 1)]
set_option maxHeartbeats 4000000 in
theorem DX4_init : x_dec cX4_init lX4_init = true := by decide +kernel
def lX5_init : List (Nat × Instr × Nat) := [(0, .aload_n 0, 1), (1, .invokespecial 3, 3), (4, .aload_n 0, 1), (5, .iload_n 1, 1), (6, .iconst 0, 1), (7, .invokestatic 9, 3), (10, .newarray .int, 2), (12, .putfield 15, 3), (15, .return_, 1)]
set_option maxHeartbeats 4000000 in
theorem DX5_init : x_dec cX5_init lX5_init = true := by decide +kernel
def lX7_init : List (Nat × Instr × Nat) := [(0, .aload_n 0, 1), (1, .invokespecial 1, 3), (4, .aload_n 0, 1), (5, .iconst 2, 1), (6, .newarray .int, 2), (8, .putfield 7, 3), (11, .aload_n 0, 1), (12, .bipush 62, 2), (14, .newarray .int, 2), (16, .putfield 13, 3), (19, .aload_n 0, 1), (20, .bipush 12, 2), (22, .newarray .int, 2), (24, .putfield 16, 3), (27, .aload_n 0, 1), (28, .bipush 9, 2), (30, .newarray .int, 2), (32, .putfield 19, 3), (35, .aload_n 0, 1), (36, .bipush 9, 2), (38, .newarray .int, 2), (40, .putfield 22, 3), (43, .aload_n 0, 1), (44, .bipush 9, 2), (46, .newarray .int, 2), (48, .putfield 25, 3), (51, .aload_n 0, 1), (52, .bipush 9, 2), (54, .newarray .int, 2), (56, .putfield 28, 3), (59, .aload_n 0, 1), (60, .bipush 9, 2), (62, .newarray .int, 2), (64, .putfield 31, 3), (67, .aload_n 0, 1), (68, .bipush 9, 2), (70, .newarray .int, 2), (72, .putfield 34, 3), (75, .aload_n 0, 1), (76, .bipush 9, 2), (78, .newarray .int, 2), (80, .putfield 37, 3), (83, .aload_n 0, 1), (84, .bipush 9, 2), (86, .newarray .int, 2), (88, .putfield 40, 3), (91, .aload_n 0, 1), (92, .bipush 9, 2), (94, .newarray .int, 2), (96, .putfield 43, 3), (99, .aload_n 0, 1), (100, .bipush 12, 2), (102, .newarray .int, 2), (104, .putfield 46, 3), (107, .aload_n 0, 1), (108, .bipush 8, 2), (110, .newarray .int, 2), (112, .putfield 49, 3), (115, .aload_n 0, 1), (116, .bipush 8, 2), (118, .newarray .int, 2), (120, .putfield 52, 3), (123, .aload_n 0, 1), (124, .bipush 8, 2), (126, .newarray .int, 2), (128, .putfield 55, 3), (131, .aload_n 0, 1), (132, .bipush 8, 2), (134, .newarray .int, 2), (136, .putfield 58, 3), (139, .aload_n 0, 1), (140, .sipush 240, 3), (143, .newarray .int, 2), (145, .putfield 61, 3), (148, .aload_n 0, 1), (149, .sipush 160, 3), (152, .newarray .int, 2), (154, .putfield 64, 3), (157, .aload_n 0, 1), (158, .sipush 160, 3), (161, .newarray .int, 2), (163, .putfield 67, 3), (166, .aload_n 0, 1), (167, .sipush 160, 3), (170, .newarray .int, 2), (172, .putfield 70, 3), (175, .aload_n 0, 1), (176, .bipush 20, 2), (178, .newarray .int, 2), (180, .putfield 73, 3), (183, .aload_n 0, 1), (184, .bipush 20, 2), (186, .newarray .int, 2), (188, .putfield 76, 3), (191, .aload_n 0, 1), (192, .bipush 20, 2), (194, .newarray .int, 2), (196, .putfield 79, 3), (199, .aload_n 0, 1), (200, .iconst 2, 1), (201, .newarray .int, 2), (203, .putfield 82, 3), (206, .aload_n 0, 1), (207, .bipush 8, 2), (209, .newarray .int, 2), (211, .putfield 85, 3), (214, .aload_n 0, 1), (215, .bipush 8, 2), (217, .newarray .int, 2), (219, .putfield 88, 3), (222, .aload_n 0, 1), (223, .bipush 8, 2), (225, .newarray .int, 2), (227, .putfield 91, 3), (230, .aload_n 0, 1), (231, .sipush 200, 3), (234, .newarray .int, 2), (236, .putfield 94, 3), (239, .aload_n 0, 1), (240, .iconst 4, 1), (241, .newarray .boolean, 2), (243, .putfield 97, 3), (246, .aload_n 0, 1), (247, .iconst 4, 1), (248, .newarray .int, 2), (250, .putfield 101, 3), (253, .aload_n 0, 1), (254, .iconst 4, 1), (255, .newarray .int, 2), (257, .putfield 104, 3), (260, .aload_n 0, 1), (261, .sipush 240, 3), (264, .newarray .int, 2), (266, .putfield 107, 3), (269, .aload_n 0, 1), (270, .bipush 60, 2), (272, .newarray .int, 2), (274, .putfield 110, 3), (277, .return_, 1)]
set_option maxHeartbeats 4000000 in
theorem DX7_init : x_dec cX7_init lX7_init = true := by decide +kernel
set_option maxRecDepth 100000 in
set_option maxHeartbeats 4000000 in
theorem c_o1 {G : xG} {l : Launch} {b : Nat} : CC G l yX5_init cX5_init 2 1 14 5 (b + 1) (b + 2) [.int 12] (cD G 5 (b + 1) (b + 2) (fun k => rowE G b s0 (2 + k)) [.ref (b + 2), .int 0] 1) [.null, .int 0] 1 12 := by
  refine CC_of (rows := fun k => rowE G b s0 (2 + k)) [(0, .ref (b + 1)), (1, .int 12)] (by decide +kernel) rfl rfl (Nat.le_of_ble_eq_true rfl) ?_
  intro E hG hl hK hN X XZ
  subst hG
  replace X : CX E cX5_init 2 RX5 1 14 (b + 1) (b + 2) := X
  refine j_aload_n X (x_dr DX5_init 0 rfl) 0 rfl rfl ?_
  refine j_super X ml_5_3 ⟨Nat.le_of_ble_eq_true rfl, Nat.le_of_ble_eq_true rfl⟩ (x_dr DX5_init 1 rfl) ?_
  refine j_aload_n X (x_dr DX5_init 2 rfl) 0 rfl rfl ?_
  refine j_iload_n X (x_dr DX5_init 3 rfl) 1 rfl rfl ?_
  refine j_iconst (v := 0) X (x_dr DX5_init 4 rfl) (by decide) ?_
  refine j_mmax X ml_5_9 ⟨Nat.le_of_ble_eq_true rfl, Nat.le_of_ble_eq_true rfl⟩ (by omega) (by omega) (x_dr DX5_init 5 rfl) ?_
  show JC E _ _ _ _ _ _ [.int 12, .ref (b + 1)] _ _ _ _
  refine j_newi (m := 12) X (x_dr DX5_init 6 rfl) rfl (by omega) (rowE_a (K := 2) (o := 1) (k := 0) (by decide) rfl) (by omega) (by omega) ?_
  show JC E 5 (b + 1) (b + 2) _ 12 _ [.ref (b + 2), .ref (b + 1)] [.null, .int 0] 1 1 12
  refine j_putF X rfl inX5 tyX5 tyX5_ok nmX5 0 (by decide) rfl mf_5_15 rfl (ty := .array .int) (by decide +kernel) rfl rfl (show _ from Nat.le_of_ble_eq_true rfl) (x_dr DX5_init 7 rfl) ?_
  show JC E 5 (b + 1) (b + 2) _ 15 _ [] [.ref (b + 2), .int 0] 1 1 12
  exact j_vret X XZ hK.symm hN.symm (x_dr DX5_init 8 rfl)
set_option maxRecDepth 100000 in
set_option maxHeartbeats 4000000 in
theorem c_o2 {G : xG} {l : Launch} {b : Nat} : CC G l yX5_init cX5_init 2 1 14 5 (b + 3) (b + 4) [.int 31] (cD G 5 (b + 3) (b + 4) (fun k => rowE G b s0 (4 + k)) [.ref (b + 4), .int 0] 1) [.null, .int 0] 1 31 := by
  refine CC_of (rows := fun k => rowE G b s0 (4 + k)) [(0, .ref (b + 3)), (1, .int 31)] (by decide +kernel) rfl rfl (Nat.le_of_ble_eq_true rfl) ?_
  intro E hG hl hK hN X XZ
  subst hG
  replace X : CX E cX5_init 2 RX5 1 14 (b + 3) (b + 4) := X
  refine j_aload_n X (x_dr DX5_init 0 rfl) 0 rfl rfl ?_
  refine j_super X ml_5_3 ⟨Nat.le_of_ble_eq_true rfl, Nat.le_of_ble_eq_true rfl⟩ (x_dr DX5_init 1 rfl) ?_
  refine j_aload_n X (x_dr DX5_init 2 rfl) 0 rfl rfl ?_
  refine j_iload_n X (x_dr DX5_init 3 rfl) 1 rfl rfl ?_
  refine j_iconst (v := 0) X (x_dr DX5_init 4 rfl) (by decide) ?_
  refine j_mmax X ml_5_9 ⟨Nat.le_of_ble_eq_true rfl, Nat.le_of_ble_eq_true rfl⟩ (by omega) (by omega) (x_dr DX5_init 5 rfl) ?_
  show JC E _ _ _ _ _ _ [.int 31, .ref (b + 3)] _ _ _ _
  refine j_newi (m := 31) X (x_dr DX5_init 6 rfl) rfl (by omega) (rowE_a (K := 4) (o := 2) (k := 0) (by decide) rfl) (by omega) (by omega) ?_
  show JC E 5 (b + 3) (b + 4) _ 12 _ [.ref (b + 4), .ref (b + 3)] [.null, .int 0] 1 1 31
  refine j_putF X rfl inX5 tyX5 tyX5_ok nmX5 0 (by decide) rfl mf_5_15 rfl (ty := .array .int) (by decide +kernel) rfl rfl (show _ from Nat.le_of_ble_eq_true rfl) (x_dr DX5_init 7 rfl) ?_
  show JC E 5 (b + 3) (b + 4) _ 15 _ [] [.ref (b + 4), .int 0] 1 1 31
  exact j_vret X XZ hK.symm hN.symm (x_dr DX5_init 8 rfl)
set_option maxRecDepth 100000 in
set_option maxHeartbeats 4000000 in
theorem c_o3 {G : xG} {l : Launch} {b : Nat} : CC G l yX1_init cX1_init 1 1 12 1 (b + 5) (b + 6) [] (cD G 1 (b + 5) (b + 6) (fun k => rowE G b s0 (6 + k)) [.ref (b + 6), .ref (b + 7), .ref (b + 8), .ref (b + 9), .int 0, .ref (b + 10), .ref (b + 11), .ref (b + 12), .int 0] 7) [.null, .null, .null, .null, .int 0, .null, .null, .null, .int 0] 7 63 := by
  refine CC_of (rows := fun k => rowE G b s0 (6 + k)) [(0, .ref (b + 5))] (by decide +kernel) rfl rfl (Nat.le_of_ble_eq_true rfl) ?_
  intro E hG hl hK hN X XZ
  subst hG
  replace X : CX E cX1_init 1 RX1 1 12 (b + 5) (b + 6) := X
  refine j_aload_n X (x_dr DX1_init 0 rfl) 0 rfl rfl ?_
  refine j_super X ml_1_3 ⟨Nat.le_of_ble_eq_true rfl, Nat.le_of_ble_eq_true rfl⟩ (x_dr DX1_init 1 rfl) ?_
  refine j_aload_n X (x_dr DX1_init 2 rfl) 0 rfl rfl ?_
  refine j_bipush (v := 12) X (x_dr DX1_init 3 rfl) (by decide) ?_
  refine j_newi (m := 12) X (x_dr DX1_init 4 rfl) rfl (by omega) (rowE_a (K := 6) (o := 3) (k := 0) (by decide) rfl) (by omega) (by omega) ?_
  show JC E 1 (b + 5) (b + 6) _ 9 _ [.ref (b + 6), .ref (b + 5)] [.null, .null, .null, .null, .int 0, .null, .null, .null, .int 0] 1 1 12
  refine j_putF X rfl inX1 tyX1 tyX1_ok nmX1 0 (by decide) rfl mf_1_9 rfl (ty := .array .int) (by decide +kernel) rfl rfl (show _ from Nat.le_of_ble_eq_true rfl) (x_dr DX1_init 5 rfl) ?_
  show JC E 1 (b + 5) (b + 6) _ 12 _ [] [.ref (b + 6), .null, .null, .null, .int 0, .null, .null, .null, .int 0] 1 1 12
  refine j_aload_n X (x_dr DX1_init 6 rfl) 0 rfl rfl ?_
  refine j_bipush (v := 8) X (x_dr DX1_init 7 rfl) (by decide) ?_
  refine j_newi (m := 8) X (x_dr DX1_init 8 rfl) rfl (by omega) (rowE_a (K := 7) (o := 3) (k := 1) (by decide) rfl) (by omega) (by omega) ?_
  show JC E 1 (b + 5) (b + 6) _ 17 _ [.ref (b + 7), .ref (b + 5)] [.ref (b + 6), .null, .null, .null, .int 0, .null, .null, .null, .int 0] 2 2 20
  refine j_putF X rfl inX1 tyX1 tyX1_ok nmX1 1 (by decide) rfl mf_1_15 rfl (ty := .array .int) (by decide +kernel) rfl rfl (show _ from Nat.le_of_ble_eq_true rfl) (x_dr DX1_init 9 rfl) ?_
  show JC E 1 (b + 5) (b + 6) _ 20 _ [] [.ref (b + 6), .ref (b + 7), .null, .null, .int 0, .null, .null, .null, .int 0] 2 2 20
  refine j_aload_n X (x_dr DX1_init 10 rfl) 0 rfl rfl ?_
  refine j_bipush (v := 8) X (x_dr DX1_init 11 rfl) (by decide) ?_
  refine j_newi (m := 8) X (x_dr DX1_init 12 rfl) rfl (by omega) (rowE_a (K := 8) (o := 3) (k := 2) (by decide) rfl) (by omega) (by omega) ?_
  show JC E 1 (b + 5) (b + 6) _ 25 _ [.ref (b + 8), .ref (b + 5)] [.ref (b + 6), .ref (b + 7), .null, .null, .int 0, .null, .null, .null, .int 0] 3 3 28
  refine j_putF X rfl inX1 tyX1 tyX1_ok nmX1 2 (by decide) rfl mf_1_18 rfl (ty := .array .int) (by decide +kernel) rfl rfl (show _ from Nat.le_of_ble_eq_true rfl) (x_dr DX1_init 13 rfl) ?_
  show JC E 1 (b + 5) (b + 6) _ 28 _ [] [.ref (b + 6), .ref (b + 7), .ref (b + 8), .null, .int 0, .null, .null, .null, .int 0] 3 3 28
  refine j_aload_n X (x_dr DX1_init 14 rfl) 0 rfl rfl ?_
  refine j_bipush (v := 8) X (x_dr DX1_init 15 rfl) (by decide) ?_
  refine j_newi (m := 8) X (x_dr DX1_init 16 rfl) rfl (by omega) (rowE_a (K := 9) (o := 3) (k := 3) (by decide) rfl) (by omega) (by omega) ?_
  show JC E 1 (b + 5) (b + 6) _ 33 _ [.ref (b + 9), .ref (b + 5)] [.ref (b + 6), .ref (b + 7), .ref (b + 8), .null, .int 0, .null, .null, .null, .int 0] 4 4 36
  refine j_putF X rfl inX1 tyX1 tyX1_ok nmX1 3 (by decide) rfl mf_1_21 rfl (ty := .array .int) (by decide +kernel) rfl rfl (show _ from Nat.le_of_ble_eq_true rfl) (x_dr DX1_init 17 rfl) ?_
  show JC E 1 (b + 5) (b + 6) _ 36 _ [] [.ref (b + 6), .ref (b + 7), .ref (b + 8), .ref (b + 9), .int 0, .null, .null, .null, .int 0] 4 4 36
  refine j_aload_n X (x_dr DX1_init 18 rfl) 0 rfl rfl ?_
  refine j_bipush (v := 9) X (x_dr DX1_init 19 rfl) (by decide) ?_
  refine j_newi (m := 9) X (x_dr DX1_init 20 rfl) rfl (by omega) (rowE_a (K := 10) (o := 3) (k := 5) (by decide) rfl) (by omega) (by omega) ?_
  show JC E 1 (b + 5) (b + 6) _ 41 _ [.ref (b + 10), .ref (b + 5)] [.ref (b + 6), .ref (b + 7), .ref (b + 8), .ref (b + 9), .int 0, .null, .null, .null, .int 0] 5 5 45
  refine j_putF X rfl inX1 tyX1 tyX1_ok nmX1 5 (by decide) rfl mf_1_24 rfl (ty := .array .int) (by decide +kernel) rfl rfl (show _ from Nat.le_of_ble_eq_true rfl) (x_dr DX1_init 21 rfl) ?_
  show JC E 1 (b + 5) (b + 6) _ 44 _ [] [.ref (b + 6), .ref (b + 7), .ref (b + 8), .ref (b + 9), .int 0, .ref (b + 10), .null, .null, .int 0] 5 5 45
  refine j_aload_n X (x_dr DX1_init 22 rfl) 0 rfl rfl ?_
  refine j_bipush (v := 9) X (x_dr DX1_init 23 rfl) (by decide) ?_
  refine j_newi (m := 9) X (x_dr DX1_init 24 rfl) rfl (by omega) (rowE_a (K := 11) (o := 3) (k := 6) (by decide) rfl) (by omega) (by omega) ?_
  show JC E 1 (b + 5) (b + 6) _ 49 _ [.ref (b + 11), .ref (b + 5)] [.ref (b + 6), .ref (b + 7), .ref (b + 8), .ref (b + 9), .int 0, .ref (b + 10), .null, .null, .int 0] 6 6 54
  refine j_putF X rfl inX1 tyX1 tyX1_ok nmX1 6 (by decide) rfl mf_1_27 rfl (ty := .array .int) (by decide +kernel) rfl rfl (show _ from Nat.le_of_ble_eq_true rfl) (x_dr DX1_init 25 rfl) ?_
  show JC E 1 (b + 5) (b + 6) _ 52 _ [] [.ref (b + 6), .ref (b + 7), .ref (b + 8), .ref (b + 9), .int 0, .ref (b + 10), .ref (b + 11), .null, .int 0] 6 6 54
  refine j_aload_n X (x_dr DX1_init 26 rfl) 0 rfl rfl ?_
  refine j_bipush (v := 9) X (x_dr DX1_init 27 rfl) (by decide) ?_
  refine j_newi (m := 9) X (x_dr DX1_init 28 rfl) rfl (by omega) (rowE_a (K := 12) (o := 3) (k := 7) (by decide) rfl) (by omega) (by omega) ?_
  show JC E 1 (b + 5) (b + 6) _ 57 _ [.ref (b + 12), .ref (b + 5)] [.ref (b + 6), .ref (b + 7), .ref (b + 8), .ref (b + 9), .int 0, .ref (b + 10), .ref (b + 11), .null, .int 0] 7 7 63
  refine j_putF X rfl inX1 tyX1 tyX1_ok nmX1 7 (by decide) rfl mf_1_30 rfl (ty := .array .int) (by decide +kernel) rfl rfl (show _ from Nat.le_of_ble_eq_true rfl) (x_dr DX1_init 29 rfl) ?_
  show JC E 1 (b + 5) (b + 6) _ 60 _ [] [.ref (b + 6), .ref (b + 7), .ref (b + 8), .ref (b + 9), .int 0, .ref (b + 10), .ref (b + 11), .ref (b + 12), .int 0] 7 7 63
  exact j_vret X XZ hK.symm hN.symm (x_dr DX1_init 30 rfl)
set_option maxRecDepth 100000 in
set_option maxHeartbeats 4000000 in
theorem c_o4 {G : xG} {l : Launch} {b : Nat} : CC G l yX1_init cX1_init 1 1 12 1 (b + 13) (b + 14) [] (cD G 1 (b + 13) (b + 14) (fun k => rowE G b s0 (14 + k)) [.ref (b + 14), .ref (b + 15), .ref (b + 16), .ref (b + 17), .int 0, .ref (b + 18), .ref (b + 19), .ref (b + 20), .int 0] 7) [.null, .null, .null, .null, .int 0, .null, .null, .null, .int 0] 7 63 := by
  refine CC_of (rows := fun k => rowE G b s0 (14 + k)) [(0, .ref (b + 13))] (by decide +kernel) rfl rfl (Nat.le_of_ble_eq_true rfl) ?_
  intro E hG hl hK hN X XZ
  subst hG
  replace X : CX E cX1_init 1 RX1 1 12 (b + 13) (b + 14) := X
  refine j_aload_n X (x_dr DX1_init 0 rfl) 0 rfl rfl ?_
  refine j_super X ml_1_3 ⟨Nat.le_of_ble_eq_true rfl, Nat.le_of_ble_eq_true rfl⟩ (x_dr DX1_init 1 rfl) ?_
  refine j_aload_n X (x_dr DX1_init 2 rfl) 0 rfl rfl ?_
  refine j_bipush (v := 12) X (x_dr DX1_init 3 rfl) (by decide) ?_
  refine j_newi (m := 12) X (x_dr DX1_init 4 rfl) rfl (by omega) (rowE_a (K := 14) (o := 4) (k := 0) (by decide) rfl) (by omega) (by omega) ?_
  show JC E 1 (b + 13) (b + 14) _ 9 _ [.ref (b + 14), .ref (b + 13)] [.null, .null, .null, .null, .int 0, .null, .null, .null, .int 0] 1 1 12
  refine j_putF X rfl inX1 tyX1 tyX1_ok nmX1 0 (by decide) rfl mf_1_9 rfl (ty := .array .int) (by decide +kernel) rfl rfl (show _ from Nat.le_of_ble_eq_true rfl) (x_dr DX1_init 5 rfl) ?_
  show JC E 1 (b + 13) (b + 14) _ 12 _ [] [.ref (b + 14), .null, .null, .null, .int 0, .null, .null, .null, .int 0] 1 1 12
  refine j_aload_n X (x_dr DX1_init 6 rfl) 0 rfl rfl ?_
  refine j_bipush (v := 8) X (x_dr DX1_init 7 rfl) (by decide) ?_
  refine j_newi (m := 8) X (x_dr DX1_init 8 rfl) rfl (by omega) (rowE_a (K := 15) (o := 4) (k := 1) (by decide) rfl) (by omega) (by omega) ?_
  show JC E 1 (b + 13) (b + 14) _ 17 _ [.ref (b + 15), .ref (b + 13)] [.ref (b + 14), .null, .null, .null, .int 0, .null, .null, .null, .int 0] 2 2 20
  refine j_putF X rfl inX1 tyX1 tyX1_ok nmX1 1 (by decide) rfl mf_1_15 rfl (ty := .array .int) (by decide +kernel) rfl rfl (show _ from Nat.le_of_ble_eq_true rfl) (x_dr DX1_init 9 rfl) ?_
  show JC E 1 (b + 13) (b + 14) _ 20 _ [] [.ref (b + 14), .ref (b + 15), .null, .null, .int 0, .null, .null, .null, .int 0] 2 2 20
  refine j_aload_n X (x_dr DX1_init 10 rfl) 0 rfl rfl ?_
  refine j_bipush (v := 8) X (x_dr DX1_init 11 rfl) (by decide) ?_
  refine j_newi (m := 8) X (x_dr DX1_init 12 rfl) rfl (by omega) (rowE_a (K := 16) (o := 4) (k := 2) (by decide) rfl) (by omega) (by omega) ?_
  show JC E 1 (b + 13) (b + 14) _ 25 _ [.ref (b + 16), .ref (b + 13)] [.ref (b + 14), .ref (b + 15), .null, .null, .int 0, .null, .null, .null, .int 0] 3 3 28
  refine j_putF X rfl inX1 tyX1 tyX1_ok nmX1 2 (by decide) rfl mf_1_18 rfl (ty := .array .int) (by decide +kernel) rfl rfl (show _ from Nat.le_of_ble_eq_true rfl) (x_dr DX1_init 13 rfl) ?_
  show JC E 1 (b + 13) (b + 14) _ 28 _ [] [.ref (b + 14), .ref (b + 15), .ref (b + 16), .null, .int 0, .null, .null, .null, .int 0] 3 3 28
  refine j_aload_n X (x_dr DX1_init 14 rfl) 0 rfl rfl ?_
  refine j_bipush (v := 8) X (x_dr DX1_init 15 rfl) (by decide) ?_
  refine j_newi (m := 8) X (x_dr DX1_init 16 rfl) rfl (by omega) (rowE_a (K := 17) (o := 4) (k := 3) (by decide) rfl) (by omega) (by omega) ?_
  show JC E 1 (b + 13) (b + 14) _ 33 _ [.ref (b + 17), .ref (b + 13)] [.ref (b + 14), .ref (b + 15), .ref (b + 16), .null, .int 0, .null, .null, .null, .int 0] 4 4 36
  refine j_putF X rfl inX1 tyX1 tyX1_ok nmX1 3 (by decide) rfl mf_1_21 rfl (ty := .array .int) (by decide +kernel) rfl rfl (show _ from Nat.le_of_ble_eq_true rfl) (x_dr DX1_init 17 rfl) ?_
  show JC E 1 (b + 13) (b + 14) _ 36 _ [] [.ref (b + 14), .ref (b + 15), .ref (b + 16), .ref (b + 17), .int 0, .null, .null, .null, .int 0] 4 4 36
  refine j_aload_n X (x_dr DX1_init 18 rfl) 0 rfl rfl ?_
  refine j_bipush (v := 9) X (x_dr DX1_init 19 rfl) (by decide) ?_
  refine j_newi (m := 9) X (x_dr DX1_init 20 rfl) rfl (by omega) (rowE_a (K := 18) (o := 4) (k := 5) (by decide) rfl) (by omega) (by omega) ?_
  show JC E 1 (b + 13) (b + 14) _ 41 _ [.ref (b + 18), .ref (b + 13)] [.ref (b + 14), .ref (b + 15), .ref (b + 16), .ref (b + 17), .int 0, .null, .null, .null, .int 0] 5 5 45
  refine j_putF X rfl inX1 tyX1 tyX1_ok nmX1 5 (by decide) rfl mf_1_24 rfl (ty := .array .int) (by decide +kernel) rfl rfl (show _ from Nat.le_of_ble_eq_true rfl) (x_dr DX1_init 21 rfl) ?_
  show JC E 1 (b + 13) (b + 14) _ 44 _ [] [.ref (b + 14), .ref (b + 15), .ref (b + 16), .ref (b + 17), .int 0, .ref (b + 18), .null, .null, .int 0] 5 5 45
  refine j_aload_n X (x_dr DX1_init 22 rfl) 0 rfl rfl ?_
  refine j_bipush (v := 9) X (x_dr DX1_init 23 rfl) (by decide) ?_
  refine j_newi (m := 9) X (x_dr DX1_init 24 rfl) rfl (by omega) (rowE_a (K := 19) (o := 4) (k := 6) (by decide) rfl) (by omega) (by omega) ?_
  show JC E 1 (b + 13) (b + 14) _ 49 _ [.ref (b + 19), .ref (b + 13)] [.ref (b + 14), .ref (b + 15), .ref (b + 16), .ref (b + 17), .int 0, .ref (b + 18), .null, .null, .int 0] 6 6 54
  refine j_putF X rfl inX1 tyX1 tyX1_ok nmX1 6 (by decide) rfl mf_1_27 rfl (ty := .array .int) (by decide +kernel) rfl rfl (show _ from Nat.le_of_ble_eq_true rfl) (x_dr DX1_init 25 rfl) ?_
  show JC E 1 (b + 13) (b + 14) _ 52 _ [] [.ref (b + 14), .ref (b + 15), .ref (b + 16), .ref (b + 17), .int 0, .ref (b + 18), .ref (b + 19), .null, .int 0] 6 6 54
  refine j_aload_n X (x_dr DX1_init 26 rfl) 0 rfl rfl ?_
  refine j_bipush (v := 9) X (x_dr DX1_init 27 rfl) (by decide) ?_
  refine j_newi (m := 9) X (x_dr DX1_init 28 rfl) rfl (by omega) (rowE_a (K := 20) (o := 4) (k := 7) (by decide) rfl) (by omega) (by omega) ?_
  show JC E 1 (b + 13) (b + 14) _ 57 _ [.ref (b + 20), .ref (b + 13)] [.ref (b + 14), .ref (b + 15), .ref (b + 16), .ref (b + 17), .int 0, .ref (b + 18), .ref (b + 19), .null, .int 0] 7 7 63
  refine j_putF X rfl inX1 tyX1 tyX1_ok nmX1 7 (by decide) rfl mf_1_30 rfl (ty := .array .int) (by decide +kernel) rfl rfl (show _ from Nat.le_of_ble_eq_true rfl) (x_dr DX1_init 29 rfl) ?_
  show JC E 1 (b + 13) (b + 14) _ 60 _ [] [.ref (b + 14), .ref (b + 15), .ref (b + 16), .ref (b + 17), .int 0, .ref (b + 18), .ref (b + 19), .ref (b + 20), .int 0] 7 7 63
  exact j_vret X XZ hK.symm hN.symm (x_dr DX1_init 30 rfl)
set_option maxRecDepth 100000 in
set_option maxHeartbeats 4000000 in
theorem c_o7 {G : xG} {l : Launch} {b : Nat} : CC G l yX4_init cX4_init 1 1 12 4 (b + 295) (b + 296) [] (cD G 4 (b + 295) (b + 296) (fun k => rowE G b s0 (296 + k)) [.ref (b + 296), .ref (b + 297), .ref (b + 298), .int 0] 3) [.null, .null, .null, .int 0] 3 24 := by
  refine CC_of (rows := fun k => rowE G b s0 (296 + k)) [(0, .ref (b + 295))] (by decide +kernel) rfl rfl (Nat.le_of_ble_eq_true rfl) ?_
  intro E hG hl hK hN X XZ
  subst hG
  replace X : CX E cX4_init 1 RX4 1 12 (b + 295) (b + 296) := X
  refine j_aload_n X (x_dr DX4_init 0 rfl) 0 rfl rfl ?_
  refine j_super X ml_4_3 ⟨Nat.le_of_ble_eq_true rfl, Nat.le_of_ble_eq_true rfl⟩ (x_dr DX4_init 1 rfl) ?_
  refine j_aload_n X (x_dr DX4_init 2 rfl) 0 rfl rfl ?_
  refine j_bipush (v := 8) X (x_dr DX4_init 3 rfl) (by decide) ?_
  refine j_newi (m := 8) X (x_dr DX4_init 4 rfl) rfl (by omega) (rowE_a (K := 296) (o := 7) (k := 0) (by decide) rfl) (by omega) (by omega) ?_
  show JC E 4 (b + 295) (b + 296) _ 9 _ [.ref (b + 296), .ref (b + 295)] [.null, .null, .null, .int 0] 1 1 8
  refine j_putF X rfl inX4 tyX4 tyX4_ok nmX4 0 (by decide) rfl mf_4_9 rfl (ty := .array .int) (by decide +kernel) rfl rfl (show _ from Nat.le_of_ble_eq_true rfl) (x_dr DX4_init 5 rfl) ?_
  show JC E 4 (b + 295) (b + 296) _ 12 _ [] [.ref (b + 296), .null, .null, .int 0] 1 1 8
  refine j_aload_n X (x_dr DX4_init 6 rfl) 0 rfl rfl ?_
  refine j_bipush (v := 8) X (x_dr DX4_init 7 rfl) (by decide) ?_
  refine j_newi (m := 8) X (x_dr DX4_init 8 rfl) rfl (by omega) (rowE_a (K := 297) (o := 7) (k := 1) (by decide) rfl) (by omega) (by omega) ?_
  show JC E 4 (b + 295) (b + 296) _ 17 _ [.ref (b + 297), .ref (b + 295)] [.ref (b + 296), .null, .null, .int 0] 2 2 16
  refine j_putF X rfl inX4 tyX4 tyX4_ok nmX4 1 (by decide) rfl mf_4_15 rfl (ty := .array .int) (by decide +kernel) rfl rfl (show _ from Nat.le_of_ble_eq_true rfl) (x_dr DX4_init 9 rfl) ?_
  show JC E 4 (b + 295) (b + 296) _ 20 _ [] [.ref (b + 296), .ref (b + 297), .null, .int 0] 2 2 16
  refine j_aload_n X (x_dr DX4_init 10 rfl) 0 rfl rfl ?_
  refine j_bipush (v := 8) X (x_dr DX4_init 11 rfl) (by decide) ?_
  refine j_newi (m := 8) X (x_dr DX4_init 12 rfl) rfl (by omega) (rowE_a (K := 298) (o := 7) (k := 2) (by decide) rfl) (by omega) (by omega) ?_
  show JC E 4 (b + 295) (b + 296) _ 25 _ [.ref (b + 298), .ref (b + 295)] [.ref (b + 296), .ref (b + 297), .null, .int 0] 3 3 24
  refine j_putF X rfl inX4 tyX4 tyX4_ok nmX4 2 (by decide) rfl mf_4_18 rfl (ty := .array .int) (by decide +kernel) rfl rfl (show _ from Nat.le_of_ble_eq_true rfl) (x_dr DX4_init 13 rfl) ?_
  show JC E 4 (b + 295) (b + 296) _ 28 _ [] [.ref (b + 296), .ref (b + 297), .ref (b + 298), .int 0] 3 3 24
  exact j_vret X XZ hK.symm hN.symm (x_dr DX4_init 14 rfl)
set_option maxRecDepth 100000 in
set_option maxHeartbeats 4000000 in
theorem c_o8 {G : xG} {l : Launch} {b : Nat} : CC G l yX0_init cX0_init 1 1 12 0 (b + 299) (b + 300) [] (cD G 0 (b + 299) (b + 300) (fun k => rowE G b s0 (300 + k)) [.int 0, .int 0] 0) [.int 0, .int 0] 0 0 := by
  refine CC_of (rows := fun k => rowE G b s0 (300 + k)) [(0, .ref (b + 299))] (by decide +kernel) rfl rfl (Nat.le_of_ble_eq_true rfl) ?_
  intro E hG hl hK hN X XZ
  subst hG
  replace X : CX E cX0_init 1 RX0 1 12 (b + 299) (b + 300) := X
  refine j_aload_n X (x_dr DX0_init 0 rfl) 0 rfl rfl ?_
  refine j_super X ml_0_3 ⟨Nat.le_of_ble_eq_true rfl, Nat.le_of_ble_eq_true rfl⟩ (x_dr DX0_init 1 rfl) ?_
  exact j_vret X XZ hK.symm hN.symm (x_dr DX0_init 2 rfl)
set_option maxRecDepth 100000 in
set_option maxHeartbeats 4000000 in
theorem c_o9 {G : xG} {l : Launch} {b : Nat} : CC G l yX3_init cX3_init 1 1 12 3 (b + 323) (b + 324) [] (cD G 3 (b + 323) (b + 324) (fun k => rowE G b s0 (324 + k)) [.ref (b + 324), .int (-1), .int 0] 1) [.null, .int 0, .int 0] 1 60 := by
  refine CC_of (rows := fun k => rowE G b s0 (324 + k)) [(0, .ref (b + 323))] (by decide +kernel) rfl rfl (Nat.le_of_ble_eq_true rfl) ?_
  intro E hG hl hK hN X XZ
  subst hG
  replace X : CX E cX3_init 1 RX3 1 12 (b + 323) (b + 324) := X
  refine j_aload_n X (x_dr DX3_init 0 rfl) 0 rfl rfl ?_
  refine j_super X ml_3_3 ⟨Nat.le_of_ble_eq_true rfl, Nat.le_of_ble_eq_true rfl⟩ (x_dr DX3_init 1 rfl) ?_
  refine j_aload_n X (x_dr DX3_init 2 rfl) 0 rfl rfl ?_
  refine j_bipush (v := 60) X (x_dr DX3_init 3 rfl) (by decide) ?_
  refine j_newi (m := 60) X (x_dr DX3_init 4 rfl) rfl (by omega) (rowE_a (K := 324) (o := 9) (k := 0) (by decide) rfl) (by omega) (by omega) ?_
  show JC E 3 (b + 323) (b + 324) _ 9 _ [.ref (b + 324), .ref (b + 323)] [.null, .int 0, .int 0] 1 1 60
  refine j_putF X rfl inX3 tyX3 tyX3_ok nmX3 0 (by decide) rfl mf_3_9 rfl (ty := .array .int) (by decide +kernel) rfl rfl (show _ from Nat.le_of_ble_eq_true rfl) (x_dr DX3_init 5 rfl) ?_
  show JC E 3 (b + 323) (b + 324) _ 12 _ [] [.ref (b + 324), .int 0, .int 0] 1 1 60
  refine j_aload_n X (x_dr DX3_init 6 rfl) 0 rfl rfl ?_
  refine j_iconst (v := (-1)) X (x_dr DX3_init 7 rfl) (by decide) ?_
  refine j_put X rfl inX3 tyX3 tyX3_ok nmX3 1 (by decide) rfl mf_3_15 rfl (ty := .int) (by decide +kernel) rfl rfl (show _ from Nat.le_of_ble_eq_true rfl) (x_dr DX3_init 8 rfl) ?_
  show JC E 3 (b + 323) (b + 324) _ 17 _ [] [.ref (b + 324), .int (-1), .int 0] 1 1 60
  exact j_vret X XZ hK.symm hN.symm (x_dr DX3_init 9 rfl)
set_option maxRecDepth 100000 in
set_option maxHeartbeats 4000000 in
theorem c_o10 {G : xG} {l : Launch} {b : Nat} : CC G l yX3_init cX3_init 1 1 12 3 (b + 325) (b + 326) [] (cD G 3 (b + 325) (b + 326) (fun k => rowE G b s0 (326 + k)) [.ref (b + 326), .int (-1), .int 0] 1) [.null, .int 0, .int 0] 1 60 := by
  refine CC_of (rows := fun k => rowE G b s0 (326 + k)) [(0, .ref (b + 325))] (by decide +kernel) rfl rfl (Nat.le_of_ble_eq_true rfl) ?_
  intro E hG hl hK hN X XZ
  subst hG
  replace X : CX E cX3_init 1 RX3 1 12 (b + 325) (b + 326) := X
  refine j_aload_n X (x_dr DX3_init 0 rfl) 0 rfl rfl ?_
  refine j_super X ml_3_3 ⟨Nat.le_of_ble_eq_true rfl, Nat.le_of_ble_eq_true rfl⟩ (x_dr DX3_init 1 rfl) ?_
  refine j_aload_n X (x_dr DX3_init 2 rfl) 0 rfl rfl ?_
  refine j_bipush (v := 60) X (x_dr DX3_init 3 rfl) (by decide) ?_
  refine j_newi (m := 60) X (x_dr DX3_init 4 rfl) rfl (by omega) (rowE_a (K := 326) (o := 10) (k := 0) (by decide) rfl) (by omega) (by omega) ?_
  show JC E 3 (b + 325) (b + 326) _ 9 _ [.ref (b + 326), .ref (b + 325)] [.null, .int 0, .int 0] 1 1 60
  refine j_putF X rfl inX3 tyX3 tyX3_ok nmX3 0 (by decide) rfl mf_3_9 rfl (ty := .array .int) (by decide +kernel) rfl rfl (show _ from Nat.le_of_ble_eq_true rfl) (x_dr DX3_init 5 rfl) ?_
  show JC E 3 (b + 325) (b + 326) _ 12 _ [] [.ref (b + 326), .int 0, .int 0] 1 1 60
  refine j_aload_n X (x_dr DX3_init 6 rfl) 0 rfl rfl ?_
  refine j_iconst (v := (-1)) X (x_dr DX3_init 7 rfl) (by decide) ?_
  refine j_put X rfl inX3 tyX3 tyX3_ok nmX3 1 (by decide) rfl mf_3_15 rfl (ty := .int) (by decide +kernel) rfl rfl (show _ from Nat.le_of_ble_eq_true rfl) (x_dr DX3_init 8 rfl) ?_
  show JC E 3 (b + 325) (b + 326) _ 17 _ [] [.ref (b + 326), .int (-1), .int 0] 1 1 60
  exact j_vret X XZ hK.symm hN.symm (x_dr DX3_init 9 rfl)
set_option maxRecDepth 100000 in
set_option maxHeartbeats 4000000 in
theorem c_o11 {G : xG} {l : Launch} {b : Nat} : CC G l yX3_init cX3_init 1 1 12 3 (b + 327) (b + 328) [] (cD G 3 (b + 327) (b + 328) (fun k => rowE G b s0 (328 + k)) [.ref (b + 328), .int (-1), .int 0] 1) [.null, .int 0, .int 0] 1 60 := by
  refine CC_of (rows := fun k => rowE G b s0 (328 + k)) [(0, .ref (b + 327))] (by decide +kernel) rfl rfl (Nat.le_of_ble_eq_true rfl) ?_
  intro E hG hl hK hN X XZ
  subst hG
  replace X : CX E cX3_init 1 RX3 1 12 (b + 327) (b + 328) := X
  refine j_aload_n X (x_dr DX3_init 0 rfl) 0 rfl rfl ?_
  refine j_super X ml_3_3 ⟨Nat.le_of_ble_eq_true rfl, Nat.le_of_ble_eq_true rfl⟩ (x_dr DX3_init 1 rfl) ?_
  refine j_aload_n X (x_dr DX3_init 2 rfl) 0 rfl rfl ?_
  refine j_bipush (v := 60) X (x_dr DX3_init 3 rfl) (by decide) ?_
  refine j_newi (m := 60) X (x_dr DX3_init 4 rfl) rfl (by omega) (rowE_a (K := 328) (o := 11) (k := 0) (by decide) rfl) (by omega) (by omega) ?_
  show JC E 3 (b + 327) (b + 328) _ 9 _ [.ref (b + 328), .ref (b + 327)] [.null, .int 0, .int 0] 1 1 60
  refine j_putF X rfl inX3 tyX3 tyX3_ok nmX3 0 (by decide) rfl mf_3_9 rfl (ty := .array .int) (by decide +kernel) rfl rfl (show _ from Nat.le_of_ble_eq_true rfl) (x_dr DX3_init 5 rfl) ?_
  show JC E 3 (b + 327) (b + 328) _ 12 _ [] [.ref (b + 328), .int 0, .int 0] 1 1 60
  refine j_aload_n X (x_dr DX3_init 6 rfl) 0 rfl rfl ?_
  refine j_iconst (v := (-1)) X (x_dr DX3_init 7 rfl) (by decide) ?_
  refine j_put X rfl inX3 tyX3 tyX3_ok nmX3 1 (by decide) rfl mf_3_15 rfl (ty := .int) (by decide +kernel) rfl rfl (show _ from Nat.le_of_ble_eq_true rfl) (x_dr DX3_init 8 rfl) ?_
  show JC E 3 (b + 327) (b + 328) _ 17 _ [] [.ref (b + 328), .int (-1), .int 0] 1 1 60
  exact j_vret X XZ hK.symm hN.symm (x_dr DX3_init 9 rfl)
set_option maxRecDepth 100000 in
set_option maxHeartbeats 4000000 in
theorem c_o12 {G : xG} {l : Launch} {b : Nat} : CC G l yX3_init cX3_init 1 1 12 3 (b + 329) (b + 330) [] (cD G 3 (b + 329) (b + 330) (fun k => rowE G b s0 (330 + k)) [.ref (b + 330), .int (-1), .int 0] 1) [.null, .int 0, .int 0] 1 60 := by
  refine CC_of (rows := fun k => rowE G b s0 (330 + k)) [(0, .ref (b + 329))] (by decide +kernel) rfl rfl (Nat.le_of_ble_eq_true rfl) ?_
  intro E hG hl hK hN X XZ
  subst hG
  replace X : CX E cX3_init 1 RX3 1 12 (b + 329) (b + 330) := X
  refine j_aload_n X (x_dr DX3_init 0 rfl) 0 rfl rfl ?_
  refine j_super X ml_3_3 ⟨Nat.le_of_ble_eq_true rfl, Nat.le_of_ble_eq_true rfl⟩ (x_dr DX3_init 1 rfl) ?_
  refine j_aload_n X (x_dr DX3_init 2 rfl) 0 rfl rfl ?_
  refine j_bipush (v := 60) X (x_dr DX3_init 3 rfl) (by decide) ?_
  refine j_newi (m := 60) X (x_dr DX3_init 4 rfl) rfl (by omega) (rowE_a (K := 330) (o := 12) (k := 0) (by decide) rfl) (by omega) (by omega) ?_
  show JC E 3 (b + 329) (b + 330) _ 9 _ [.ref (b + 330), .ref (b + 329)] [.null, .int 0, .int 0] 1 1 60
  refine j_putF X rfl inX3 tyX3 tyX3_ok nmX3 0 (by decide) rfl mf_3_9 rfl (ty := .array .int) (by decide +kernel) rfl rfl (show _ from Nat.le_of_ble_eq_true rfl) (x_dr DX3_init 5 rfl) ?_
  show JC E 3 (b + 329) (b + 330) _ 12 _ [] [.ref (b + 330), .int 0, .int 0] 1 1 60
  refine j_aload_n X (x_dr DX3_init 6 rfl) 0 rfl rfl ?_
  refine j_iconst (v := (-1)) X (x_dr DX3_init 7 rfl) (by decide) ?_
  refine j_put X rfl inX3 tyX3 tyX3_ok nmX3 1 (by decide) rfl mf_3_15 rfl (ty := .int) (by decide +kernel) rfl rfl (show _ from Nat.le_of_ble_eq_true rfl) (x_dr DX3_init 8 rfl) ?_
  show JC E 3 (b + 329) (b + 330) _ 17 _ [] [.ref (b + 330), .int (-1), .int 0] 1 1 60
  exact j_vret X XZ hK.symm hN.symm (x_dr DX3_init 9 rfl)
set_option maxRecDepth 100000 in
set_option maxHeartbeats 4000000 in
theorem c_o13 {G : xG} {l : Launch} {b : Nat} : CC G l yX7_init cX7_init 1 1 12 7 (b + 331) (b + 332) [] (cD G 7 (b + 331) (b + 332) (fun k => rowE G b s0 (332 + k)) [.ref (b + 332), .ref (b + 333), .int 0, .ref (b + 334), .int 0, .ref (b + 335), .ref (b + 336), .ref (b + 337), .int 0, .ref (b + 338), .ref (b + 339), .ref (b + 340), .int 0, .ref (b + 341), .ref (b + 342), .ref (b + 343), .int 0, .ref (b + 344), .ref (b + 345), .ref (b + 346), .ref (b + 347), .ref (b + 348), .int 0, .ref (b + 349), .ref (b + 350), .ref (b + 351), .ref (b + 352), .ref (b + 353), .ref (b + 354), .ref (b + 355), .ref (b + 356), .int 0, .ref (b + 357), .ref (b + 358), .ref (b + 359), .ref (b + 360), .ref (b + 361), .ref (b + 362), .ref (b + 363), .ref (b + 364), .ref (b + 365), .int 0] 34) [.null, .null, .int 0, .null, .int 0, .null, .null, .null, .int 0, .null, .null, .null, .int 0, .null, .null, .null, .int 0, .null, .null, .null, .null, .null, .int 0, .null, .null, .null, .null, .null, .null, .null, .null, .int 0, .null, .null, .null, .null, .null, .null, .null, .null, .null, .int 0] 34 1519 := by
  refine CC_of (rows := fun k => rowE G b s0 (332 + k)) [(0, .ref (b + 331))] (by decide +kernel) rfl rfl (Nat.le_of_ble_eq_true rfl) ?_
  intro E hG hl hK hN X XZ
  subst hG
  replace X : CX E cX7_init 1 RX7 1 12 (b + 331) (b + 332) := X
  refine j_aload_n X (x_dr DX7_init 0 rfl) 0 rfl rfl ?_
  refine j_super X ml_7_1 ⟨Nat.le_of_ble_eq_true rfl, Nat.le_of_ble_eq_true rfl⟩ (x_dr DX7_init 1 rfl) ?_
  refine j_aload_n X (x_dr DX7_init 2 rfl) 0 rfl rfl ?_
  refine j_iconst (v := 2) X (x_dr DX7_init 3 rfl) (by decide) ?_
  refine j_newi (m := 2) X (x_dr DX7_init 4 rfl) rfl (by omega) (rowE_a (K := 332) (o := 13) (k := 0) (by decide) rfl) (by omega) (by omega) ?_
  show JC E 7 (b + 331) (b + 332) _ 8 _ [.ref (b + 332), .ref (b + 331)] [.null, .null, .int 0, .null, .int 0, .null, .null, .null, .int 0, .null, .null, .null, .int 0, .null, .null, .null, .int 0, .null, .null, .null, .null, .null, .int 0, .null, .null, .null, .null, .null, .null, .null, .null, .int 0, .null, .null, .null, .null, .null, .null, .null, .null, .null, .int 0] 1 1 2
  refine j_putF X rfl inX7 tyX7 tyX7_ok nmX7 0 (by decide) rfl mf_7_7 rfl (ty := .array .int) (by decide +kernel) rfl rfl (show _ from Nat.le_of_ble_eq_true rfl) (x_dr DX7_init 5 rfl) ?_
  show JC E 7 (b + 331) (b + 332) _ 11 _ [] [.ref (b + 332), .null, .int 0, .null, .int 0, .null, .null, .null, .int 0, .null, .null, .null, .int 0, .null, .null, .null, .int 0, .null, .null, .null, .null, .null, .int 0, .null, .null, .null, .null, .null, .null, .null, .null, .int 0, .null, .null, .null, .null, .null, .null, .null, .null, .null, .int 0] 1 1 2
  refine j_aload_n X (x_dr DX7_init 6 rfl) 0 rfl rfl ?_
  refine j_bipush (v := 62) X (x_dr DX7_init 7 rfl) (by decide) ?_
  refine j_newi (m := 62) X (x_dr DX7_init 8 rfl) rfl (by omega) (rowE_a (K := 333) (o := 13) (k := 1) (by decide) rfl) (by omega) (by omega) ?_
  show JC E 7 (b + 331) (b + 332) _ 16 _ [.ref (b + 333), .ref (b + 331)] [.ref (b + 332), .null, .int 0, .null, .int 0, .null, .null, .null, .int 0, .null, .null, .null, .int 0, .null, .null, .null, .int 0, .null, .null, .null, .null, .null, .int 0, .null, .null, .null, .null, .null, .null, .null, .null, .int 0, .null, .null, .null, .null, .null, .null, .null, .null, .null, .int 0] 2 2 64
  refine j_putF X rfl inX7 tyX7 tyX7_ok nmX7 1 (by decide) rfl mf_7_13 rfl (ty := .array .int) (by decide +kernel) rfl rfl (show _ from Nat.le_of_ble_eq_true rfl) (x_dr DX7_init 9 rfl) ?_
  show JC E 7 (b + 331) (b + 332) _ 19 _ [] [.ref (b + 332), .ref (b + 333), .int 0, .null, .int 0, .null, .null, .null, .int 0, .null, .null, .null, .int 0, .null, .null, .null, .int 0, .null, .null, .null, .null, .null, .int 0, .null, .null, .null, .null, .null, .null, .null, .null, .int 0, .null, .null, .null, .null, .null, .null, .null, .null, .null, .int 0] 2 2 64
  refine j_aload_n X (x_dr DX7_init 10 rfl) 0 rfl rfl ?_
  refine j_bipush (v := 12) X (x_dr DX7_init 11 rfl) (by decide) ?_
  refine j_newi (m := 12) X (x_dr DX7_init 12 rfl) rfl (by omega) (rowE_a (K := 334) (o := 13) (k := 3) (by decide) rfl) (by omega) (by omega) ?_
  show JC E 7 (b + 331) (b + 332) _ 24 _ [.ref (b + 334), .ref (b + 331)] [.ref (b + 332), .ref (b + 333), .int 0, .null, .int 0, .null, .null, .null, .int 0, .null, .null, .null, .int 0, .null, .null, .null, .int 0, .null, .null, .null, .null, .null, .int 0, .null, .null, .null, .null, .null, .null, .null, .null, .int 0, .null, .null, .null, .null, .null, .null, .null, .null, .null, .int 0] 3 3 76
  refine j_putF X rfl inX7 tyX7 tyX7_ok nmX7 3 (by decide) rfl mf_7_16 rfl (ty := .array .int) (by decide +kernel) rfl rfl (show _ from Nat.le_of_ble_eq_true rfl) (x_dr DX7_init 13 rfl) ?_
  show JC E 7 (b + 331) (b + 332) _ 27 _ [] [.ref (b + 332), .ref (b + 333), .int 0, .ref (b + 334), .int 0, .null, .null, .null, .int 0, .null, .null, .null, .int 0, .null, .null, .null, .int 0, .null, .null, .null, .null, .null, .int 0, .null, .null, .null, .null, .null, .null, .null, .null, .int 0, .null, .null, .null, .null, .null, .null, .null, .null, .null, .int 0] 3 3 76
  refine j_aload_n X (x_dr DX7_init 14 rfl) 0 rfl rfl ?_
  refine j_bipush (v := 9) X (x_dr DX7_init 15 rfl) (by decide) ?_
  refine j_newi (m := 9) X (x_dr DX7_init 16 rfl) rfl (by omega) (rowE_a (K := 335) (o := 13) (k := 5) (by decide) rfl) (by omega) (by omega) ?_
  show JC E 7 (b + 331) (b + 332) _ 32 _ [.ref (b + 335), .ref (b + 331)] [.ref (b + 332), .ref (b + 333), .int 0, .ref (b + 334), .int 0, .null, .null, .null, .int 0, .null, .null, .null, .int 0, .null, .null, .null, .int 0, .null, .null, .null, .null, .null, .int 0, .null, .null, .null, .null, .null, .null, .null, .null, .int 0, .null, .null, .null, .null, .null, .null, .null, .null, .null, .int 0] 4 4 85
  refine j_putF X rfl inX7 tyX7 tyX7_ok nmX7 5 (by decide) rfl mf_7_19 rfl (ty := .array .int) (by decide +kernel) rfl rfl (show _ from Nat.le_of_ble_eq_true rfl) (x_dr DX7_init 17 rfl) ?_
  show JC E 7 (b + 331) (b + 332) _ 35 _ [] [.ref (b + 332), .ref (b + 333), .int 0, .ref (b + 334), .int 0, .ref (b + 335), .null, .null, .int 0, .null, .null, .null, .int 0, .null, .null, .null, .int 0, .null, .null, .null, .null, .null, .int 0, .null, .null, .null, .null, .null, .null, .null, .null, .int 0, .null, .null, .null, .null, .null, .null, .null, .null, .null, .int 0] 4 4 85
  refine j_aload_n X (x_dr DX7_init 18 rfl) 0 rfl rfl ?_
  refine j_bipush (v := 9) X (x_dr DX7_init 19 rfl) (by decide) ?_
  refine j_newi (m := 9) X (x_dr DX7_init 20 rfl) rfl (by omega) (rowE_a (K := 336) (o := 13) (k := 6) (by decide) rfl) (by omega) (by omega) ?_
  show JC E 7 (b + 331) (b + 332) _ 40 _ [.ref (b + 336), .ref (b + 331)] [.ref (b + 332), .ref (b + 333), .int 0, .ref (b + 334), .int 0, .ref (b + 335), .null, .null, .int 0, .null, .null, .null, .int 0, .null, .null, .null, .int 0, .null, .null, .null, .null, .null, .int 0, .null, .null, .null, .null, .null, .null, .null, .null, .int 0, .null, .null, .null, .null, .null, .null, .null, .null, .null, .int 0] 5 5 94
  refine j_putF X rfl inX7 tyX7 tyX7_ok nmX7 6 (by decide) rfl mf_7_22 rfl (ty := .array .int) (by decide +kernel) rfl rfl (show _ from Nat.le_of_ble_eq_true rfl) (x_dr DX7_init 21 rfl) ?_
  show JC E 7 (b + 331) (b + 332) _ 43 _ [] [.ref (b + 332), .ref (b + 333), .int 0, .ref (b + 334), .int 0, .ref (b + 335), .ref (b + 336), .null, .int 0, .null, .null, .null, .int 0, .null, .null, .null, .int 0, .null, .null, .null, .null, .null, .int 0, .null, .null, .null, .null, .null, .null, .null, .null, .int 0, .null, .null, .null, .null, .null, .null, .null, .null, .null, .int 0] 5 5 94
  refine j_aload_n X (x_dr DX7_init 22 rfl) 0 rfl rfl ?_
  refine j_bipush (v := 9) X (x_dr DX7_init 23 rfl) (by decide) ?_
  refine j_newi (m := 9) X (x_dr DX7_init 24 rfl) rfl (by omega) (rowE_a (K := 337) (o := 13) (k := 7) (by decide) rfl) (by omega) (by omega) ?_
  show JC E 7 (b + 331) (b + 332) _ 48 _ [.ref (b + 337), .ref (b + 331)] [.ref (b + 332), .ref (b + 333), .int 0, .ref (b + 334), .int 0, .ref (b + 335), .ref (b + 336), .null, .int 0, .null, .null, .null, .int 0, .null, .null, .null, .int 0, .null, .null, .null, .null, .null, .int 0, .null, .null, .null, .null, .null, .null, .null, .null, .int 0, .null, .null, .null, .null, .null, .null, .null, .null, .null, .int 0] 6 6 103
  refine j_putF X rfl inX7 tyX7 tyX7_ok nmX7 7 (by decide) rfl mf_7_25 rfl (ty := .array .int) (by decide +kernel) rfl rfl (show _ from Nat.le_of_ble_eq_true rfl) (x_dr DX7_init 25 rfl) ?_
  show JC E 7 (b + 331) (b + 332) _ 51 _ [] [.ref (b + 332), .ref (b + 333), .int 0, .ref (b + 334), .int 0, .ref (b + 335), .ref (b + 336), .ref (b + 337), .int 0, .null, .null, .null, .int 0, .null, .null, .null, .int 0, .null, .null, .null, .null, .null, .int 0, .null, .null, .null, .null, .null, .null, .null, .null, .int 0, .null, .null, .null, .null, .null, .null, .null, .null, .null, .int 0] 6 6 103
  refine j_aload_n X (x_dr DX7_init 26 rfl) 0 rfl rfl ?_
  refine j_bipush (v := 9) X (x_dr DX7_init 27 rfl) (by decide) ?_
  refine j_newi (m := 9) X (x_dr DX7_init 28 rfl) rfl (by omega) (rowE_a (K := 338) (o := 13) (k := 9) (by decide) rfl) (by omega) (by omega) ?_
  show JC E 7 (b + 331) (b + 332) _ 56 _ [.ref (b + 338), .ref (b + 331)] [.ref (b + 332), .ref (b + 333), .int 0, .ref (b + 334), .int 0, .ref (b + 335), .ref (b + 336), .ref (b + 337), .int 0, .null, .null, .null, .int 0, .null, .null, .null, .int 0, .null, .null, .null, .null, .null, .int 0, .null, .null, .null, .null, .null, .null, .null, .null, .int 0, .null, .null, .null, .null, .null, .null, .null, .null, .null, .int 0] 7 7 112
  refine j_putF X rfl inX7 tyX7 tyX7_ok nmX7 9 (by decide) rfl mf_7_28 rfl (ty := .array .int) (by decide +kernel) rfl rfl (show _ from Nat.le_of_ble_eq_true rfl) (x_dr DX7_init 29 rfl) ?_
  show JC E 7 (b + 331) (b + 332) _ 59 _ [] [.ref (b + 332), .ref (b + 333), .int 0, .ref (b + 334), .int 0, .ref (b + 335), .ref (b + 336), .ref (b + 337), .int 0, .ref (b + 338), .null, .null, .int 0, .null, .null, .null, .int 0, .null, .null, .null, .null, .null, .int 0, .null, .null, .null, .null, .null, .null, .null, .null, .int 0, .null, .null, .null, .null, .null, .null, .null, .null, .null, .int 0] 7 7 112
  refine j_aload_n X (x_dr DX7_init 30 rfl) 0 rfl rfl ?_
  refine j_bipush (v := 9) X (x_dr DX7_init 31 rfl) (by decide) ?_
  refine j_newi (m := 9) X (x_dr DX7_init 32 rfl) rfl (by omega) (rowE_a (K := 339) (o := 13) (k := 10) (by decide) rfl) (by omega) (by omega) ?_
  show JC E 7 (b + 331) (b + 332) _ 64 _ [.ref (b + 339), .ref (b + 331)] [.ref (b + 332), .ref (b + 333), .int 0, .ref (b + 334), .int 0, .ref (b + 335), .ref (b + 336), .ref (b + 337), .int 0, .ref (b + 338), .null, .null, .int 0, .null, .null, .null, .int 0, .null, .null, .null, .null, .null, .int 0, .null, .null, .null, .null, .null, .null, .null, .null, .int 0, .null, .null, .null, .null, .null, .null, .null, .null, .null, .int 0] 8 8 121
  refine j_putF X rfl inX7 tyX7 tyX7_ok nmX7 10 (by decide) rfl mf_7_31 rfl (ty := .array .int) (by decide +kernel) rfl rfl (show _ from Nat.le_of_ble_eq_true rfl) (x_dr DX7_init 33 rfl) ?_
  show JC E 7 (b + 331) (b + 332) _ 67 _ [] [.ref (b + 332), .ref (b + 333), .int 0, .ref (b + 334), .int 0, .ref (b + 335), .ref (b + 336), .ref (b + 337), .int 0, .ref (b + 338), .ref (b + 339), .null, .int 0, .null, .null, .null, .int 0, .null, .null, .null, .null, .null, .int 0, .null, .null, .null, .null, .null, .null, .null, .null, .int 0, .null, .null, .null, .null, .null, .null, .null, .null, .null, .int 0] 8 8 121
  refine j_aload_n X (x_dr DX7_init 34 rfl) 0 rfl rfl ?_
  refine j_bipush (v := 9) X (x_dr DX7_init 35 rfl) (by decide) ?_
  refine j_newi (m := 9) X (x_dr DX7_init 36 rfl) rfl (by omega) (rowE_a (K := 340) (o := 13) (k := 11) (by decide) rfl) (by omega) (by omega) ?_
  show JC E 7 (b + 331) (b + 332) _ 72 _ [.ref (b + 340), .ref (b + 331)] [.ref (b + 332), .ref (b + 333), .int 0, .ref (b + 334), .int 0, .ref (b + 335), .ref (b + 336), .ref (b + 337), .int 0, .ref (b + 338), .ref (b + 339), .null, .int 0, .null, .null, .null, .int 0, .null, .null, .null, .null, .null, .int 0, .null, .null, .null, .null, .null, .null, .null, .null, .int 0, .null, .null, .null, .null, .null, .null, .null, .null, .null, .int 0] 9 9 130
  refine j_putF X rfl inX7 tyX7 tyX7_ok nmX7 11 (by decide) rfl mf_7_34 rfl (ty := .array .int) (by decide +kernel) rfl rfl (show _ from Nat.le_of_ble_eq_true rfl) (x_dr DX7_init 37 rfl) ?_
  show JC E 7 (b + 331) (b + 332) _ 75 _ [] [.ref (b + 332), .ref (b + 333), .int 0, .ref (b + 334), .int 0, .ref (b + 335), .ref (b + 336), .ref (b + 337), .int 0, .ref (b + 338), .ref (b + 339), .ref (b + 340), .int 0, .null, .null, .null, .int 0, .null, .null, .null, .null, .null, .int 0, .null, .null, .null, .null, .null, .null, .null, .null, .int 0, .null, .null, .null, .null, .null, .null, .null, .null, .null, .int 0] 9 9 130
  refine j_aload_n X (x_dr DX7_init 38 rfl) 0 rfl rfl ?_
  refine j_bipush (v := 9) X (x_dr DX7_init 39 rfl) (by decide) ?_
  refine j_newi (m := 9) X (x_dr DX7_init 40 rfl) rfl (by omega) (rowE_a (K := 341) (o := 13) (k := 13) (by decide) rfl) (by omega) (by omega) ?_
  show JC E 7 (b + 331) (b + 332) _ 80 _ [.ref (b + 341), .ref (b + 331)] [.ref (b + 332), .ref (b + 333), .int 0, .ref (b + 334), .int 0, .ref (b + 335), .ref (b + 336), .ref (b + 337), .int 0, .ref (b + 338), .ref (b + 339), .ref (b + 340), .int 0, .null, .null, .null, .int 0, .null, .null, .null, .null, .null, .int 0, .null, .null, .null, .null, .null, .null, .null, .null, .int 0, .null, .null, .null, .null, .null, .null, .null, .null, .null, .int 0] 10 10 139
  refine j_putF X rfl inX7 tyX7 tyX7_ok nmX7 13 (by decide) rfl mf_7_37 rfl (ty := .array .int) (by decide +kernel) rfl rfl (show _ from Nat.le_of_ble_eq_true rfl) (x_dr DX7_init 41 rfl) ?_
  show JC E 7 (b + 331) (b + 332) _ 83 _ [] [.ref (b + 332), .ref (b + 333), .int 0, .ref (b + 334), .int 0, .ref (b + 335), .ref (b + 336), .ref (b + 337), .int 0, .ref (b + 338), .ref (b + 339), .ref (b + 340), .int 0, .ref (b + 341), .null, .null, .int 0, .null, .null, .null, .null, .null, .int 0, .null, .null, .null, .null, .null, .null, .null, .null, .int 0, .null, .null, .null, .null, .null, .null, .null, .null, .null, .int 0] 10 10 139
  refine j_aload_n X (x_dr DX7_init 42 rfl) 0 rfl rfl ?_
  refine j_bipush (v := 9) X (x_dr DX7_init 43 rfl) (by decide) ?_
  refine j_newi (m := 9) X (x_dr DX7_init 44 rfl) rfl (by omega) (rowE_a (K := 342) (o := 13) (k := 14) (by decide) rfl) (by omega) (by omega) ?_
  show JC E 7 (b + 331) (b + 332) _ 88 _ [.ref (b + 342), .ref (b + 331)] [.ref (b + 332), .ref (b + 333), .int 0, .ref (b + 334), .int 0, .ref (b + 335), .ref (b + 336), .ref (b + 337), .int 0, .ref (b + 338), .ref (b + 339), .ref (b + 340), .int 0, .ref (b + 341), .null, .null, .int 0, .null, .null, .null, .null, .null, .int 0, .null, .null, .null, .null, .null, .null, .null, .null, .int 0, .null, .null, .null, .null, .null, .null, .null, .null, .null, .int 0] 11 11 148
  refine j_putF X rfl inX7 tyX7 tyX7_ok nmX7 14 (by decide) rfl mf_7_40 rfl (ty := .array .int) (by decide +kernel) rfl rfl (show _ from Nat.le_of_ble_eq_true rfl) (x_dr DX7_init 45 rfl) ?_
  show JC E 7 (b + 331) (b + 332) _ 91 _ [] [.ref (b + 332), .ref (b + 333), .int 0, .ref (b + 334), .int 0, .ref (b + 335), .ref (b + 336), .ref (b + 337), .int 0, .ref (b + 338), .ref (b + 339), .ref (b + 340), .int 0, .ref (b + 341), .ref (b + 342), .null, .int 0, .null, .null, .null, .null, .null, .int 0, .null, .null, .null, .null, .null, .null, .null, .null, .int 0, .null, .null, .null, .null, .null, .null, .null, .null, .null, .int 0] 11 11 148
  refine j_aload_n X (x_dr DX7_init 46 rfl) 0 rfl rfl ?_
  refine j_bipush (v := 9) X (x_dr DX7_init 47 rfl) (by decide) ?_
  refine j_newi (m := 9) X (x_dr DX7_init 48 rfl) rfl (by omega) (rowE_a (K := 343) (o := 13) (k := 15) (by decide) rfl) (by omega) (by omega) ?_
  show JC E 7 (b + 331) (b + 332) _ 96 _ [.ref (b + 343), .ref (b + 331)] [.ref (b + 332), .ref (b + 333), .int 0, .ref (b + 334), .int 0, .ref (b + 335), .ref (b + 336), .ref (b + 337), .int 0, .ref (b + 338), .ref (b + 339), .ref (b + 340), .int 0, .ref (b + 341), .ref (b + 342), .null, .int 0, .null, .null, .null, .null, .null, .int 0, .null, .null, .null, .null, .null, .null, .null, .null, .int 0, .null, .null, .null, .null, .null, .null, .null, .null, .null, .int 0] 12 12 157
  refine j_putF X rfl inX7 tyX7 tyX7_ok nmX7 15 (by decide) rfl mf_7_43 rfl (ty := .array .int) (by decide +kernel) rfl rfl (show _ from Nat.le_of_ble_eq_true rfl) (x_dr DX7_init 49 rfl) ?_
  show JC E 7 (b + 331) (b + 332) _ 99 _ [] [.ref (b + 332), .ref (b + 333), .int 0, .ref (b + 334), .int 0, .ref (b + 335), .ref (b + 336), .ref (b + 337), .int 0, .ref (b + 338), .ref (b + 339), .ref (b + 340), .int 0, .ref (b + 341), .ref (b + 342), .ref (b + 343), .int 0, .null, .null, .null, .null, .null, .int 0, .null, .null, .null, .null, .null, .null, .null, .null, .int 0, .null, .null, .null, .null, .null, .null, .null, .null, .null, .int 0] 12 12 157
  refine j_aload_n X (x_dr DX7_init 50 rfl) 0 rfl rfl ?_
  refine j_bipush (v := 12) X (x_dr DX7_init 51 rfl) (by decide) ?_
  refine j_newi (m := 12) X (x_dr DX7_init 52 rfl) rfl (by omega) (rowE_a (K := 344) (o := 13) (k := 17) (by decide) rfl) (by omega) (by omega) ?_
  show JC E 7 (b + 331) (b + 332) _ 104 _ [.ref (b + 344), .ref (b + 331)] [.ref (b + 332), .ref (b + 333), .int 0, .ref (b + 334), .int 0, .ref (b + 335), .ref (b + 336), .ref (b + 337), .int 0, .ref (b + 338), .ref (b + 339), .ref (b + 340), .int 0, .ref (b + 341), .ref (b + 342), .ref (b + 343), .int 0, .null, .null, .null, .null, .null, .int 0, .null, .null, .null, .null, .null, .null, .null, .null, .int 0, .null, .null, .null, .null, .null, .null, .null, .null, .null, .int 0] 13 13 169
  refine j_putF X rfl inX7 tyX7 tyX7_ok nmX7 17 (by decide) rfl mf_7_46 rfl (ty := .array .int) (by decide +kernel) rfl rfl (show _ from Nat.le_of_ble_eq_true rfl) (x_dr DX7_init 53 rfl) ?_
  show JC E 7 (b + 331) (b + 332) _ 107 _ [] [.ref (b + 332), .ref (b + 333), .int 0, .ref (b + 334), .int 0, .ref (b + 335), .ref (b + 336), .ref (b + 337), .int 0, .ref (b + 338), .ref (b + 339), .ref (b + 340), .int 0, .ref (b + 341), .ref (b + 342), .ref (b + 343), .int 0, .ref (b + 344), .null, .null, .null, .null, .int 0, .null, .null, .null, .null, .null, .null, .null, .null, .int 0, .null, .null, .null, .null, .null, .null, .null, .null, .null, .int 0] 13 13 169
  refine j_aload_n X (x_dr DX7_init 54 rfl) 0 rfl rfl ?_
  refine j_bipush (v := 8) X (x_dr DX7_init 55 rfl) (by decide) ?_
  refine j_newi (m := 8) X (x_dr DX7_init 56 rfl) rfl (by omega) (rowE_a (K := 345) (o := 13) (k := 18) (by decide) rfl) (by omega) (by omega) ?_
  show JC E 7 (b + 331) (b + 332) _ 112 _ [.ref (b + 345), .ref (b + 331)] [.ref (b + 332), .ref (b + 333), .int 0, .ref (b + 334), .int 0, .ref (b + 335), .ref (b + 336), .ref (b + 337), .int 0, .ref (b + 338), .ref (b + 339), .ref (b + 340), .int 0, .ref (b + 341), .ref (b + 342), .ref (b + 343), .int 0, .ref (b + 344), .null, .null, .null, .null, .int 0, .null, .null, .null, .null, .null, .null, .null, .null, .int 0, .null, .null, .null, .null, .null, .null, .null, .null, .null, .int 0] 14 14 177
  refine j_putF X rfl inX7 tyX7 tyX7_ok nmX7 18 (by decide) rfl mf_7_49 rfl (ty := .array .int) (by decide +kernel) rfl rfl (show _ from Nat.le_of_ble_eq_true rfl) (x_dr DX7_init 57 rfl) ?_
  show JC E 7 (b + 331) (b + 332) _ 115 _ [] [.ref (b + 332), .ref (b + 333), .int 0, .ref (b + 334), .int 0, .ref (b + 335), .ref (b + 336), .ref (b + 337), .int 0, .ref (b + 338), .ref (b + 339), .ref (b + 340), .int 0, .ref (b + 341), .ref (b + 342), .ref (b + 343), .int 0, .ref (b + 344), .ref (b + 345), .null, .null, .null, .int 0, .null, .null, .null, .null, .null, .null, .null, .null, .int 0, .null, .null, .null, .null, .null, .null, .null, .null, .null, .int 0] 14 14 177
  refine j_aload_n X (x_dr DX7_init 58 rfl) 0 rfl rfl ?_
  refine j_bipush (v := 8) X (x_dr DX7_init 59 rfl) (by decide) ?_
  refine j_newi (m := 8) X (x_dr DX7_init 60 rfl) rfl (by omega) (rowE_a (K := 346) (o := 13) (k := 19) (by decide) rfl) (by omega) (by omega) ?_
  show JC E 7 (b + 331) (b + 332) _ 120 _ [.ref (b + 346), .ref (b + 331)] [.ref (b + 332), .ref (b + 333), .int 0, .ref (b + 334), .int 0, .ref (b + 335), .ref (b + 336), .ref (b + 337), .int 0, .ref (b + 338), .ref (b + 339), .ref (b + 340), .int 0, .ref (b + 341), .ref (b + 342), .ref (b + 343), .int 0, .ref (b + 344), .ref (b + 345), .null, .null, .null, .int 0, .null, .null, .null, .null, .null, .null, .null, .null, .int 0, .null, .null, .null, .null, .null, .null, .null, .null, .null, .int 0] 15 15 185
  refine j_putF X rfl inX7 tyX7 tyX7_ok nmX7 19 (by decide) rfl mf_7_52 rfl (ty := .array .int) (by decide +kernel) rfl rfl (show _ from Nat.le_of_ble_eq_true rfl) (x_dr DX7_init 61 rfl) ?_
  show JC E 7 (b + 331) (b + 332) _ 123 _ [] [.ref (b + 332), .ref (b + 333), .int 0, .ref (b + 334), .int 0, .ref (b + 335), .ref (b + 336), .ref (b + 337), .int 0, .ref (b + 338), .ref (b + 339), .ref (b + 340), .int 0, .ref (b + 341), .ref (b + 342), .ref (b + 343), .int 0, .ref (b + 344), .ref (b + 345), .ref (b + 346), .null, .null, .int 0, .null, .null, .null, .null, .null, .null, .null, .null, .int 0, .null, .null, .null, .null, .null, .null, .null, .null, .null, .int 0] 15 15 185
  refine j_aload_n X (x_dr DX7_init 62 rfl) 0 rfl rfl ?_
  refine j_bipush (v := 8) X (x_dr DX7_init 63 rfl) (by decide) ?_
  refine j_newi (m := 8) X (x_dr DX7_init 64 rfl) rfl (by omega) (rowE_a (K := 347) (o := 13) (k := 20) (by decide) rfl) (by omega) (by omega) ?_
  show JC E 7 (b + 331) (b + 332) _ 128 _ [.ref (b + 347), .ref (b + 331)] [.ref (b + 332), .ref (b + 333), .int 0, .ref (b + 334), .int 0, .ref (b + 335), .ref (b + 336), .ref (b + 337), .int 0, .ref (b + 338), .ref (b + 339), .ref (b + 340), .int 0, .ref (b + 341), .ref (b + 342), .ref (b + 343), .int 0, .ref (b + 344), .ref (b + 345), .ref (b + 346), .null, .null, .int 0, .null, .null, .null, .null, .null, .null, .null, .null, .int 0, .null, .null, .null, .null, .null, .null, .null, .null, .null, .int 0] 16 16 193
  refine j_putF X rfl inX7 tyX7 tyX7_ok nmX7 20 (by decide) rfl mf_7_55 rfl (ty := .array .int) (by decide +kernel) rfl rfl (show _ from Nat.le_of_ble_eq_true rfl) (x_dr DX7_init 65 rfl) ?_
  show JC E 7 (b + 331) (b + 332) _ 131 _ [] [.ref (b + 332), .ref (b + 333), .int 0, .ref (b + 334), .int 0, .ref (b + 335), .ref (b + 336), .ref (b + 337), .int 0, .ref (b + 338), .ref (b + 339), .ref (b + 340), .int 0, .ref (b + 341), .ref (b + 342), .ref (b + 343), .int 0, .ref (b + 344), .ref (b + 345), .ref (b + 346), .ref (b + 347), .null, .int 0, .null, .null, .null, .null, .null, .null, .null, .null, .int 0, .null, .null, .null, .null, .null, .null, .null, .null, .null, .int 0] 16 16 193
  refine j_aload_n X (x_dr DX7_init 66 rfl) 0 rfl rfl ?_
  refine j_bipush (v := 8) X (x_dr DX7_init 67 rfl) (by decide) ?_
  refine j_newi (m := 8) X (x_dr DX7_init 68 rfl) rfl (by omega) (rowE_a (K := 348) (o := 13) (k := 21) (by decide) rfl) (by omega) (by omega) ?_
  show JC E 7 (b + 331) (b + 332) _ 136 _ [.ref (b + 348), .ref (b + 331)] [.ref (b + 332), .ref (b + 333), .int 0, .ref (b + 334), .int 0, .ref (b + 335), .ref (b + 336), .ref (b + 337), .int 0, .ref (b + 338), .ref (b + 339), .ref (b + 340), .int 0, .ref (b + 341), .ref (b + 342), .ref (b + 343), .int 0, .ref (b + 344), .ref (b + 345), .ref (b + 346), .ref (b + 347), .null, .int 0, .null, .null, .null, .null, .null, .null, .null, .null, .int 0, .null, .null, .null, .null, .null, .null, .null, .null, .null, .int 0] 17 17 201
  refine j_putF X rfl inX7 tyX7 tyX7_ok nmX7 21 (by decide) rfl mf_7_58 rfl (ty := .array .int) (by decide +kernel) rfl rfl (show _ from Nat.le_of_ble_eq_true rfl) (x_dr DX7_init 69 rfl) ?_
  show JC E 7 (b + 331) (b + 332) _ 139 _ [] [.ref (b + 332), .ref (b + 333), .int 0, .ref (b + 334), .int 0, .ref (b + 335), .ref (b + 336), .ref (b + 337), .int 0, .ref (b + 338), .ref (b + 339), .ref (b + 340), .int 0, .ref (b + 341), .ref (b + 342), .ref (b + 343), .int 0, .ref (b + 344), .ref (b + 345), .ref (b + 346), .ref (b + 347), .ref (b + 348), .int 0, .null, .null, .null, .null, .null, .null, .null, .null, .int 0, .null, .null, .null, .null, .null, .null, .null, .null, .null, .int 0] 17 17 201
  refine j_aload_n X (x_dr DX7_init 70 rfl) 0 rfl rfl ?_
  refine j_sipush (v := 240) X (x_dr DX7_init 71 rfl) (by decide) ?_
  refine j_newi (m := 240) X (x_dr DX7_init 72 rfl) rfl (by omega) (rowE_a (K := 349) (o := 13) (k := 23) (by decide) rfl) (by omega) (by omega) ?_
  show JC E 7 (b + 331) (b + 332) _ 145 _ [.ref (b + 349), .ref (b + 331)] [.ref (b + 332), .ref (b + 333), .int 0, .ref (b + 334), .int 0, .ref (b + 335), .ref (b + 336), .ref (b + 337), .int 0, .ref (b + 338), .ref (b + 339), .ref (b + 340), .int 0, .ref (b + 341), .ref (b + 342), .ref (b + 343), .int 0, .ref (b + 344), .ref (b + 345), .ref (b + 346), .ref (b + 347), .ref (b + 348), .int 0, .null, .null, .null, .null, .null, .null, .null, .null, .int 0, .null, .null, .null, .null, .null, .null, .null, .null, .null, .int 0] 18 18 441
  refine j_putF X rfl inX7 tyX7 tyX7_ok nmX7 23 (by decide) rfl mf_7_61 rfl (ty := .array .int) (by decide +kernel) rfl rfl (show _ from Nat.le_of_ble_eq_true rfl) (x_dr DX7_init 73 rfl) ?_
  show JC E 7 (b + 331) (b + 332) _ 148 _ [] [.ref (b + 332), .ref (b + 333), .int 0, .ref (b + 334), .int 0, .ref (b + 335), .ref (b + 336), .ref (b + 337), .int 0, .ref (b + 338), .ref (b + 339), .ref (b + 340), .int 0, .ref (b + 341), .ref (b + 342), .ref (b + 343), .int 0, .ref (b + 344), .ref (b + 345), .ref (b + 346), .ref (b + 347), .ref (b + 348), .int 0, .ref (b + 349), .null, .null, .null, .null, .null, .null, .null, .int 0, .null, .null, .null, .null, .null, .null, .null, .null, .null, .int 0] 18 18 441
  refine j_aload_n X (x_dr DX7_init 74 rfl) 0 rfl rfl ?_
  refine j_sipush (v := 160) X (x_dr DX7_init 75 rfl) (by decide) ?_
  refine j_newi (m := 160) X (x_dr DX7_init 76 rfl) rfl (by omega) (rowE_a (K := 350) (o := 13) (k := 24) (by decide) rfl) (by omega) (by omega) ?_
  show JC E 7 (b + 331) (b + 332) _ 154 _ [.ref (b + 350), .ref (b + 331)] [.ref (b + 332), .ref (b + 333), .int 0, .ref (b + 334), .int 0, .ref (b + 335), .ref (b + 336), .ref (b + 337), .int 0, .ref (b + 338), .ref (b + 339), .ref (b + 340), .int 0, .ref (b + 341), .ref (b + 342), .ref (b + 343), .int 0, .ref (b + 344), .ref (b + 345), .ref (b + 346), .ref (b + 347), .ref (b + 348), .int 0, .ref (b + 349), .null, .null, .null, .null, .null, .null, .null, .int 0, .null, .null, .null, .null, .null, .null, .null, .null, .null, .int 0] 19 19 601
  refine j_putF X rfl inX7 tyX7 tyX7_ok nmX7 24 (by decide) rfl mf_7_64 rfl (ty := .array .int) (by decide +kernel) rfl rfl (show _ from Nat.le_of_ble_eq_true rfl) (x_dr DX7_init 77 rfl) ?_
  show JC E 7 (b + 331) (b + 332) _ 157 _ [] [.ref (b + 332), .ref (b + 333), .int 0, .ref (b + 334), .int 0, .ref (b + 335), .ref (b + 336), .ref (b + 337), .int 0, .ref (b + 338), .ref (b + 339), .ref (b + 340), .int 0, .ref (b + 341), .ref (b + 342), .ref (b + 343), .int 0, .ref (b + 344), .ref (b + 345), .ref (b + 346), .ref (b + 347), .ref (b + 348), .int 0, .ref (b + 349), .ref (b + 350), .null, .null, .null, .null, .null, .null, .int 0, .null, .null, .null, .null, .null, .null, .null, .null, .null, .int 0] 19 19 601
  refine j_aload_n X (x_dr DX7_init 78 rfl) 0 rfl rfl ?_
  refine j_sipush (v := 160) X (x_dr DX7_init 79 rfl) (by decide) ?_
  refine j_newi (m := 160) X (x_dr DX7_init 80 rfl) rfl (by omega) (rowE_a (K := 351) (o := 13) (k := 25) (by decide) rfl) (by omega) (by omega) ?_
  show JC E 7 (b + 331) (b + 332) _ 163 _ [.ref (b + 351), .ref (b + 331)] [.ref (b + 332), .ref (b + 333), .int 0, .ref (b + 334), .int 0, .ref (b + 335), .ref (b + 336), .ref (b + 337), .int 0, .ref (b + 338), .ref (b + 339), .ref (b + 340), .int 0, .ref (b + 341), .ref (b + 342), .ref (b + 343), .int 0, .ref (b + 344), .ref (b + 345), .ref (b + 346), .ref (b + 347), .ref (b + 348), .int 0, .ref (b + 349), .ref (b + 350), .null, .null, .null, .null, .null, .null, .int 0, .null, .null, .null, .null, .null, .null, .null, .null, .null, .int 0] 20 20 761
  refine j_putF X rfl inX7 tyX7 tyX7_ok nmX7 25 (by decide) rfl mf_7_67 rfl (ty := .array .int) (by decide +kernel) rfl rfl (show _ from Nat.le_of_ble_eq_true rfl) (x_dr DX7_init 81 rfl) ?_
  show JC E 7 (b + 331) (b + 332) _ 166 _ [] [.ref (b + 332), .ref (b + 333), .int 0, .ref (b + 334), .int 0, .ref (b + 335), .ref (b + 336), .ref (b + 337), .int 0, .ref (b + 338), .ref (b + 339), .ref (b + 340), .int 0, .ref (b + 341), .ref (b + 342), .ref (b + 343), .int 0, .ref (b + 344), .ref (b + 345), .ref (b + 346), .ref (b + 347), .ref (b + 348), .int 0, .ref (b + 349), .ref (b + 350), .ref (b + 351), .null, .null, .null, .null, .null, .int 0, .null, .null, .null, .null, .null, .null, .null, .null, .null, .int 0] 20 20 761
  refine j_aload_n X (x_dr DX7_init 82 rfl) 0 rfl rfl ?_
  refine j_sipush (v := 160) X (x_dr DX7_init 83 rfl) (by decide) ?_
  refine j_newi (m := 160) X (x_dr DX7_init 84 rfl) rfl (by omega) (rowE_a (K := 352) (o := 13) (k := 26) (by decide) rfl) (by omega) (by omega) ?_
  show JC E 7 (b + 331) (b + 332) _ 172 _ [.ref (b + 352), .ref (b + 331)] [.ref (b + 332), .ref (b + 333), .int 0, .ref (b + 334), .int 0, .ref (b + 335), .ref (b + 336), .ref (b + 337), .int 0, .ref (b + 338), .ref (b + 339), .ref (b + 340), .int 0, .ref (b + 341), .ref (b + 342), .ref (b + 343), .int 0, .ref (b + 344), .ref (b + 345), .ref (b + 346), .ref (b + 347), .ref (b + 348), .int 0, .ref (b + 349), .ref (b + 350), .ref (b + 351), .null, .null, .null, .null, .null, .int 0, .null, .null, .null, .null, .null, .null, .null, .null, .null, .int 0] 21 21 921
  refine j_putF X rfl inX7 tyX7 tyX7_ok nmX7 26 (by decide) rfl mf_7_70 rfl (ty := .array .int) (by decide +kernel) rfl rfl (show _ from Nat.le_of_ble_eq_true rfl) (x_dr DX7_init 85 rfl) ?_
  show JC E 7 (b + 331) (b + 332) _ 175 _ [] [.ref (b + 332), .ref (b + 333), .int 0, .ref (b + 334), .int 0, .ref (b + 335), .ref (b + 336), .ref (b + 337), .int 0, .ref (b + 338), .ref (b + 339), .ref (b + 340), .int 0, .ref (b + 341), .ref (b + 342), .ref (b + 343), .int 0, .ref (b + 344), .ref (b + 345), .ref (b + 346), .ref (b + 347), .ref (b + 348), .int 0, .ref (b + 349), .ref (b + 350), .ref (b + 351), .ref (b + 352), .null, .null, .null, .null, .int 0, .null, .null, .null, .null, .null, .null, .null, .null, .null, .int 0] 21 21 921
  refine j_aload_n X (x_dr DX7_init 86 rfl) 0 rfl rfl ?_
  refine j_bipush (v := 20) X (x_dr DX7_init 87 rfl) (by decide) ?_
  refine j_newi (m := 20) X (x_dr DX7_init 88 rfl) rfl (by omega) (rowE_a (K := 353) (o := 13) (k := 27) (by decide) rfl) (by omega) (by omega) ?_
  show JC E 7 (b + 331) (b + 332) _ 180 _ [.ref (b + 353), .ref (b + 331)] [.ref (b + 332), .ref (b + 333), .int 0, .ref (b + 334), .int 0, .ref (b + 335), .ref (b + 336), .ref (b + 337), .int 0, .ref (b + 338), .ref (b + 339), .ref (b + 340), .int 0, .ref (b + 341), .ref (b + 342), .ref (b + 343), .int 0, .ref (b + 344), .ref (b + 345), .ref (b + 346), .ref (b + 347), .ref (b + 348), .int 0, .ref (b + 349), .ref (b + 350), .ref (b + 351), .ref (b + 352), .null, .null, .null, .null, .int 0, .null, .null, .null, .null, .null, .null, .null, .null, .null, .int 0] 22 22 941
  refine j_putF X rfl inX7 tyX7 tyX7_ok nmX7 27 (by decide) rfl mf_7_73 rfl (ty := .array .int) (by decide +kernel) rfl rfl (show _ from Nat.le_of_ble_eq_true rfl) (x_dr DX7_init 89 rfl) ?_
  show JC E 7 (b + 331) (b + 332) _ 183 _ [] [.ref (b + 332), .ref (b + 333), .int 0, .ref (b + 334), .int 0, .ref (b + 335), .ref (b + 336), .ref (b + 337), .int 0, .ref (b + 338), .ref (b + 339), .ref (b + 340), .int 0, .ref (b + 341), .ref (b + 342), .ref (b + 343), .int 0, .ref (b + 344), .ref (b + 345), .ref (b + 346), .ref (b + 347), .ref (b + 348), .int 0, .ref (b + 349), .ref (b + 350), .ref (b + 351), .ref (b + 352), .ref (b + 353), .null, .null, .null, .int 0, .null, .null, .null, .null, .null, .null, .null, .null, .null, .int 0] 22 22 941
  refine j_aload_n X (x_dr DX7_init 90 rfl) 0 rfl rfl ?_
  refine j_bipush (v := 20) X (x_dr DX7_init 91 rfl) (by decide) ?_
  refine j_newi (m := 20) X (x_dr DX7_init 92 rfl) rfl (by omega) (rowE_a (K := 354) (o := 13) (k := 28) (by decide) rfl) (by omega) (by omega) ?_
  show JC E 7 (b + 331) (b + 332) _ 188 _ [.ref (b + 354), .ref (b + 331)] [.ref (b + 332), .ref (b + 333), .int 0, .ref (b + 334), .int 0, .ref (b + 335), .ref (b + 336), .ref (b + 337), .int 0, .ref (b + 338), .ref (b + 339), .ref (b + 340), .int 0, .ref (b + 341), .ref (b + 342), .ref (b + 343), .int 0, .ref (b + 344), .ref (b + 345), .ref (b + 346), .ref (b + 347), .ref (b + 348), .int 0, .ref (b + 349), .ref (b + 350), .ref (b + 351), .ref (b + 352), .ref (b + 353), .null, .null, .null, .int 0, .null, .null, .null, .null, .null, .null, .null, .null, .null, .int 0] 23 23 961
  refine j_putF X rfl inX7 tyX7 tyX7_ok nmX7 28 (by decide) rfl mf_7_76 rfl (ty := .array .int) (by decide +kernel) rfl rfl (show _ from Nat.le_of_ble_eq_true rfl) (x_dr DX7_init 93 rfl) ?_
  show JC E 7 (b + 331) (b + 332) _ 191 _ [] [.ref (b + 332), .ref (b + 333), .int 0, .ref (b + 334), .int 0, .ref (b + 335), .ref (b + 336), .ref (b + 337), .int 0, .ref (b + 338), .ref (b + 339), .ref (b + 340), .int 0, .ref (b + 341), .ref (b + 342), .ref (b + 343), .int 0, .ref (b + 344), .ref (b + 345), .ref (b + 346), .ref (b + 347), .ref (b + 348), .int 0, .ref (b + 349), .ref (b + 350), .ref (b + 351), .ref (b + 352), .ref (b + 353), .ref (b + 354), .null, .null, .int 0, .null, .null, .null, .null, .null, .null, .null, .null, .null, .int 0] 23 23 961
  refine j_aload_n X (x_dr DX7_init 94 rfl) 0 rfl rfl ?_
  refine j_bipush (v := 20) X (x_dr DX7_init 95 rfl) (by decide) ?_
  refine j_newi (m := 20) X (x_dr DX7_init 96 rfl) rfl (by omega) (rowE_a (K := 355) (o := 13) (k := 29) (by decide) rfl) (by omega) (by omega) ?_
  show JC E 7 (b + 331) (b + 332) _ 196 _ [.ref (b + 355), .ref (b + 331)] [.ref (b + 332), .ref (b + 333), .int 0, .ref (b + 334), .int 0, .ref (b + 335), .ref (b + 336), .ref (b + 337), .int 0, .ref (b + 338), .ref (b + 339), .ref (b + 340), .int 0, .ref (b + 341), .ref (b + 342), .ref (b + 343), .int 0, .ref (b + 344), .ref (b + 345), .ref (b + 346), .ref (b + 347), .ref (b + 348), .int 0, .ref (b + 349), .ref (b + 350), .ref (b + 351), .ref (b + 352), .ref (b + 353), .ref (b + 354), .null, .null, .int 0, .null, .null, .null, .null, .null, .null, .null, .null, .null, .int 0] 24 24 981
  refine j_putF X rfl inX7 tyX7 tyX7_ok nmX7 29 (by decide) rfl mf_7_79 rfl (ty := .array .int) (by decide +kernel) rfl rfl (show _ from Nat.le_of_ble_eq_true rfl) (x_dr DX7_init 97 rfl) ?_
  show JC E 7 (b + 331) (b + 332) _ 199 _ [] [.ref (b + 332), .ref (b + 333), .int 0, .ref (b + 334), .int 0, .ref (b + 335), .ref (b + 336), .ref (b + 337), .int 0, .ref (b + 338), .ref (b + 339), .ref (b + 340), .int 0, .ref (b + 341), .ref (b + 342), .ref (b + 343), .int 0, .ref (b + 344), .ref (b + 345), .ref (b + 346), .ref (b + 347), .ref (b + 348), .int 0, .ref (b + 349), .ref (b + 350), .ref (b + 351), .ref (b + 352), .ref (b + 353), .ref (b + 354), .ref (b + 355), .null, .int 0, .null, .null, .null, .null, .null, .null, .null, .null, .null, .int 0] 24 24 981
  refine j_aload_n X (x_dr DX7_init 98 rfl) 0 rfl rfl ?_
  refine j_iconst (v := 2) X (x_dr DX7_init 99 rfl) (by decide) ?_
  refine j_newi (m := 2) X (x_dr DX7_init 100 rfl) rfl (by omega) (rowE_a (K := 356) (o := 13) (k := 30) (by decide) rfl) (by omega) (by omega) ?_
  show JC E 7 (b + 331) (b + 332) _ 203 _ [.ref (b + 356), .ref (b + 331)] [.ref (b + 332), .ref (b + 333), .int 0, .ref (b + 334), .int 0, .ref (b + 335), .ref (b + 336), .ref (b + 337), .int 0, .ref (b + 338), .ref (b + 339), .ref (b + 340), .int 0, .ref (b + 341), .ref (b + 342), .ref (b + 343), .int 0, .ref (b + 344), .ref (b + 345), .ref (b + 346), .ref (b + 347), .ref (b + 348), .int 0, .ref (b + 349), .ref (b + 350), .ref (b + 351), .ref (b + 352), .ref (b + 353), .ref (b + 354), .ref (b + 355), .null, .int 0, .null, .null, .null, .null, .null, .null, .null, .null, .null, .int 0] 25 25 983
  refine j_putF X rfl inX7 tyX7 tyX7_ok nmX7 30 (by decide) rfl mf_7_82 rfl (ty := .array .int) (by decide +kernel) rfl rfl (show _ from Nat.le_of_ble_eq_true rfl) (x_dr DX7_init 101 rfl) ?_
  show JC E 7 (b + 331) (b + 332) _ 206 _ [] [.ref (b + 332), .ref (b + 333), .int 0, .ref (b + 334), .int 0, .ref (b + 335), .ref (b + 336), .ref (b + 337), .int 0, .ref (b + 338), .ref (b + 339), .ref (b + 340), .int 0, .ref (b + 341), .ref (b + 342), .ref (b + 343), .int 0, .ref (b + 344), .ref (b + 345), .ref (b + 346), .ref (b + 347), .ref (b + 348), .int 0, .ref (b + 349), .ref (b + 350), .ref (b + 351), .ref (b + 352), .ref (b + 353), .ref (b + 354), .ref (b + 355), .ref (b + 356), .int 0, .null, .null, .null, .null, .null, .null, .null, .null, .null, .int 0] 25 25 983
  refine j_aload_n X (x_dr DX7_init 102 rfl) 0 rfl rfl ?_
  refine j_bipush (v := 8) X (x_dr DX7_init 103 rfl) (by decide) ?_
  refine j_newi (m := 8) X (x_dr DX7_init 104 rfl) rfl (by omega) (rowE_a (K := 357) (o := 13) (k := 32) (by decide) rfl) (by omega) (by omega) ?_
  show JC E 7 (b + 331) (b + 332) _ 211 _ [.ref (b + 357), .ref (b + 331)] [.ref (b + 332), .ref (b + 333), .int 0, .ref (b + 334), .int 0, .ref (b + 335), .ref (b + 336), .ref (b + 337), .int 0, .ref (b + 338), .ref (b + 339), .ref (b + 340), .int 0, .ref (b + 341), .ref (b + 342), .ref (b + 343), .int 0, .ref (b + 344), .ref (b + 345), .ref (b + 346), .ref (b + 347), .ref (b + 348), .int 0, .ref (b + 349), .ref (b + 350), .ref (b + 351), .ref (b + 352), .ref (b + 353), .ref (b + 354), .ref (b + 355), .ref (b + 356), .int 0, .null, .null, .null, .null, .null, .null, .null, .null, .null, .int 0] 26 26 991
  refine j_putF X rfl inX7 tyX7 tyX7_ok nmX7 32 (by decide) rfl mf_7_85 rfl (ty := .array .int) (by decide +kernel) rfl rfl (show _ from Nat.le_of_ble_eq_true rfl) (x_dr DX7_init 105 rfl) ?_
  show JC E 7 (b + 331) (b + 332) _ 214 _ [] [.ref (b + 332), .ref (b + 333), .int 0, .ref (b + 334), .int 0, .ref (b + 335), .ref (b + 336), .ref (b + 337), .int 0, .ref (b + 338), .ref (b + 339), .ref (b + 340), .int 0, .ref (b + 341), .ref (b + 342), .ref (b + 343), .int 0, .ref (b + 344), .ref (b + 345), .ref (b + 346), .ref (b + 347), .ref (b + 348), .int 0, .ref (b + 349), .ref (b + 350), .ref (b + 351), .ref (b + 352), .ref (b + 353), .ref (b + 354), .ref (b + 355), .ref (b + 356), .int 0, .ref (b + 357), .null, .null, .null, .null, .null, .null, .null, .null, .int 0] 26 26 991
  refine j_aload_n X (x_dr DX7_init 106 rfl) 0 rfl rfl ?_
  refine j_bipush (v := 8) X (x_dr DX7_init 107 rfl) (by decide) ?_
  refine j_newi (m := 8) X (x_dr DX7_init 108 rfl) rfl (by omega) (rowE_a (K := 358) (o := 13) (k := 33) (by decide) rfl) (by omega) (by omega) ?_
  show JC E 7 (b + 331) (b + 332) _ 219 _ [.ref (b + 358), .ref (b + 331)] [.ref (b + 332), .ref (b + 333), .int 0, .ref (b + 334), .int 0, .ref (b + 335), .ref (b + 336), .ref (b + 337), .int 0, .ref (b + 338), .ref (b + 339), .ref (b + 340), .int 0, .ref (b + 341), .ref (b + 342), .ref (b + 343), .int 0, .ref (b + 344), .ref (b + 345), .ref (b + 346), .ref (b + 347), .ref (b + 348), .int 0, .ref (b + 349), .ref (b + 350), .ref (b + 351), .ref (b + 352), .ref (b + 353), .ref (b + 354), .ref (b + 355), .ref (b + 356), .int 0, .ref (b + 357), .null, .null, .null, .null, .null, .null, .null, .null, .int 0] 27 27 999
  refine j_putF X rfl inX7 tyX7 tyX7_ok nmX7 33 (by decide) rfl mf_7_88 rfl (ty := .array .int) (by decide +kernel) rfl rfl (show _ from Nat.le_of_ble_eq_true rfl) (x_dr DX7_init 109 rfl) ?_
  show JC E 7 (b + 331) (b + 332) _ 222 _ [] [.ref (b + 332), .ref (b + 333), .int 0, .ref (b + 334), .int 0, .ref (b + 335), .ref (b + 336), .ref (b + 337), .int 0, .ref (b + 338), .ref (b + 339), .ref (b + 340), .int 0, .ref (b + 341), .ref (b + 342), .ref (b + 343), .int 0, .ref (b + 344), .ref (b + 345), .ref (b + 346), .ref (b + 347), .ref (b + 348), .int 0, .ref (b + 349), .ref (b + 350), .ref (b + 351), .ref (b + 352), .ref (b + 353), .ref (b + 354), .ref (b + 355), .ref (b + 356), .int 0, .ref (b + 357), .ref (b + 358), .null, .null, .null, .null, .null, .null, .null, .int 0] 27 27 999
  refine j_aload_n X (x_dr DX7_init 110 rfl) 0 rfl rfl ?_
  refine j_bipush (v := 8) X (x_dr DX7_init 111 rfl) (by decide) ?_
  refine j_newi (m := 8) X (x_dr DX7_init 112 rfl) rfl (by omega) (rowE_a (K := 359) (o := 13) (k := 34) (by decide) rfl) (by omega) (by omega) ?_
  show JC E 7 (b + 331) (b + 332) _ 227 _ [.ref (b + 359), .ref (b + 331)] [.ref (b + 332), .ref (b + 333), .int 0, .ref (b + 334), .int 0, .ref (b + 335), .ref (b + 336), .ref (b + 337), .int 0, .ref (b + 338), .ref (b + 339), .ref (b + 340), .int 0, .ref (b + 341), .ref (b + 342), .ref (b + 343), .int 0, .ref (b + 344), .ref (b + 345), .ref (b + 346), .ref (b + 347), .ref (b + 348), .int 0, .ref (b + 349), .ref (b + 350), .ref (b + 351), .ref (b + 352), .ref (b + 353), .ref (b + 354), .ref (b + 355), .ref (b + 356), .int 0, .ref (b + 357), .ref (b + 358), .null, .null, .null, .null, .null, .null, .null, .int 0] 28 28 1007
  refine j_putF X rfl inX7 tyX7 tyX7_ok nmX7 34 (by decide) rfl mf_7_91 rfl (ty := .array .int) (by decide +kernel) rfl rfl (show _ from Nat.le_of_ble_eq_true rfl) (x_dr DX7_init 113 rfl) ?_
  show JC E 7 (b + 331) (b + 332) _ 230 _ [] [.ref (b + 332), .ref (b + 333), .int 0, .ref (b + 334), .int 0, .ref (b + 335), .ref (b + 336), .ref (b + 337), .int 0, .ref (b + 338), .ref (b + 339), .ref (b + 340), .int 0, .ref (b + 341), .ref (b + 342), .ref (b + 343), .int 0, .ref (b + 344), .ref (b + 345), .ref (b + 346), .ref (b + 347), .ref (b + 348), .int 0, .ref (b + 349), .ref (b + 350), .ref (b + 351), .ref (b + 352), .ref (b + 353), .ref (b + 354), .ref (b + 355), .ref (b + 356), .int 0, .ref (b + 357), .ref (b + 358), .ref (b + 359), .null, .null, .null, .null, .null, .null, .int 0] 28 28 1007
  refine j_aload_n X (x_dr DX7_init 114 rfl) 0 rfl rfl ?_
  refine j_sipush (v := 200) X (x_dr DX7_init 115 rfl) (by decide) ?_
  refine j_newi (m := 200) X (x_dr DX7_init 116 rfl) rfl (by omega) (rowE_a (K := 360) (o := 13) (k := 35) (by decide) rfl) (by omega) (by omega) ?_
  show JC E 7 (b + 331) (b + 332) _ 236 _ [.ref (b + 360), .ref (b + 331)] [.ref (b + 332), .ref (b + 333), .int 0, .ref (b + 334), .int 0, .ref (b + 335), .ref (b + 336), .ref (b + 337), .int 0, .ref (b + 338), .ref (b + 339), .ref (b + 340), .int 0, .ref (b + 341), .ref (b + 342), .ref (b + 343), .int 0, .ref (b + 344), .ref (b + 345), .ref (b + 346), .ref (b + 347), .ref (b + 348), .int 0, .ref (b + 349), .ref (b + 350), .ref (b + 351), .ref (b + 352), .ref (b + 353), .ref (b + 354), .ref (b + 355), .ref (b + 356), .int 0, .ref (b + 357), .ref (b + 358), .ref (b + 359), .null, .null, .null, .null, .null, .null, .int 0] 29 29 1207
  refine j_putF X rfl inX7 tyX7 tyX7_ok nmX7 35 (by decide) rfl mf_7_94 rfl (ty := .array .int) (by decide +kernel) rfl rfl (show _ from Nat.le_of_ble_eq_true rfl) (x_dr DX7_init 117 rfl) ?_
  show JC E 7 (b + 331) (b + 332) _ 239 _ [] [.ref (b + 332), .ref (b + 333), .int 0, .ref (b + 334), .int 0, .ref (b + 335), .ref (b + 336), .ref (b + 337), .int 0, .ref (b + 338), .ref (b + 339), .ref (b + 340), .int 0, .ref (b + 341), .ref (b + 342), .ref (b + 343), .int 0, .ref (b + 344), .ref (b + 345), .ref (b + 346), .ref (b + 347), .ref (b + 348), .int 0, .ref (b + 349), .ref (b + 350), .ref (b + 351), .ref (b + 352), .ref (b + 353), .ref (b + 354), .ref (b + 355), .ref (b + 356), .int 0, .ref (b + 357), .ref (b + 358), .ref (b + 359), .ref (b + 360), .null, .null, .null, .null, .null, .int 0] 29 29 1207
  refine j_aload_n X (x_dr DX7_init 118 rfl) 0 rfl rfl ?_
  refine j_iconst (v := 4) X (x_dr DX7_init 119 rfl) (by decide) ?_
  refine j_newz (m := 4) X (x_dr DX7_init 120 rfl) rfl (by omega) (rowE_z (K := 361) (o := 13) (k := 36) (by decide) rfl) (by omega) (by omega) ?_
  show JC E 7 (b + 331) (b + 332) _ 243 _ [.ref (b + 361), .ref (b + 331)] [.ref (b + 332), .ref (b + 333), .int 0, .ref (b + 334), .int 0, .ref (b + 335), .ref (b + 336), .ref (b + 337), .int 0, .ref (b + 338), .ref (b + 339), .ref (b + 340), .int 0, .ref (b + 341), .ref (b + 342), .ref (b + 343), .int 0, .ref (b + 344), .ref (b + 345), .ref (b + 346), .ref (b + 347), .ref (b + 348), .int 0, .ref (b + 349), .ref (b + 350), .ref (b + 351), .ref (b + 352), .ref (b + 353), .ref (b + 354), .ref (b + 355), .ref (b + 356), .int 0, .ref (b + 357), .ref (b + 358), .ref (b + 359), .ref (b + 360), .null, .null, .null, .null, .null, .int 0] 30 30 1211
  refine j_putF X rfl inX7 tyX7 tyX7_ok nmX7 36 (by decide) rfl mf_7_97 rfl (ty := .array .boolean) (by decide +kernel) rfl rfl (show _ from Nat.le_of_ble_eq_true rfl) (x_dr DX7_init 121 rfl) ?_
  show JC E 7 (b + 331) (b + 332) _ 246 _ [] [.ref (b + 332), .ref (b + 333), .int 0, .ref (b + 334), .int 0, .ref (b + 335), .ref (b + 336), .ref (b + 337), .int 0, .ref (b + 338), .ref (b + 339), .ref (b + 340), .int 0, .ref (b + 341), .ref (b + 342), .ref (b + 343), .int 0, .ref (b + 344), .ref (b + 345), .ref (b + 346), .ref (b + 347), .ref (b + 348), .int 0, .ref (b + 349), .ref (b + 350), .ref (b + 351), .ref (b + 352), .ref (b + 353), .ref (b + 354), .ref (b + 355), .ref (b + 356), .int 0, .ref (b + 357), .ref (b + 358), .ref (b + 359), .ref (b + 360), .ref (b + 361), .null, .null, .null, .null, .int 0] 30 30 1211
  refine j_aload_n X (x_dr DX7_init 122 rfl) 0 rfl rfl ?_
  refine j_iconst (v := 4) X (x_dr DX7_init 123 rfl) (by decide) ?_
  refine j_newi (m := 4) X (x_dr DX7_init 124 rfl) rfl (by omega) (rowE_a (K := 362) (o := 13) (k := 37) (by decide) rfl) (by omega) (by omega) ?_
  show JC E 7 (b + 331) (b + 332) _ 250 _ [.ref (b + 362), .ref (b + 331)] [.ref (b + 332), .ref (b + 333), .int 0, .ref (b + 334), .int 0, .ref (b + 335), .ref (b + 336), .ref (b + 337), .int 0, .ref (b + 338), .ref (b + 339), .ref (b + 340), .int 0, .ref (b + 341), .ref (b + 342), .ref (b + 343), .int 0, .ref (b + 344), .ref (b + 345), .ref (b + 346), .ref (b + 347), .ref (b + 348), .int 0, .ref (b + 349), .ref (b + 350), .ref (b + 351), .ref (b + 352), .ref (b + 353), .ref (b + 354), .ref (b + 355), .ref (b + 356), .int 0, .ref (b + 357), .ref (b + 358), .ref (b + 359), .ref (b + 360), .ref (b + 361), .null, .null, .null, .null, .int 0] 31 31 1215
  refine j_putF X rfl inX7 tyX7 tyX7_ok nmX7 37 (by decide) rfl mf_7_101 rfl (ty := .array .int) (by decide +kernel) rfl rfl (show _ from Nat.le_of_ble_eq_true rfl) (x_dr DX7_init 125 rfl) ?_
  show JC E 7 (b + 331) (b + 332) _ 253 _ [] [.ref (b + 332), .ref (b + 333), .int 0, .ref (b + 334), .int 0, .ref (b + 335), .ref (b + 336), .ref (b + 337), .int 0, .ref (b + 338), .ref (b + 339), .ref (b + 340), .int 0, .ref (b + 341), .ref (b + 342), .ref (b + 343), .int 0, .ref (b + 344), .ref (b + 345), .ref (b + 346), .ref (b + 347), .ref (b + 348), .int 0, .ref (b + 349), .ref (b + 350), .ref (b + 351), .ref (b + 352), .ref (b + 353), .ref (b + 354), .ref (b + 355), .ref (b + 356), .int 0, .ref (b + 357), .ref (b + 358), .ref (b + 359), .ref (b + 360), .ref (b + 361), .ref (b + 362), .null, .null, .null, .int 0] 31 31 1215
  refine j_aload_n X (x_dr DX7_init 126 rfl) 0 rfl rfl ?_
  refine j_iconst (v := 4) X (x_dr DX7_init 127 rfl) (by decide) ?_
  refine j_newi (m := 4) X (x_dr DX7_init 128 rfl) rfl (by omega) (rowE_a (K := 363) (o := 13) (k := 38) (by decide) rfl) (by omega) (by omega) ?_
  show JC E 7 (b + 331) (b + 332) _ 257 _ [.ref (b + 363), .ref (b + 331)] [.ref (b + 332), .ref (b + 333), .int 0, .ref (b + 334), .int 0, .ref (b + 335), .ref (b + 336), .ref (b + 337), .int 0, .ref (b + 338), .ref (b + 339), .ref (b + 340), .int 0, .ref (b + 341), .ref (b + 342), .ref (b + 343), .int 0, .ref (b + 344), .ref (b + 345), .ref (b + 346), .ref (b + 347), .ref (b + 348), .int 0, .ref (b + 349), .ref (b + 350), .ref (b + 351), .ref (b + 352), .ref (b + 353), .ref (b + 354), .ref (b + 355), .ref (b + 356), .int 0, .ref (b + 357), .ref (b + 358), .ref (b + 359), .ref (b + 360), .ref (b + 361), .ref (b + 362), .null, .null, .null, .int 0] 32 32 1219
  refine j_putF X rfl inX7 tyX7 tyX7_ok nmX7 38 (by decide) rfl mf_7_104 rfl (ty := .array .int) (by decide +kernel) rfl rfl (show _ from Nat.le_of_ble_eq_true rfl) (x_dr DX7_init 129 rfl) ?_
  show JC E 7 (b + 331) (b + 332) _ 260 _ [] [.ref (b + 332), .ref (b + 333), .int 0, .ref (b + 334), .int 0, .ref (b + 335), .ref (b + 336), .ref (b + 337), .int 0, .ref (b + 338), .ref (b + 339), .ref (b + 340), .int 0, .ref (b + 341), .ref (b + 342), .ref (b + 343), .int 0, .ref (b + 344), .ref (b + 345), .ref (b + 346), .ref (b + 347), .ref (b + 348), .int 0, .ref (b + 349), .ref (b + 350), .ref (b + 351), .ref (b + 352), .ref (b + 353), .ref (b + 354), .ref (b + 355), .ref (b + 356), .int 0, .ref (b + 357), .ref (b + 358), .ref (b + 359), .ref (b + 360), .ref (b + 361), .ref (b + 362), .ref (b + 363), .null, .null, .int 0] 32 32 1219
  refine j_aload_n X (x_dr DX7_init 130 rfl) 0 rfl rfl ?_
  refine j_sipush (v := 240) X (x_dr DX7_init 131 rfl) (by decide) ?_
  refine j_newi (m := 240) X (x_dr DX7_init 132 rfl) rfl (by omega) (rowE_a (K := 364) (o := 13) (k := 39) (by decide) rfl) (by omega) (by omega) ?_
  show JC E 7 (b + 331) (b + 332) _ 266 _ [.ref (b + 364), .ref (b + 331)] [.ref (b + 332), .ref (b + 333), .int 0, .ref (b + 334), .int 0, .ref (b + 335), .ref (b + 336), .ref (b + 337), .int 0, .ref (b + 338), .ref (b + 339), .ref (b + 340), .int 0, .ref (b + 341), .ref (b + 342), .ref (b + 343), .int 0, .ref (b + 344), .ref (b + 345), .ref (b + 346), .ref (b + 347), .ref (b + 348), .int 0, .ref (b + 349), .ref (b + 350), .ref (b + 351), .ref (b + 352), .ref (b + 353), .ref (b + 354), .ref (b + 355), .ref (b + 356), .int 0, .ref (b + 357), .ref (b + 358), .ref (b + 359), .ref (b + 360), .ref (b + 361), .ref (b + 362), .ref (b + 363), .null, .null, .int 0] 33 33 1459
  refine j_putF X rfl inX7 tyX7 tyX7_ok nmX7 39 (by decide) rfl mf_7_107 rfl (ty := .array .int) (by decide +kernel) rfl rfl (show _ from Nat.le_of_ble_eq_true rfl) (x_dr DX7_init 133 rfl) ?_
  show JC E 7 (b + 331) (b + 332) _ 269 _ [] [.ref (b + 332), .ref (b + 333), .int 0, .ref (b + 334), .int 0, .ref (b + 335), .ref (b + 336), .ref (b + 337), .int 0, .ref (b + 338), .ref (b + 339), .ref (b + 340), .int 0, .ref (b + 341), .ref (b + 342), .ref (b + 343), .int 0, .ref (b + 344), .ref (b + 345), .ref (b + 346), .ref (b + 347), .ref (b + 348), .int 0, .ref (b + 349), .ref (b + 350), .ref (b + 351), .ref (b + 352), .ref (b + 353), .ref (b + 354), .ref (b + 355), .ref (b + 356), .int 0, .ref (b + 357), .ref (b + 358), .ref (b + 359), .ref (b + 360), .ref (b + 361), .ref (b + 362), .ref (b + 363), .ref (b + 364), .null, .int 0] 33 33 1459
  refine j_aload_n X (x_dr DX7_init 134 rfl) 0 rfl rfl ?_
  refine j_bipush (v := 60) X (x_dr DX7_init 135 rfl) (by decide) ?_
  refine j_newi (m := 60) X (x_dr DX7_init 136 rfl) rfl (by omega) (rowE_a (K := 365) (o := 13) (k := 40) (by decide) rfl) (by omega) (by omega) ?_
  show JC E 7 (b + 331) (b + 332) _ 274 _ [.ref (b + 365), .ref (b + 331)] [.ref (b + 332), .ref (b + 333), .int 0, .ref (b + 334), .int 0, .ref (b + 335), .ref (b + 336), .ref (b + 337), .int 0, .ref (b + 338), .ref (b + 339), .ref (b + 340), .int 0, .ref (b + 341), .ref (b + 342), .ref (b + 343), .int 0, .ref (b + 344), .ref (b + 345), .ref (b + 346), .ref (b + 347), .ref (b + 348), .int 0, .ref (b + 349), .ref (b + 350), .ref (b + 351), .ref (b + 352), .ref (b + 353), .ref (b + 354), .ref (b + 355), .ref (b + 356), .int 0, .ref (b + 357), .ref (b + 358), .ref (b + 359), .ref (b + 360), .ref (b + 361), .ref (b + 362), .ref (b + 363), .ref (b + 364), .null, .int 0] 34 34 1519
  refine j_putF X rfl inX7 tyX7 tyX7_ok nmX7 40 (by decide) rfl mf_7_110 rfl (ty := .array .int) (by decide +kernel) rfl rfl (show _ from Nat.le_of_ble_eq_true rfl) (x_dr DX7_init 137 rfl) ?_
  show JC E 7 (b + 331) (b + 332) _ 277 _ [] [.ref (b + 332), .ref (b + 333), .int 0, .ref (b + 334), .int 0, .ref (b + 335), .ref (b + 336), .ref (b + 337), .int 0, .ref (b + 338), .ref (b + 339), .ref (b + 340), .int 0, .ref (b + 341), .ref (b + 342), .ref (b + 343), .int 0, .ref (b + 344), .ref (b + 345), .ref (b + 346), .ref (b + 347), .ref (b + 348), .int 0, .ref (b + 349), .ref (b + 350), .ref (b + 351), .ref (b + 352), .ref (b + 353), .ref (b + 354), .ref (b + 355), .ref (b + 356), .int 0, .ref (b + 357), .ref (b + 358), .ref (b + 359), .ref (b + 360), .ref (b + 361), .ref (b + 362), .ref (b + 363), .ref (b + 364), .ref (b + 365), .int 0] 34 34 1519
  exact j_vret X XZ hK.symm hN.symm (x_dr DX7_init 138 rfl)
