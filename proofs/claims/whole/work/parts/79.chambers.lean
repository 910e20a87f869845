-- the chambers
set_option maxRecDepth 100000 in
set_option maxHeartbeats 4000000 in
theorem c_o5 {G : xG} {l : Launch} {b : Nat} : CC G l yX2_init cX2_init 1 1 12 2 (b + 21) (b + 22) [] (cD G 2 (b + 21) (b + 22) (fun k => rowE G b s0 (22 + k)) [.ref (b + 22), .ref (b + 23), .ref (b + 24), .ref (b + 25), .ref (b + 26), .ref (b + 27), .ref (b + 28), .ref (b + 29), .int 0, .int 0, .ref (b + 30), .ref (b + 51), .ref (b + 72), .ref (b + 93), .ref (b + 114), .ref (b + 135), .ref (b + 156), .ref (b + 157)] 136) [.null, .null, .null, .null, .null, .null, .null, .null, .int 0, .int 0, .null, .null, .null, .null, .null, .null, .null, .null] 136 1352 := by
  refine CC_of (rows := fun k => rowE G b s0 (22 + k)) [(0, .ref (b + 21))] (by decide +kernel) rfl rfl (Nat.le_of_ble_eq_true rfl) ?_
  intro E hG hl hK hN X XZ
  subst hG
  replace X : CX E cX2_init 1 RX2 1 12 (b + 21) (b + 22) := X
  refine j_aload_n X (x_dr DX2_init 0 rfl) 0 rfl rfl ?_
  refine j_super X ml_2_3 ⟨Nat.le_of_ble_eq_true rfl, Nat.le_of_ble_eq_true rfl⟩ (x_dr DX2_init 1 rfl) ?_
  refine j_aload_n X (x_dr DX2_init 2 rfl) 0 rfl rfl ?_
  refine j_bipush (v := 12) X (x_dr DX2_init 3 rfl) (by decide) ?_
  refine j_newi (m := 12) X (x_dr DX2_init 4 rfl) rfl (by omega) (rowE_a (K := 22) (o := 5) (k := 0) (by decide) rfl) (by omega) (by omega) ?_
  show JC E 2 (b + 21) (b + 22) _ 9 _ [.ref (b + 22), .ref (b + 21)] [.null, .null, .null, .null, .null, .null, .null, .null, .int 0, .int 0, .null, .null, .null, .null, .null, .null, .null, .null] 1 1 12
  refine j_putF X rfl inX2 tyX2 tyX2_ok nmX2 0 (by decide) rfl mf_2_9 rfl (ty := .array .int) (by decide +kernel) rfl rfl (show _ from Nat.le_of_ble_eq_true rfl) (x_dr DX2_init 5 rfl) ?_
  show JC E 2 (b + 21) (b + 22) _ 12 _ [] [.ref (b + 22), .null, .null, .null, .null, .null, .null, .null, .int 0, .int 0, .null, .null, .null, .null, .null, .null, .null, .null] 1 1 12
  refine j_aload_n X (x_dr DX2_init 6 rfl) 0 rfl rfl ?_
  refine j_bipush (v := 12) X (x_dr DX2_init 7 rfl) (by decide) ?_
  refine j_newi (m := 12) X (x_dr DX2_init 8 rfl) rfl (by omega) (rowE_a (K := 23) (o := 5) (k := 1) (by decide) rfl) (by omega) (by omega) ?_
  show JC E 2 (b + 21) (b + 22) _ 17 _ [.ref (b + 23), .ref (b + 21)] [.ref (b + 22), .null, .null, .null, .null, .null, .null, .null, .int 0, .int 0, .null, .null, .null, .null, .null, .null, .null, .null] 2 2 24
  refine j_putF X rfl inX2 tyX2 tyX2_ok nmX2 1 (by decide) rfl mf_2_15 rfl (ty := .array .int) (by decide +kernel) rfl rfl (show _ from Nat.le_of_ble_eq_true rfl) (x_dr DX2_init 9 rfl) ?_
  show JC E 2 (b + 21) (b + 22) _ 20 _ [] [.ref (b + 22), .ref (b + 23), .null, .null, .null, .null, .null, .null, .int 0, .int 0, .null, .null, .null, .null, .null, .null, .null, .null] 2 2 24
  refine j_aload_n X (x_dr DX2_init 10 rfl) 0 rfl rfl ?_
  refine j_bipush (v := 8) X (x_dr DX2_init 11 rfl) (by decide) ?_
  refine j_newi (m := 8) X (x_dr DX2_init 12 rfl) rfl (by omega) (rowE_a (K := 24) (o := 5) (k := 2) (by decide) rfl) (by omega) (by omega) ?_
  show JC E 2 (b + 21) (b + 22) _ 25 _ [.ref (b + 24), .ref (b + 21)] [.ref (b + 22), .ref (b + 23), .null, .null, .null, .null, .null, .null, .int 0, .int 0, .null, .null, .null, .null, .null, .null, .null, .null] 3 3 32
  refine j_putF X rfl inX2 tyX2 tyX2_ok nmX2 2 (by decide) rfl mf_2_18 rfl (ty := .array .int) (by decide +kernel) rfl rfl (show _ from Nat.le_of_ble_eq_true rfl) (x_dr DX2_init 13 rfl) ?_
  show JC E 2 (b + 21) (b + 22) _ 28 _ [] [.ref (b + 22), .ref (b + 23), .ref (b + 24), .null, .null, .null, .null, .null, .int 0, .int 0, .null, .null, .null, .null, .null, .null, .null, .null] 3 3 32
  refine j_aload_n X (x_dr DX2_init 14 rfl) 0 rfl rfl ?_
  refine j_bipush (v := 8) X (x_dr DX2_init 15 rfl) (by decide) ?_
  refine j_newi (m := 8) X (x_dr DX2_init 16 rfl) rfl (by omega) (rowE_a (K := 25) (o := 5) (k := 3) (by decide) rfl) (by omega) (by omega) ?_
  show JC E 2 (b + 21) (b + 22) _ 33 _ [.ref (b + 25), .ref (b + 21)] [.ref (b + 22), .ref (b + 23), .ref (b + 24), .null, .null, .null, .null, .null, .int 0, .int 0, .null, .null, .null, .null, .null, .null, .null, .null] 4 4 40
  refine j_putF X rfl inX2 tyX2 tyX2_ok nmX2 3 (by decide) rfl mf_2_21 rfl (ty := .array .int) (by decide +kernel) rfl rfl (show _ from Nat.le_of_ble_eq_true rfl) (x_dr DX2_init 17 rfl) ?_
  show JC E 2 (b + 21) (b + 22) _ 36 _ [] [.ref (b + 22), .ref (b + 23), .ref (b + 24), .ref (b + 25), .null, .null, .null, .null, .int 0, .int 0, .null, .null, .null, .null, .null, .null, .null, .null] 4 4 40
  refine j_aload_n X (x_dr DX2_init 18 rfl) 0 rfl rfl ?_
  refine j_bipush (v := 8) X (x_dr DX2_init 19 rfl) (by decide) ?_
  refine j_newi (m := 8) X (x_dr DX2_init 20 rfl) rfl (by omega) (rowE_a (K := 26) (o := 5) (k := 4) (by decide) rfl) (by omega) (by omega) ?_
  show JC E 2 (b + 21) (b + 22) _ 41 _ [.ref (b + 26), .ref (b + 21)] [.ref (b + 22), .ref (b + 23), .ref (b + 24), .ref (b + 25), .null, .null, .null, .null, .int 0, .int 0, .null, .null, .null, .null, .null, .null, .null, .null] 5 5 48
  refine j_putF X rfl inX2 tyX2 tyX2_ok nmX2 4 (by decide) rfl mf_2_24 rfl (ty := .array .int) (by decide +kernel) rfl rfl (show _ from Nat.le_of_ble_eq_true rfl) (x_dr DX2_init 21 rfl) ?_
  show JC E 2 (b + 21) (b + 22) _ 44 _ [] [.ref (b + 22), .ref (b + 23), .ref (b + 24), .ref (b + 25), .ref (b + 26), .null, .null, .null, .int 0, .int 0, .null, .null, .null, .null, .null, .null, .null, .null] 5 5 48
  refine j_aload_n X (x_dr DX2_init 22 rfl) 0 rfl rfl ?_
  refine j_bipush (v := 8) X (x_dr DX2_init 23 rfl) (by decide) ?_
  refine j_newi (m := 8) X (x_dr DX2_init 24 rfl) rfl (by omega) (rowE_a (K := 27) (o := 5) (k := 5) (by decide) rfl) (by omega) (by omega) ?_
  show JC E 2 (b + 21) (b + 22) _ 49 _ [.ref (b + 27), .ref (b + 21)] [.ref (b + 22), .ref (b + 23), .ref (b + 24), .ref (b + 25), .ref (b + 26), .null, .null, .null, .int 0, .int 0, .null, .null, .null, .null, .null, .null, .null, .null] 6 6 56
  refine j_putF X rfl inX2 tyX2 tyX2_ok nmX2 5 (by decide) rfl mf_2_27 rfl (ty := .array .int) (by decide +kernel) rfl rfl (show _ from Nat.le_of_ble_eq_true rfl) (x_dr DX2_init 25 rfl) ?_
  show JC E 2 (b + 21) (b + 22) _ 52 _ [] [.ref (b + 22), .ref (b + 23), .ref (b + 24), .ref (b + 25), .ref (b + 26), .ref (b + 27), .null, .null, .int 0, .int 0, .null, .null, .null, .null, .null, .null, .null, .null] 6 6 56
  refine j_aload_n X (x_dr DX2_init 26 rfl) 0 rfl rfl ?_
  refine j_bipush (v := 8) X (x_dr DX2_init 27 rfl) (by decide) ?_
  refine j_newz (m := 8) X (x_dr DX2_init 28 rfl) rfl (by omega) (rowE_z (K := 28) (o := 5) (k := 6) (by decide) rfl) (by omega) (by omega) ?_
  show JC E 2 (b + 21) (b + 22) _ 57 _ [.ref (b + 28), .ref (b + 21)] [.ref (b + 22), .ref (b + 23), .ref (b + 24), .ref (b + 25), .ref (b + 26), .ref (b + 27), .null, .null, .int 0, .int 0, .null, .null, .null, .null, .null, .null, .null, .null] 7 7 64
  refine j_putF X rfl inX2 tyX2 tyX2_ok nmX2 6 (by decide) rfl mf_2_30 rfl (ty := .array .boolean) (by decide +kernel) rfl rfl (show _ from Nat.le_of_ble_eq_true rfl) (x_dr DX2_init 29 rfl) ?_
  show JC E 2 (b + 21) (b + 22) _ 60 _ [] [.ref (b + 22), .ref (b + 23), .ref (b + 24), .ref (b + 25), .ref (b + 26), .ref (b + 27), .ref (b + 28), .null, .int 0, .int 0, .null, .null, .null, .null, .null, .null, .null, .null] 7 7 64
  refine j_aload_n X (x_dr DX2_init 30 rfl) 0 rfl rfl ?_
  refine j_bipush (v := 8) X (x_dr DX2_init 31 rfl) (by decide) ?_
  refine j_newi (m := 8) X (x_dr DX2_init 32 rfl) rfl (by omega) (rowE_a (K := 29) (o := 5) (k := 7) (by decide) rfl) (by omega) (by omega) ?_
  show JC E 2 (b + 21) (b + 22) _ 65 _ [.ref (b + 29), .ref (b + 21)] [.ref (b + 22), .ref (b + 23), .ref (b + 24), .ref (b + 25), .ref (b + 26), .ref (b + 27), .ref (b + 28), .null, .int 0, .int 0, .null, .null, .null, .null, .null, .null, .null, .null] 8 8 72
  refine j_putF X rfl inX2 tyX2 tyX2_ok nmX2 7 (by decide) rfl mf_2_34 rfl (ty := .array .int) (by decide +kernel) rfl rfl (show _ from Nat.le_of_ble_eq_true rfl) (x_dr DX2_init 33 rfl) ?_
  show JC E 2 (b + 21) (b + 22) _ 68 _ [] [.ref (b + 22), .ref (b + 23), .ref (b + 24), .ref (b + 25), .ref (b + 26), .ref (b + 27), .ref (b + 28), .ref (b + 29), .int 0, .int 0, .null, .null, .null, .null, .null, .null, .null, .null] 8 8 72
  refine j_aload_n X (x_dr DX2_init 34 rfl) 0 rfl rfl ?_
  refine j_bipush (v := 20) X (x_dr DX2_init 35 rfl) (by decide) ?_
  refine j_bipush (v := 12) X (x_dr DX2_init 36 rfl) (by decide) ?_
  refine j_mna (m := 12) X (x_mm (x_t1 (List.mem_of_getElem? (i := 87) rfl)) rfl) (x_dr DX2_init 37 rfl) rfl rfl (by omega) (rowE_g (K := 30) (o := 5) (k := 10) (by decide) rfl (by decide) (by omega)) (fun j hj => rowE_r (K := 22 + (8 + 1 + j)) (o := 5) (k := 10) hj ((by decide : ∀ j, j < 20 → iv (22 + (8 + 1 + j)) = (5, 10 + 1, j + 1)) j hj) rfl) (by omega) (by omega) ?_
  show JC E 2 (b + 21) (b + 22) _ 77 _ [.ref (b + 30), .ref (b + 21)] [.ref (b + 22), .ref (b + 23), .ref (b + 24), .ref (b + 25), .ref (b + 26), .ref (b + 27), .ref (b + 28), .ref (b + 29), .int 0, .int 0, .null, .null, .null, .null, .null, .null, .null, .null] 29 29 332
  refine j_putF X rfl inX2 tyX2 tyX2_ok nmX2 10 (by decide) rfl mf_2_39 rfl (ty := .array (.array .int)) (by decide +kernel) rfl rfl (show _ from Nat.le_of_ble_eq_true rfl) (x_dr DX2_init 38 rfl) ?_
  show JC E 2 (b + 21) (b + 22) _ 80 _ [] [.ref (b + 22), .ref (b + 23), .ref (b + 24), .ref (b + 25), .ref (b + 26), .ref (b + 27), .ref (b + 28), .ref (b + 29), .int 0, .int 0, .ref (b + 30), .null, .null, .null, .null, .null, .null, .null] 29 29 332
  refine j_aload_n X (x_dr DX2_init 39 rfl) 0 rfl rfl ?_
  refine j_bipush (v := 20) X (x_dr DX2_init 40 rfl) (by decide) ?_
  refine j_bipush (v := 12) X (x_dr DX2_init 41 rfl) (by decide) ?_
  refine j_mna (m := 12) X (x_mm (x_t1 (List.mem_of_getElem? (i := 87) rfl)) rfl) (x_dr DX2_init 42 rfl) rfl rfl (by omega) (rowE_g (K := 51) (o := 5) (k := 11) (by decide) rfl (by decide) (by omega)) (fun j hj => rowE_r (K := 22 + (29 + 1 + j)) (o := 5) (k := 11) hj ((by decide : ∀ j, j < 20 → iv (22 + (29 + 1 + j)) = (5, 11 + 1, j + 1)) j hj) rfl) (by omega) (by omega) ?_
  show JC E 2 (b + 21) (b + 22) _ 89 _ [.ref (b + 51), .ref (b + 21)] [.ref (b + 22), .ref (b + 23), .ref (b + 24), .ref (b + 25), .ref (b + 26), .ref (b + 27), .ref (b + 28), .ref (b + 29), .int 0, .int 0, .ref (b + 30), .null, .null, .null, .null, .null, .null, .null] 50 50 592
  refine j_putF X rfl inX2 tyX2 tyX2_ok nmX2 11 (by decide) rfl mf_2_42 rfl (ty := .array (.array .int)) (by decide +kernel) rfl rfl (show _ from Nat.le_of_ble_eq_true rfl) (x_dr DX2_init 43 rfl) ?_
  show JC E 2 (b + 21) (b + 22) _ 92 _ [] [.ref (b + 22), .ref (b + 23), .ref (b + 24), .ref (b + 25), .ref (b + 26), .ref (b + 27), .ref (b + 28), .ref (b + 29), .int 0, .int 0, .ref (b + 30), .ref (b + 51), .null, .null, .null, .null, .null, .null] 50 50 592
  refine j_aload_n X (x_dr DX2_init 44 rfl) 0 rfl rfl ?_
  refine j_bipush (v := 20) X (x_dr DX2_init 45 rfl) (by decide) ?_
  refine j_bipush (v := 8) X (x_dr DX2_init 46 rfl) (by decide) ?_
  refine j_mna (m := 8) X (x_mm (x_t1 (List.mem_of_getElem? (i := 87) rfl)) rfl) (x_dr DX2_init 47 rfl) rfl rfl (by omega) (rowE_g (K := 72) (o := 5) (k := 12) (by decide) rfl (by decide) (by omega)) (fun j hj => rowE_r (K := 22 + (50 + 1 + j)) (o := 5) (k := 12) hj ((by decide : ∀ j, j < 20 → iv (22 + (50 + 1 + j)) = (5, 12 + 1, j + 1)) j hj) rfl) (by omega) (by omega) ?_
  show JC E 2 (b + 21) (b + 22) _ 101 _ [.ref (b + 72), .ref (b + 21)] [.ref (b + 22), .ref (b + 23), .ref (b + 24), .ref (b + 25), .ref (b + 26), .ref (b + 27), .ref (b + 28), .ref (b + 29), .int 0, .int 0, .ref (b + 30), .ref (b + 51), .null, .null, .null, .null, .null, .null] 71 71 772
  refine j_putF X rfl inX2 tyX2 tyX2_ok nmX2 12 (by decide) rfl mf_2_45 rfl (ty := .array (.array .int)) (by decide +kernel) rfl rfl (show _ from Nat.le_of_ble_eq_true rfl) (x_dr DX2_init 48 rfl) ?_
  show JC E 2 (b + 21) (b + 22) _ 104 _ [] [.ref (b + 22), .ref (b + 23), .ref (b + 24), .ref (b + 25), .ref (b + 26), .ref (b + 27), .ref (b + 28), .ref (b + 29), .int 0, .int 0, .ref (b + 30), .ref (b + 51), .ref (b + 72), .null, .null, .null, .null, .null] 71 71 772
  refine j_aload_n X (x_dr DX2_init 49 rfl) 0 rfl rfl ?_
  refine j_bipush (v := 20) X (x_dr DX2_init 50 rfl) (by decide) ?_
  refine j_bipush (v := 8) X (x_dr DX2_init 51 rfl) (by decide) ?_
  refine j_mna (m := 8) X (x_mm (x_t1 (List.mem_of_getElem? (i := 87) rfl)) rfl) (x_dr DX2_init 52 rfl) rfl rfl (by omega) (rowE_g (K := 93) (o := 5) (k := 13) (by decide) rfl (by decide) (by omega)) (fun j hj => rowE_r (K := 22 + (71 + 1 + j)) (o := 5) (k := 13) hj ((by decide : ∀ j, j < 20 → iv (22 + (71 + 1 + j)) = (5, 13 + 1, j + 1)) j hj) rfl) (by omega) (by omega) ?_
  show JC E 2 (b + 21) (b + 22) _ 113 _ [.ref (b + 93), .ref (b + 21)] [.ref (b + 22), .ref (b + 23), .ref (b + 24), .ref (b + 25), .ref (b + 26), .ref (b + 27), .ref (b + 28), .ref (b + 29), .int 0, .int 0, .ref (b + 30), .ref (b + 51), .ref (b + 72), .null, .null, .null, .null, .null] 92 92 952
  refine j_putF X rfl inX2 tyX2 tyX2_ok nmX2 13 (by decide) rfl mf_2_48 rfl (ty := .array (.array .int)) (by decide +kernel) rfl rfl (show _ from Nat.le_of_ble_eq_true rfl) (x_dr DX2_init 53 rfl) ?_
  show JC E 2 (b + 21) (b + 22) _ 116 _ [] [.ref (b + 22), .ref (b + 23), .ref (b + 24), .ref (b + 25), .ref (b + 26), .ref (b + 27), .ref (b + 28), .ref (b + 29), .int 0, .int 0, .ref (b + 30), .ref (b + 51), .ref (b + 72), .ref (b + 93), .null, .null, .null, .null] 92 92 952
  refine j_aload_n X (x_dr DX2_init 54 rfl) 0 rfl rfl ?_
  refine j_bipush (v := 20) X (x_dr DX2_init 55 rfl) (by decide) ?_
  refine j_bipush (v := 8) X (x_dr DX2_init 56 rfl) (by decide) ?_
  refine j_mna (m := 8) X (x_mm (x_t1 (List.mem_of_getElem? (i := 87) rfl)) rfl) (x_dr DX2_init 57 rfl) rfl rfl (by omega) (rowE_g (K := 114) (o := 5) (k := 14) (by decide) rfl (by decide) (by omega)) (fun j hj => rowE_r (K := 22 + (92 + 1 + j)) (o := 5) (k := 14) hj ((by decide : ∀ j, j < 20 → iv (22 + (92 + 1 + j)) = (5, 14 + 1, j + 1)) j hj) rfl) (by omega) (by omega) ?_
  show JC E 2 (b + 21) (b + 22) _ 125 _ [.ref (b + 114), .ref (b + 21)] [.ref (b + 22), .ref (b + 23), .ref (b + 24), .ref (b + 25), .ref (b + 26), .ref (b + 27), .ref (b + 28), .ref (b + 29), .int 0, .int 0, .ref (b + 30), .ref (b + 51), .ref (b + 72), .ref (b + 93), .null, .null, .null, .null] 113 113 1132
  refine j_putF X rfl inX2 tyX2 tyX2_ok nmX2 14 (by decide) rfl mf_2_51 rfl (ty := .array (.array .int)) (by decide +kernel) rfl rfl (show _ from Nat.le_of_ble_eq_true rfl) (x_dr DX2_init 58 rfl) ?_
  show JC E 2 (b + 21) (b + 22) _ 128 _ [] [.ref (b + 22), .ref (b + 23), .ref (b + 24), .ref (b + 25), .ref (b + 26), .ref (b + 27), .ref (b + 28), .ref (b + 29), .int 0, .int 0, .ref (b + 30), .ref (b + 51), .ref (b + 72), .ref (b + 93), .ref (b + 114), .null, .null, .null] 113 113 1132
  refine j_aload_n X (x_dr DX2_init 59 rfl) 0 rfl rfl ?_
  refine j_bipush (v := 20) X (x_dr DX2_init 60 rfl) (by decide) ?_
  refine j_bipush (v := 8) X (x_dr DX2_init 61 rfl) (by decide) ?_
  refine j_mna (m := 8) X (x_mm (x_t1 (List.mem_of_getElem? (i := 87) rfl)) rfl) (x_dr DX2_init 62 rfl) rfl rfl (by omega) (rowE_g (K := 135) (o := 5) (k := 15) (by decide) rfl (by decide) (by omega)) (fun j hj => rowE_r (K := 22 + (113 + 1 + j)) (o := 5) (k := 15) hj ((by decide : ∀ j, j < 20 → iv (22 + (113 + 1 + j)) = (5, 15 + 1, j + 1)) j hj) rfl) (by omega) (by omega) ?_
  show JC E 2 (b + 21) (b + 22) _ 137 _ [.ref (b + 135), .ref (b + 21)] [.ref (b + 22), .ref (b + 23), .ref (b + 24), .ref (b + 25), .ref (b + 26), .ref (b + 27), .ref (b + 28), .ref (b + 29), .int 0, .int 0, .ref (b + 30), .ref (b + 51), .ref (b + 72), .ref (b + 93), .ref (b + 114), .null, .null, .null] 134 134 1312
  refine j_putF X rfl inX2 tyX2 tyX2_ok nmX2 15 (by decide) rfl mf_2_54 rfl (ty := .array (.array .int)) (by decide +kernel) rfl rfl (show _ from Nat.le_of_ble_eq_true rfl) (x_dr DX2_init 63 rfl) ?_
  show JC E 2 (b + 21) (b + 22) _ 140 _ [] [.ref (b + 22), .ref (b + 23), .ref (b + 24), .ref (b + 25), .ref (b + 26), .ref (b + 27), .ref (b + 28), .ref (b + 29), .int 0, .int 0, .ref (b + 30), .ref (b + 51), .ref (b + 72), .ref (b + 93), .ref (b + 114), .ref (b + 135), .null, .null] 134 134 1312
  refine j_aload_n X (x_dr DX2_init 64 rfl) 0 rfl rfl ?_
  refine j_bipush (v := 20) X (x_dr DX2_init 65 rfl) (by decide) ?_
  refine j_newi (m := 20) X (x_dr DX2_init 66 rfl) rfl (by omega) (rowE_a (K := 156) (o := 5) (k := 16) (by decide) rfl) (by omega) (by omega) ?_
  show JC E 2 (b + 21) (b + 22) _ 145 _ [.ref (b + 156), .ref (b + 21)] [.ref (b + 22), .ref (b + 23), .ref (b + 24), .ref (b + 25), .ref (b + 26), .ref (b + 27), .ref (b + 28), .ref (b + 29), .int 0, .int 0, .ref (b + 30), .ref (b + 51), .ref (b + 72), .ref (b + 93), .ref (b + 114), .ref (b + 135), .null, .null] 135 135 1332
  refine j_putF X rfl inX2 tyX2 tyX2_ok nmX2 16 (by decide) rfl mf_2_57 rfl (ty := .array .int) (by decide +kernel) rfl rfl (show _ from Nat.le_of_ble_eq_true rfl) (x_dr DX2_init 67 rfl) ?_
  show JC E 2 (b + 21) (b + 22) _ 148 _ [] [.ref (b + 22), .ref (b + 23), .ref (b + 24), .ref (b + 25), .ref (b + 26), .ref (b + 27), .ref (b + 28), .ref (b + 29), .int 0, .int 0, .ref (b + 30), .ref (b + 51), .ref (b + 72), .ref (b + 93), .ref (b + 114), .ref (b + 135), .ref (b + 156), .null] 135 135 1332
  refine j_aload_n X (x_dr DX2_init 68 rfl) 0 rfl rfl ?_
  refine j_bipush (v := 20) X (x_dr DX2_init 69 rfl) (by decide) ?_
  refine j_newi (m := 20) X (x_dr DX2_init 70 rfl) rfl (by omega) (rowE_a (K := 157) (o := 5) (k := 17) (by decide) rfl) (by omega) (by omega) ?_
  show JC E 2 (b + 21) (b + 22) _ 153 _ [.ref (b + 157), .ref (b + 21)] [.ref (b + 22), .ref (b + 23), .ref (b + 24), .ref (b + 25), .ref (b + 26), .ref (b + 27), .ref (b + 28), .ref (b + 29), .int 0, .int 0, .ref (b + 30), .ref (b + 51), .ref (b + 72), .ref (b + 93), .ref (b + 114), .ref (b + 135), .ref (b + 156), .null] 136 136 1352
  refine j_putF X rfl inX2 tyX2 tyX2_ok nmX2 17 (by decide) rfl mf_2_60 rfl (ty := .array .int) (by decide +kernel) rfl rfl (show _ from Nat.le_of_ble_eq_true rfl) (x_dr DX2_init 71 rfl) ?_
  show JC E 2 (b + 21) (b + 22) _ 156 _ [] [.ref (b + 22), .ref (b + 23), .ref (b + 24), .ref (b + 25), .ref (b + 26), .ref (b + 27), .ref (b + 28), .ref (b + 29), .int 0, .int 0, .ref (b + 30), .ref (b + 51), .ref (b + 72), .ref (b + 93), .ref (b + 114), .ref (b + 135), .ref (b + 156), .ref (b + 157)] 136 136 1352
  exact j_vret X XZ hK.symm hN.symm (x_dr DX2_init 72 rfl)
set_option maxRecDepth 100000 in
set_option maxHeartbeats 4000000 in
theorem c_o6 {G : xG} {l : Launch} {b : Nat} : CC G l yX2_init cX2_init 1 1 12 2 (b + 158) (b + 159) [] (cD G 2 (b + 158) (b + 159) (fun k => rowE G b s0 (159 + k)) [.ref (b + 159), .ref (b + 160), .ref (b + 161), .ref (b + 162), .ref (b + 163), .ref (b + 164), .ref (b + 165), .ref (b + 166), .int 0, .int 0, .ref (b + 167), .ref (b + 188), .ref (b + 209), .ref (b + 230), .ref (b + 251), .ref (b + 272), .ref (b + 293), .ref (b + 294)] 136) [.null, .null, .null, .null, .null, .null, .null, .null, .int 0, .int 0, .null, .null, .null, .null, .null, .null, .null, .null] 136 1352 := by
  refine CC_of (rows := fun k => rowE G b s0 (159 + k)) [(0, .ref (b + 158))] (by decide +kernel) rfl rfl (Nat.le_of_ble_eq_true rfl) ?_
  intro E hG hl hK hN X XZ
  subst hG
  replace X : CX E cX2_init 1 RX2 1 12 (b + 158) (b + 159) := X
  refine j_aload_n X (x_dr DX2_init 0 rfl) 0 rfl rfl ?_
  refine j_super X ml_2_3 ⟨Nat.le_of_ble_eq_true rfl, Nat.le_of_ble_eq_true rfl⟩ (x_dr DX2_init 1 rfl) ?_
  refine j_aload_n X (x_dr DX2_init 2 rfl) 0 rfl rfl ?_
  refine j_bipush (v := 12) X (x_dr DX2_init 3 rfl) (by decide) ?_
  refine j_newi (m := 12) X (x_dr DX2_init 4 rfl) rfl (by omega) (rowE_a (K := 159) (o := 6) (k := 0) (by decide) rfl) (by omega) (by omega) ?_
  show JC E 2 (b + 158) (b + 159) _ 9 _ [.ref (b + 159), .ref (b + 158)] [.null, .null, .null, .null, .null, .null, .null, .null, .int 0, .int 0, .null, .null, .null, .null, .null, .null, .null, .null] 1 1 12
  refine j_putF X rfl inX2 tyX2 tyX2_ok nmX2 0 (by decide) rfl mf_2_9 rfl (ty := .array .int) (by decide +kernel) rfl rfl (show _ from Nat.le_of_ble_eq_true rfl) (x_dr DX2_init 5 rfl) ?_
  show JC E 2 (b + 158) (b + 159) _ 12 _ [] [.ref (b + 159), .null, .null, .null, .null, .null, .null, .null, .int 0, .int 0, .null, .null, .null, .null, .null, .null, .null, .null] 1 1 12
  refine j_aload_n X (x_dr DX2_init 6 rfl) 0 rfl rfl ?_
  refine j_bipush (v := 12) X (x_dr DX2_init 7 rfl) (by decide) ?_
  refine j_newi (m := 12) X (x_dr DX2_init 8 rfl) rfl (by omega) (rowE_a (K := 160) (o := 6) (k := 1) (by decide) rfl) (by omega) (by omega) ?_
  show JC E 2 (b + 158) (b + 159) _ 17 _ [.ref (b + 160), .ref (b + 158)] [.ref (b + 159), .null, .null, .null, .null, .null, .null, .null, .int 0, .int 0, .null, .null, .null, .null, .null, .null, .null, .null] 2 2 24
  refine j_putF X rfl inX2 tyX2 tyX2_ok nmX2 1 (by decide) rfl mf_2_15 rfl (ty := .array .int) (by decide +kernel) rfl rfl (show _ from Nat.le_of_ble_eq_true rfl) (x_dr DX2_init 9 rfl) ?_
  show JC E 2 (b + 158) (b + 159) _ 20 _ [] [.ref (b + 159), .ref (b + 160), .null, .null, .null, .null, .null, .null, .int 0, .int 0, .null, .null, .null, .null, .null, .null, .null, .null] 2 2 24
  refine j_aload_n X (x_dr DX2_init 10 rfl) 0 rfl rfl ?_
  refine j_bipush (v := 8) X (x_dr DX2_init 11 rfl) (by decide) ?_
  refine j_newi (m := 8) X (x_dr DX2_init 12 rfl) rfl (by omega) (rowE_a (K := 161) (o := 6) (k := 2) (by decide) rfl) (by omega) (by omega) ?_
  show JC E 2 (b + 158) (b + 159) _ 25 _ [.ref (b + 161), .ref (b + 158)] [.ref (b + 159), .ref (b + 160), .null, .null, .null, .null, .null, .null, .int 0, .int 0, .null, .null, .null, .null, .null, .null, .null, .null] 3 3 32
  refine j_putF X rfl inX2 tyX2 tyX2_ok nmX2 2 (by decide) rfl mf_2_18 rfl (ty := .array .int) (by decide +kernel) rfl rfl (show _ from Nat.le_of_ble_eq_true rfl) (x_dr DX2_init 13 rfl) ?_
  show JC E 2 (b + 158) (b + 159) _ 28 _ [] [.ref (b + 159), .ref (b + 160), .ref (b + 161), .null, .null, .null, .null, .null, .int 0, .int 0, .null, .null, .null, .null, .null, .null, .null, .null] 3 3 32
  refine j_aload_n X (x_dr DX2_init 14 rfl) 0 rfl rfl ?_
  refine j_bipush (v := 8) X (x_dr DX2_init 15 rfl) (by decide) ?_
  refine j_newi (m := 8) X (x_dr DX2_init 16 rfl) rfl (by omega) (rowE_a (K := 162) (o := 6) (k := 3) (by decide) rfl) (by omega) (by omega) ?_
  show JC E 2 (b + 158) (b + 159) _ 33 _ [.ref (b + 162), .ref (b + 158)] [.ref (b + 159), .ref (b + 160), .ref (b + 161), .null, .null, .null, .null, .null, .int 0, .int 0, .null, .null, .null, .null, .null, .null, .null, .null] 4 4 40
  refine j_putF X rfl inX2 tyX2 tyX2_ok nmX2 3 (by decide) rfl mf_2_21 rfl (ty := .array .int) (by decide +kernel) rfl rfl (show _ from Nat.le_of_ble_eq_true rfl) (x_dr DX2_init 17 rfl) ?_
  show JC E 2 (b + 158) (b + 159) _ 36 _ [] [.ref (b + 159), .ref (b + 160), .ref (b + 161), .ref (b + 162), .null, .null, .null, .null, .int 0, .int 0, .null, .null, .null, .null, .null, .null, .null, .null] 4 4 40
  refine j_aload_n X (x_dr DX2_init 18 rfl) 0 rfl rfl ?_
  refine j_bipush (v := 8) X (x_dr DX2_init 19 rfl) (by decide) ?_
  refine j_newi (m := 8) X (x_dr DX2_init 20 rfl) rfl (by omega) (rowE_a (K := 163) (o := 6) (k := 4) (by decide) rfl) (by omega) (by omega) ?_
  show JC E 2 (b + 158) (b + 159) _ 41 _ [.ref (b + 163), .ref (b + 158)] [.ref (b + 159), .ref (b + 160), .ref (b + 161), .ref (b + 162), .null, .null, .null, .null, .int 0, .int 0, .null, .null, .null, .null, .null, .null, .null, .null] 5 5 48
  refine j_putF X rfl inX2 tyX2 tyX2_ok nmX2 4 (by decide) rfl mf_2_24 rfl (ty := .array .int) (by decide +kernel) rfl rfl (show _ from Nat.le_of_ble_eq_true rfl) (x_dr DX2_init 21 rfl) ?_
  show JC E 2 (b + 158) (b + 159) _ 44 _ [] [.ref (b + 159), .ref (b + 160), .ref (b + 161), .ref (b + 162), .ref (b + 163), .null, .null, .null, .int 0, .int 0, .null, .null, .null, .null, .null, .null, .null, .null] 5 5 48
  refine j_aload_n X (x_dr DX2_init 22 rfl) 0 rfl rfl ?_
  refine j_bipush (v := 8) X (x_dr DX2_init 23 rfl) (by decide) ?_
  refine j_newi (m := 8) X (x_dr DX2_init 24 rfl) rfl (by omega) (rowE_a (K := 164) (o := 6) (k := 5) (by decide) rfl) (by omega) (by omega) ?_
  show JC E 2 (b + 158) (b + 159) _ 49 _ [.ref (b + 164), .ref (b + 158)] [.ref (b + 159), .ref (b + 160), .ref (b + 161), .ref (b + 162), .ref (b + 163), .null, .null, .null, .int 0, .int 0, .null, .null, .null, .null, .null, .null, .null, .null] 6 6 56
  refine j_putF X rfl inX2 tyX2 tyX2_ok nmX2 5 (by decide) rfl mf_2_27 rfl (ty := .array .int) (by decide +kernel) rfl rfl (show _ from Nat.le_of_ble_eq_true rfl) (x_dr DX2_init 25 rfl) ?_
  show JC E 2 (b + 158) (b + 159) _ 52 _ [] [.ref (b + 159), .ref (b + 160), .ref (b + 161), .ref (b + 162), .ref (b + 163), .ref (b + 164), .null, .null, .int 0, .int 0, .null, .null, .null, .null, .null, .null, .null, .null] 6 6 56
  refine j_aload_n X (x_dr DX2_init 26 rfl) 0 rfl rfl ?_
  refine j_bipush (v := 8) X (x_dr DX2_init 27 rfl) (by decide) ?_
  refine j_newz (m := 8) X (x_dr DX2_init 28 rfl) rfl (by omega) (rowE_z (K := 165) (o := 6) (k := 6) (by decide) rfl) (by omega) (by omega) ?_
  show JC E 2 (b + 158) (b + 159) _ 57 _ [.ref (b + 165), .ref (b + 158)] [.ref (b + 159), .ref (b + 160), .ref (b + 161), .ref (b + 162), .ref (b + 163), .ref (b + 164), .null, .null, .int 0, .int 0, .null, .null, .null, .null, .null, .null, .null, .null] 7 7 64
  refine j_putF X rfl inX2 tyX2 tyX2_ok nmX2 6 (by decide) rfl mf_2_30 rfl (ty := .array .boolean) (by decide +kernel) rfl rfl (show _ from Nat.le_of_ble_eq_true rfl) (x_dr DX2_init 29 rfl) ?_
  show JC E 2 (b + 158) (b + 159) _ 60 _ [] [.ref (b + 159), .ref (b + 160), .ref (b + 161), .ref (b + 162), .ref (b + 163), .ref (b + 164), .ref (b + 165), .null, .int 0, .int 0, .null, .null, .null, .null, .null, .null, .null, .null] 7 7 64
  refine j_aload_n X (x_dr DX2_init 30 rfl) 0 rfl rfl ?_
  refine j_bipush (v := 8) X (x_dr DX2_init 31 rfl) (by decide) ?_
  refine j_newi (m := 8) X (x_dr DX2_init 32 rfl) rfl (by omega) (rowE_a (K := 166) (o := 6) (k := 7) (by decide) rfl) (by omega) (by omega) ?_
  show JC E 2 (b + 158) (b + 159) _ 65 _ [.ref (b + 166), .ref (b + 158)] [.ref (b + 159), .ref (b + 160), .ref (b + 161), .ref (b + 162), .ref (b + 163), .ref (b + 164), .ref (b + 165), .null, .int 0, .int 0, .null, .null, .null, .null, .null, .null, .null, .null] 8 8 72
  refine j_putF X rfl inX2 tyX2 tyX2_ok nmX2 7 (by decide) rfl mf_2_34 rfl (ty := .array .int) (by decide +kernel) rfl rfl (show _ from Nat.le_of_ble_eq_true rfl) (x_dr DX2_init 33 rfl) ?_
  show JC E 2 (b + 158) (b + 159) _ 68 _ [] [.ref (b + 159), .ref (b + 160), .ref (b + 161), .ref (b + 162), .ref (b + 163), .ref (b + 164), .ref (b + 165), .ref (b + 166), .int 0, .int 0, .null, .null, .null, .null, .null, .null, .null, .null] 8 8 72
  refine j_aload_n X (x_dr DX2_init 34 rfl) 0 rfl rfl ?_
  refine j_bipush (v := 20) X (x_dr DX2_init 35 rfl) (by decide) ?_
  refine j_bipush (v := 12) X (x_dr DX2_init 36 rfl) (by decide) ?_
  refine j_mna (m := 12) X (x_mm (x_t1 (List.mem_of_getElem? (i := 87) rfl)) rfl) (x_dr DX2_init 37 rfl) rfl rfl (by omega) (rowE_g (K := 167) (o := 6) (k := 10) (by decide) rfl (by decide) (by omega)) (fun j hj => rowE_r (K := 159 + (8 + 1 + j)) (o := 6) (k := 10) hj ((by decide : ∀ j, j < 20 → iv (159 + (8 + 1 + j)) = (6, 10 + 1, j + 1)) j hj) rfl) (by omega) (by omega) ?_
  show JC E 2 (b + 158) (b + 159) _ 77 _ [.ref (b + 167), .ref (b + 158)] [.ref (b + 159), .ref (b + 160), .ref (b + 161), .ref (b + 162), .ref (b + 163), .ref (b + 164), .ref (b + 165), .ref (b + 166), .int 0, .int 0, .null, .null, .null, .null, .null, .null, .null, .null] 29 29 332
  refine j_putF X rfl inX2 tyX2 tyX2_ok nmX2 10 (by decide) rfl mf_2_39 rfl (ty := .array (.array .int)) (by decide +kernel) rfl rfl (show _ from Nat.le_of_ble_eq_true rfl) (x_dr DX2_init 38 rfl) ?_
  show JC E 2 (b + 158) (b + 159) _ 80 _ [] [.ref (b + 159), .ref (b + 160), .ref (b + 161), .ref (b + 162), .ref (b + 163), .ref (b + 164), .ref (b + 165), .ref (b + 166), .int 0, .int 0, .ref (b + 167), .null, .null, .null, .null, .null, .null, .null] 29 29 332
  refine j_aload_n X (x_dr DX2_init 39 rfl) 0 rfl rfl ?_
  refine j_bipush (v := 20) X (x_dr DX2_init 40 rfl) (by decide) ?_
  refine j_bipush (v := 12) X (x_dr DX2_init 41 rfl) (by decide) ?_
  refine j_mna (m := 12) X (x_mm (x_t1 (List.mem_of_getElem? (i := 87) rfl)) rfl) (x_dr DX2_init 42 rfl) rfl rfl (by omega) (rowE_g (K := 188) (o := 6) (k := 11) (by decide) rfl (by decide) (by omega)) (fun j hj => rowE_r (K := 159 + (29 + 1 + j)) (o := 6) (k := 11) hj ((by decide : ∀ j, j < 20 → iv (159 + (29 + 1 + j)) = (6, 11 + 1, j + 1)) j hj) rfl) (by omega) (by omega) ?_
  show JC E 2 (b + 158) (b + 159) _ 89 _ [.ref (b + 188), .ref (b + 158)] [.ref (b + 159), .ref (b + 160), .ref (b + 161), .ref (b + 162), .ref (b + 163), .ref (b + 164), .ref (b + 165), .ref (b + 166), .int 0, .int 0, .ref (b + 167), .null, .null, .null, .null, .null, .null, .null] 50 50 592
  refine j_putF X rfl inX2 tyX2 tyX2_ok nmX2 11 (by decide) rfl mf_2_42 rfl (ty := .array (.array .int)) (by decide +kernel) rfl rfl (show _ from Nat.le_of_ble_eq_true rfl) (x_dr DX2_init 43 rfl) ?_
  show JC E 2 (b + 158) (b + 159) _ 92 _ [] [.ref (b + 159), .ref (b + 160), .ref (b + 161), .ref (b + 162), .ref (b + 163), .ref (b + 164), .ref (b + 165), .ref (b + 166), .int 0, .int 0, .ref (b + 167), .ref (b + 188), .null, .null, .null, .null, .null, .null] 50 50 592
  refine j_aload_n X (x_dr DX2_init 44 rfl) 0 rfl rfl ?_
  refine j_bipush (v := 20) X (x_dr DX2_init 45 rfl) (by decide) ?_
  refine j_bipush (v := 8) X (x_dr DX2_init 46 rfl) (by decide) ?_
  refine j_mna (m := 8) X (x_mm (x_t1 (List.mem_of_getElem? (i := 87) rfl)) rfl) (x_dr DX2_init 47 rfl) rfl rfl (by omega) (rowE_g (K := 209) (o := 6) (k := 12) (by decide) rfl (by decide) (by omega)) (fun j hj => rowE_r (K := 159 + (50 + 1 + j)) (o := 6) (k := 12) hj ((by decide : ∀ j, j < 20 → iv (159 + (50 + 1 + j)) = (6, 12 + 1, j + 1)) j hj) rfl) (by omega) (by omega) ?_
  show JC E 2 (b + 158) (b + 159) _ 101 _ [.ref (b + 209), .ref (b + 158)] [.ref (b + 159), .ref (b + 160), .ref (b + 161), .ref (b + 162), .ref (b + 163), .ref (b + 164), .ref (b + 165), .ref (b + 166), .int 0, .int 0, .ref (b + 167), .ref (b + 188), .null, .null, .null, .null, .null, .null] 71 71 772
  refine j_putF X rfl inX2 tyX2 tyX2_ok nmX2 12 (by decide) rfl mf_2_45 rfl (ty := .array (.array .int)) (by decide +kernel) rfl rfl (show _ from Nat.le_of_ble_eq_true rfl) (x_dr DX2_init 48 rfl) ?_
  show JC E 2 (b + 158) (b + 159) _ 104 _ [] [.ref (b + 159), .ref (b + 160), .ref (b + 161), .ref (b + 162), .ref (b + 163), .ref (b + 164), .ref (b + 165), .ref (b + 166), .int 0, .int 0, .ref (b + 167), .ref (b + 188), .ref (b + 209), .null, .null, .null, .null, .null] 71 71 772
  refine j_aload_n X (x_dr DX2_init 49 rfl) 0 rfl rfl ?_
  refine j_bipush (v := 20) X (x_dr DX2_init 50 rfl) (by decide) ?_
  refine j_bipush (v := 8) X (x_dr DX2_init 51 rfl) (by decide) ?_
  refine j_mna (m := 8) X (x_mm (x_t1 (List.mem_of_getElem? (i := 87) rfl)) rfl) (x_dr DX2_init 52 rfl) rfl rfl (by omega) (rowE_g (K := 230) (o := 6) (k := 13) (by decide) rfl (by decide) (by omega)) (fun j hj => rowE_r (K := 159 + (71 + 1 + j)) (o := 6) (k := 13) hj ((by decide : ∀ j, j < 20 → iv (159 + (71 + 1 + j)) = (6, 13 + 1, j + 1)) j hj) rfl) (by omega) (by omega) ?_
  show JC E 2 (b + 158) (b + 159) _ 113 _ [.ref (b + 230), .ref (b + 158)] [.ref (b + 159), .ref (b + 160), .ref (b + 161), .ref (b + 162), .ref (b + 163), .ref (b + 164), .ref (b + 165), .ref (b + 166), .int 0, .int 0, .ref (b + 167), .ref (b + 188), .ref (b + 209), .null, .null, .null, .null, .null] 92 92 952
  refine j_putF X rfl inX2 tyX2 tyX2_ok nmX2 13 (by decide) rfl mf_2_48 rfl (ty := .array (.array .int)) (by decide +kernel) rfl rfl (show _ from Nat.le_of_ble_eq_true rfl) (x_dr DX2_init 53 rfl) ?_
  show JC E 2 (b + 158) (b + 159) _ 116 _ [] [.ref (b + 159), .ref (b + 160), .ref (b + 161), .ref (b + 162), .ref (b + 163), .ref (b + 164), .ref (b + 165), .ref (b + 166), .int 0, .int 0, .ref (b + 167), .ref (b + 188), .ref (b + 209), .ref (b + 230), .null, .null, .null, .null] 92 92 952
  refine j_aload_n X (x_dr DX2_init 54 rfl) 0 rfl rfl ?_
  refine j_bipush (v := 20) X (x_dr DX2_init 55 rfl) (by decide) ?_
  refine j_bipush (v := 8) X (x_dr DX2_init 56 rfl) (by decide) ?_
  refine j_mna (m := 8) X (x_mm (x_t1 (List.mem_of_getElem? (i := 87) rfl)) rfl) (x_dr DX2_init 57 rfl) rfl rfl (by omega) (rowE_g (K := 251) (o := 6) (k := 14) (by decide) rfl (by decide) (by omega)) (fun j hj => rowE_r (K := 159 + (92 + 1 + j)) (o := 6) (k := 14) hj ((by decide : ∀ j, j < 20 → iv (159 + (92 + 1 + j)) = (6, 14 + 1, j + 1)) j hj) rfl) (by omega) (by omega) ?_
  show JC E 2 (b + 158) (b + 159) _ 125 _ [.ref (b + 251), .ref (b + 158)] [.ref (b + 159), .ref (b + 160), .ref (b + 161), .ref (b + 162), .ref (b + 163), .ref (b + 164), .ref (b + 165), .ref (b + 166), .int 0, .int 0, .ref (b + 167), .ref (b + 188), .ref (b + 209), .ref (b + 230), .null, .null, .null, .null] 113 113 1132
  refine j_putF X rfl inX2 tyX2 tyX2_ok nmX2 14 (by decide) rfl mf_2_51 rfl (ty := .array (.array .int)) (by decide +kernel) rfl rfl (show _ from Nat.le_of_ble_eq_true rfl) (x_dr DX2_init 58 rfl) ?_
  show JC E 2 (b + 158) (b + 159) _ 128 _ [] [.ref (b + 159), .ref (b + 160), .ref (b + 161), .ref (b + 162), .ref (b + 163), .ref (b + 164), .ref (b + 165), .ref (b + 166), .int 0, .int 0, .ref (b + 167), .ref (b + 188), .ref (b + 209), .ref (b + 230), .ref (b + 251), .null, .null, .null] 113 113 1132
  refine j_aload_n X (x_dr DX2_init 59 rfl) 0 rfl rfl ?_
  refine j_bipush (v := 20) X (x_dr DX2_init 60 rfl) (by decide) ?_
  refine j_bipush (v := 8) X (x_dr DX2_init 61 rfl) (by decide) ?_
  refine j_mna (m := 8) X (x_mm (x_t1 (List.mem_of_getElem? (i := 87) rfl)) rfl) (x_dr DX2_init 62 rfl) rfl rfl (by omega) (rowE_g (K := 272) (o := 6) (k := 15) (by decide) rfl (by decide) (by omega)) (fun j hj => rowE_r (K := 159 + (113 + 1 + j)) (o := 6) (k := 15) hj ((by decide : ∀ j, j < 20 → iv (159 + (113 + 1 + j)) = (6, 15 + 1, j + 1)) j hj) rfl) (by omega) (by omega) ?_
  show JC E 2 (b + 158) (b + 159) _ 137 _ [.ref (b + 272), .ref (b + 158)] [.ref (b + 159), .ref (b + 160), .ref (b + 161), .ref (b + 162), .ref (b + 163), .ref (b + 164), .ref (b + 165), .ref (b + 166), .int 0, .int 0, .ref (b + 167), .ref (b + 188), .ref (b + 209), .ref (b + 230), .ref (b + 251), .null, .null, .null] 134 134 1312
  refine j_putF X rfl inX2 tyX2 tyX2_ok nmX2 15 (by decide) rfl mf_2_54 rfl (ty := .array (.array .int)) (by decide +kernel) rfl rfl (show _ from Nat.le_of_ble_eq_true rfl) (x_dr DX2_init 63 rfl) ?_
  show JC E 2 (b + 158) (b + 159) _ 140 _ [] [.ref (b + 159), .ref (b + 160), .ref (b + 161), .ref (b + 162), .ref (b + 163), .ref (b + 164), .ref (b + 165), .ref (b + 166), .int 0, .int 0, .ref (b + 167), .ref (b + 188), .ref (b + 209), .ref (b + 230), .ref (b + 251), .ref (b + 272), .null, .null] 134 134 1312
  refine j_aload_n X (x_dr DX2_init 64 rfl) 0 rfl rfl ?_
  refine j_bipush (v := 20) X (x_dr DX2_init 65 rfl) (by decide) ?_
  refine j_newi (m := 20) X (x_dr DX2_init 66 rfl) rfl (by omega) (rowE_a (K := 293) (o := 6) (k := 16) (by decide) rfl) (by omega) (by omega) ?_
  show JC E 2 (b + 158) (b + 159) _ 145 _ [.ref (b + 293), .ref (b + 158)] [.ref (b + 159), .ref (b + 160), .ref (b + 161), .ref (b + 162), .ref (b + 163), .ref (b + 164), .ref (b + 165), .ref (b + 166), .int 0, .int 0, .ref (b + 167), .ref (b + 188), .ref (b + 209), .ref (b + 230), .ref (b + 251), .ref (b + 272), .null, .null] 135 135 1332
  refine j_putF X rfl inX2 tyX2 tyX2_ok nmX2 16 (by decide) rfl mf_2_57 rfl (ty := .array .int) (by decide +kernel) rfl rfl (show _ from Nat.le_of_ble_eq_true rfl) (x_dr DX2_init 67 rfl) ?_
  show JC E 2 (b + 158) (b + 159) _ 148 _ [] [.ref (b + 159), .ref (b + 160), .ref (b + 161), .ref (b + 162), .ref (b + 163), .ref (b + 164), .ref (b + 165), .ref (b + 166), .int 0, .int 0, .ref (b + 167), .ref (b + 188), .ref (b + 209), .ref (b + 230), .ref (b + 251), .ref (b + 272), .ref (b + 293), .null] 135 135 1332
  refine j_aload_n X (x_dr DX2_init 68 rfl) 0 rfl rfl ?_
  refine j_bipush (v := 20) X (x_dr DX2_init 69 rfl) (by decide) ?_
  refine j_newi (m := 20) X (x_dr DX2_init 70 rfl) rfl (by omega) (rowE_a (K := 294) (o := 6) (k := 17) (by decide) rfl) (by omega) (by omega) ?_
  show JC E 2 (b + 158) (b + 159) _ 153 _ [.ref (b + 294), .ref (b + 158)] [.ref (b + 159), .ref (b + 160), .ref (b + 161), .ref (b + 162), .ref (b + 163), .ref (b + 164), .ref (b + 165), .ref (b + 166), .int 0, .int 0, .ref (b + 167), .ref (b + 188), .ref (b + 209), .ref (b + 230), .ref (b + 251), .ref (b + 272), .ref (b + 293), .null] 136 136 1352
  refine j_putF X rfl inX2 tyX2 tyX2_ok nmX2 17 (by decide) rfl mf_2_60 rfl (ty := .array .int) (by decide +kernel) rfl rfl (show _ from Nat.le_of_ble_eq_true rfl) (x_dr DX2_init 71 rfl) ?_
  show JC E 2 (b + 158) (b + 159) _ 156 _ [] [.ref (b + 159), .ref (b + 160), .ref (b + 161), .ref (b + 162), .ref (b + 163), .ref (b + 164), .ref (b + 165), .ref (b + 166), .int 0, .int 0, .ref (b + 167), .ref (b + 188), .ref (b + 209), .ref (b + 230), .ref (b + 251), .ref (b + 272), .ref (b + 293), .ref (b + 294)] 136 136 1352
  exact j_vret X XZ hK.symm hN.symm (x_dr DX2_init 72 rfl)
